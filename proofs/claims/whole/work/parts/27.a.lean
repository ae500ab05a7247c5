/-! the model's State: roll, pass -/
theorem inM_mono {T U T' U' : Int} (hT : T ≤ T') (hU : U ≤ U') {f k : Nat} {v : Int} (h : inM T U f k v) : inM T' U' f k v := by
  unfold inM at *
  split <;> simp only [] at h ⊢ <;> omega
theorem WTM.mono {T U T' U' : Int} {M : zM} (h : WTM T U M) (hT : T ≤ T') (hU : U ≤ U') (hT2 : T' ≤ 1000000) (hU2 : U' ≤ 100000000) : WTM T' U' M := by
  have := h.2.2
  exact ⟨fun f i k => inM_mono hT hU (h.1 f i k), h.2.1, ⟨by omega, hT2⟩, ⟨by omega, hU2⟩⟩
theorem lenM_eq {M M' : zM} {q : Int} (h : ∀ f, f < 8 → M' f = M f) : lenM M' q = lenM M q := by
  unfold lenM; rw [h 1 (by decide), h 2 (by decide), h 4 (by decide), h 5 (by decide)]
theorem fewN_eq {M M' : zM} (h0 : M' 0 0 5 = M 0 0 5) (h : ∀ f, 4 ≤ f → f < 7 → M' f = M f) (to w : Int) (d : Nat) (a : Int) : fewN M' to w d a = fewN M to w d a := by
  induction d generalizing a with
  | zero => rfl
  | succ d ih =>
    rw [fewN_s, fewN_s, h0]
    have e : ∀ n, fewI M' to w d a n = fewI M to w d a n := by
      intro n
      induction n with
      | zero => rfl
      | succ n ihn =>
        rw [fewI_s, fewI_s, ihn, fewS, fewS, h 4 (by decide) (by decide), h 5 (by decide) (by decide), h 6 (by decide) (by decide), ih]
    rw [e]
theorem zfst_congr {P Q : Nat → Prop} [DecidablePred P] [DecidablePred Q] {n : Nat} (h : ∀ k, k < n → (P k ↔ Q k)) : zfst P n = zfst Q n := by
  induction n with
  | zero => rfl
  | succ n ih =>
    have i := ih (fun k hk => h k (by omega))
    simp only [zfst, i]
    by_cases q : P n
    · rw [if_pos q, if_pos ((h n (by omega)).mp q)]
    · rw [if_neg q, if_neg (fun z => q ((h n (by omega)).mpr z))]
theorem zcnt_congr {P Q : Nat → Prop} [DecidablePred P] [DecidablePred Q] {n : Nat} (h : ∀ k, k < n → (P k ↔ Q k)) : zcnt P n = zcnt Q n := by
  induction n with
  | zero => rfl
  | succ n ih =>
    have i := ih (fun k hk => h k (by omega))
    simp only [zcnt, i]
    by_cases q : P n
    · rw [if_pos q, if_pos ((h n (by omega)).mp q)]
    · rw [if_neg q, if_neg (fun z => q ((h n (by omega)).mpr z))]
theorem firstM_eq {M M' : zM} (h0 : M' 0 0 5 = M 0 0 5) (h : ∀ f, 4 ≤ f → f < 7 → M' f = M f) (a to w : Int) : firstM M' a to w = firstM M a to w := by
  have e0 : zfst (firstP M' a to w) (M' 0 0 5).toNat = zfst (firstP M a to w) (M' 0 0 5).toNat := zfst_congr (fun k _ => by
    simp only [firstP, fewM, h 4 (by decide) (by decide), h 5 (by decide) (by decide), h 6 (by decide) (by decide), fewN_eq h0 h])
  have e : zfst (firstP M' a to w) (M' 0 0 5).toNat = zfst (firstP M a to w) (M 0 0 5).toNat := e0.trans (by rw [h0])
  have e2 : fewM M' a to w = fewM M a to w := fewN_eq h0 h _ _ _ _
  have e3 : (M' 0 0 5).toNat = (M 0 0 5).toNat := by rw [h0]
  by_cases q : 0 < fewM M a to w ∧ zfst (firstP M a to w) (M 0 0 5).toNat < (M 0 0 5).toNat
  · unfold firstM
    rw [if_pos q, if_pos (by omega), e]
  · unfold firstM
    rw [if_neg q, if_neg (by omega)]
/-- slot k of line q moves; A.2: where the next trolley that stays is laid -/
def rollS (u : Nat) (q : Int) (k : Nat) (A : zM × Nat) : zM × Nat :=
  if A.1 15 u k - 1 = 0 then
    if A.1 14 u k = -1 then (zup (zup A.1 15 u k (A.1 15 u k - 1)) 13 u q.toNat (A.1 13 u q.toNat - 1), A.2)
    else (zup (zup (zup (zup (comeM (zup A.1 15 u k (A.1 15 u k - 1)) u (A.1 14 u k) (A.1 5 0 q.toNat)) 14 u k (-1)) 15 u k ((lenM A.1 q + 9) / 10)) 14 u A.2 (-1)) 15 u A.2 ((lenM A.1 q + 9) / 10), A.2 + 1)
  else (zup (zup (zup A.1 15 u k (A.1 15 u k - 1)) 14 u A.2 (A.1 14 u k)) 15 u A.2 (A.1 15 u k - 1), A.2 + 1)
def rollI (M : zM) (u : Nat) (q : Int) : Nat → zM × Nat
  | 0 => (M, 3 * q.toNat)
  | j + 1 => rollS u q (3 * q.toNat + j) (rollI M u q j)
def rollM (M : zM) (u : Nat) (q : Int) : zM := (rollI M u q (M 13 u q.toNat).toNat).1
def rollOK (M : zM) (u : Nat) (q : Int) : Prop := ∀ j : Nat, (j : Int) < M 13 u q.toNat → (rollI M u q j).1 15 u (3 * q.toNat + j) - 1 = 0 → (rollI M u q j).1 14 u (3 * q.toNat + j) ≠ -1 → (rollI M u q j).1 18 u ((rollI M u q j).1 5 0 q.toNat).toNat ≤ 11
theorem rollS_fr {u : Nat} {q : Int} {k : Nat} {A : zM × Nat} {f : Nat} (h : ¬ (f = 13 ∨ f = 14 ∨ f = 15 ∨ f = 18 ∨ f = 19 ∨ f = 20 ∨ f = 21 ∨ f = 22 ∨ f = 24)) : (rollS u q k A).1 f = A.1 f := by
  simp only [rollS]
  split
  · split
    · simp only []; rw [zup_fr (by omega), zup_fr (by omega)]
    · simp only []; rw [zup_fr (by omega), zup_fr (by omega), zup_fr (by omega), zup_fr (by omega), comeM_fr (by omega), zup_fr (by omega)]
  · simp only []; rw [zup_fr (by omega), zup_fr (by omega), zup_fr (by omega)]
theorem rollI_fr {M : zM} {u : Nat} {q : Int} {n f : Nat} (h : ¬ (f = 13 ∨ f = 14 ∨ f = 15 ∨ f = 18 ∨ f = 19 ∨ f = 20 ∨ f = 21 ∨ f = 22 ∨ f = 24)) : (rollI M u q n).1 f = M f := by
  induction n with
  | zero => rfl
  | succ n ih => rw [rollI, rollS_fr h, ih]
theorem rollM_fr {M : zM} {u : Nat} {q : Int} {f : Nat} (h : ¬ (f = 13 ∨ f = 14 ∨ f = 15 ∨ f = 18 ∨ f = 19 ∨ f = 20 ∨ f = 21 ∨ f = 22 ∨ f = 24)) : rollM M u q f = M f := rollI_fr h
theorem rollI_le (M : zM) (u : Nat) (q : Int) (n : Nat) : (rollI M u q n).2 ≤ 3 * q.toNat + n := by
  induction n with
  | zero => exact Nat.le_refl _
  | succ n ih =>
    rw [rollI, rollS]
    split
    · split <;> simp only [] <;> omega
    · simp only []; omega
theorem rollI_out (M : zM) (u : Nat) (q : Int) (n : Nat) : M 13 u q.toNat - n ≤ (rollI M u q n).1 13 u q.toNat ∧ (rollI M u q n).1 13 u q.toNat ≤ M 13 u q.toNat := by
  induction n with
  | zero => simp [rollI]
  | succ n ih =>
    rw [rollI, rollS]
    split
    · split
      · simp only [zup]; simp; omega
      · simp only []; rw [zup_fr (by decide), zup_fr (by decide), zup_fr (by decide), zup_fr (by decide), comeM_fr (by decide), zup_fr (by decide)]; omega
    · simp only []; rw [zup_fr (by decide), zup_fr (by decide), zup_fr (by decide)]; omega
theorem rollS_wt {T U : Int} {u : Nat} {q : Int} {k : Nat} {A : zM × Nat} (h : WTM T U A.1) (hU : U + 1 ≤ 100000000) (ho : 1 ≤ A.1 13 u q.toNat) (hs : A.1 15 u k - 1 = 0 → A.1 14 u k ≠ -1 → A.1 18 u (A.1 5 0 q.toNat).toNat ≤ 11) : WTM T (U + 1) (rollS u q k A).1 := by
  have hh := h.2.2
  have h15 : -(1000 + U) ≤ A.1 15 u k ∧ A.1 15 u k ≤ 1000 := h.1 15 u k
  have h14 : -1 ≤ A.1 14 u k ∧ A.1 14 u k ≤ 11 := h.1 14 u k
  have h13 : 0 ≤ A.1 13 u q.toNat ∧ A.1 13 u q.toNat ≤ 3 := h.1 13 u _
  have h5 : 0 ≤ A.1 5 0 q.toNat ∧ A.1 5 0 q.toNat ≤ 7 := h.1 5 0 _
  have hl := lenM_bd h q
  have h1 : WTM T (U + 1) (zup A.1 15 u k (A.1 15 u k - 1)) := (h.mono (T' := T) (U' := U + 1) (by omega) (by omega) (by omega) (by omega)).up (f := 15) (by decide) (show _ ∧ _ from ⟨by omega, by omega⟩)
  simp only [rollS]
  split
  · rename_i q1
    split
    · exact h1.up (f := 13) (by decide) (show _ ∧ _ from ⟨by omega, by omega⟩)
    · rename_i q2
      refine ((((comeM_wt h1 ⟨by omega, by omega⟩ h5 ?_).up (f := 14) (by decide) (show _ ∧ _ from ⟨by omega, by omega⟩)).up (f := 15) (by decide) (show _ ∧ _ from ⟨by omega, by omega⟩)).up (f := 14) (by decide) (show _ ∧ _ from ⟨by omega, by omega⟩)).up (f := 15) (by decide) (show _ ∧ _ from ⟨by omega, by omega⟩)
      rw [zup_fr (by decide)]
      exact hs q1 q2
  · exact (h1.up (f := 14) (by decide) (show _ ∧ _ from h14)).up (f := 15) (by decide) (show _ ∧ _ from ⟨by omega, by omega⟩)
theorem rollI_wt {T U : Int} {M : zM} (h : WTM T U M) {u : Nat} {q : Int} (hR : rollOK M u q) (n : Nat) (hn : (n : Int) ≤ M 13 u q.toNat) (hU : U + n ≤ 100000000) : WTM T (U + n) (rollI M u q n).1 := by
  induction n with
  | zero => simpa [rollI] using h
  | succ n ih =>
    have ho := rollI_out M u q n
    have := rollS_wt (u := u) (q := q) (k := 3 * q.toNat + n) (ih (by omega) (by omega)) (by omega) (by omega) (hR n (by omega))
    rw [show U + ((n + 1 : Nat) : Int) = U + n + 1 by omega]
    exact this
theorem rollM_wt {T U : Int} {M : zM} (h : WTM T U M) {u : Nat} {q : Int} (hR : rollOK M u q) (hU : U + 3 ≤ 100000000) : WTM T (U + 3) (rollM M u q) := by
  have h13 : 0 ≤ M 13 u q.toNat ∧ M 13 u q.toNat ≤ 3 := h.1 13 u _
  have hh := h.2.2
  exact (rollI_wt h hR (M 13 u q.toNat).toNat (by omega) (by omega)).mono (by omega) (by omega) (by omega) (by omega)
def beginOK (M : zM) (u : Nat) (q : Int) : Prop :=
  (∀ k : Nat, (k : Int) < M 18 u (M 4 0 q.toNat).toNat → M 21 u (M 19 u (12 * (M 4 0 q.toNat).toNat + k)).toNat = M 4 0 q.toNat) ∧
  (∀ k : Nat, (k : Int) < M 18 u (M 4 0 q.toNat).toNat → 20 ≤ M 8 0 (M 19 u (12 * (M 4 0 q.toNat).toNat + k)).toNat ∧ M 8 0 (M 19 u (12 * (M 4 0 q.toNat).toNat + k)).toNat ≤ 120) ∧
  (∀ i k : Nat, i < k → (k : Int) < M 18 u (M 4 0 q.toNat).toNat → M 19 u (12 * (M 4 0 q.toNat).toNat + i) ≠ M 19 u (12 * (M 4 0 q.toNat).toNat + k))
theorem seatM_fr {M : zM} {u : Nat} {q r : Int} {w f : Nat} (h : ¬ (f = 13 ∨ f = 14 ∨ f = 15 ∨ f = 16 ∨ f = 17 ∨ f = 18 ∨ f = 19 ∨ f = 20 ∨ f = 21 ∨ f = 23)) : seatM M u q r w f = M f := by
  rw [seatM, zup_fr (by omega), zup_fr (by omega), zup_fr (by omega), zup_fr (by omega), seatM1, zup_fr (by omega), zup_fr (by omega), zup_fr (by omega), zup_fr (by omega), strikeM_fr (by omega)]
theorem beginM_fr {M : zM} {u : Nat} {q : Int} {f : Nat} (h : ¬ (f = 13 ∨ f = 14 ∨ f = 15 ∨ f = 16 ∨ f = 17 ∨ f = 18 ∨ f = 19 ∨ f = 20 ∨ f = 21 ∨ f = 23)) : beginM M u q f = M f := by
  unfold beginM
  split
  · exact seatM_fr h
  · rfl
theorem beginM_wt {T U : Int} {M : zM} (h : WTM T U M) {u : Nat} {q : Int} (hq : 0 ≤ q ∧ q < M 0 0 5) (ho : M 13 u q.toNat ≤ 2) (hB : beginOK M u q) : WTM T U (beginM M u q) := by
  have h18 : 0 ≤ M 18 u (M 4 0 q.toNat).toNat ∧ M 18 u (M 4 0 q.toNat).toNat ≤ 12 := h.1 18 u _
  unfold beginM
  split
  · rename_i z
    refine seatM_wt h (h.1 19 u _) hq ?_ ho (hB.2.1 _ (by omega))
    rw [hB.1 _ (by omega)]
    omega
  · exact h
/-- the place of a rider in the queue of its platform -/
def strW (M : zM) (u r : Nat) : Nat := zfst (fun k => M 19 u (12 * (M 21 u r).toNat + k) = (r : Int)) 12
def strikeOK (M : zM) (u r : Nat) : Prop := (0 ≤ M 21 u r ∧ M 21 u r ≤ 7) ∧ (strW M u r : Int) < M 18 u (M 21 u r).toNat ∧ M 18 u (M 21 u r).toNat ≤ 12
def tireSM (u r : Nat) (M : zM) : zM :=
  if M 20 u r = 0 then
    if fewN M (M 10 0 r) (M 8 0 r) 61 (M 21 u r) = -1 then zup (strikeM (zup M 22 u r (M 22 u r + 1)) u r (strW M u r)) 20 u r 3
    else if M 22 u r + 1 < M 9 0 r then zup M 22 u r (M 22 u r + 1) else zup (strikeM (zup M 22 u r (M 22 u r + 1)) u r (strW M u r)) 20 u r 3
  else M
theorem tireSM_fr {u r : Nat} {M : zM} {f : Nat} (h : ¬ (f = 18 ∨ f = 19 ∨ f = 20 ∨ f = 22)) : tireSM u r M f = M f := by
  unfold tireSM
  repeat' split
  all_goals first | rfl | rw [zup_fr (by omega), strikeM_fr (by omega), zup_fr (by omega)] | rw [zup_fr (by omega)]
theorem tireSM_wt {T U : Int} {M : zM} (h : WTM T U M) {u r : Nat} (hU : U + 1 ≤ 100000000) (hS : M 20 u r = 0 → strikeOK M u r) : WTM T (U + 1) (tireSM u r M) := by
  have hh := h.2.2
  have h22 : -(1000 + U) ≤ M 22 u r ∧ M 22 u r ≤ 1000 + U := h.1 22 u r
  have h0 : WTM T (U + 1) M := h.mono (by omega) (by omega) (by omega) (by omega)
  have h1 : WTM T (U + 1) (zup M 22 u r (M 22 u r + 1)) := h0.up (f := 22) (by decide) (show _ ∧ _ from ⟨by omega, by omega⟩)
  have h2 : M 20 u r = 0 → WTM T (U + 1) (zup (strikeM (zup M 22 u r (M 22 u r + 1)) u r (strW M u r)) 20 u r 3) := fun z => by
    refine (strikeM_wt h1 ?_).up (f := 20) (by decide) (show _ ∧ _ from ⟨by omega, by omega⟩)
    rw [zup_fr (by decide), zup_fr (by decide)]
    have h3 := (hS z).2.1
    simp only [Int.toNat_natCast]
    omega
  unfold tireSM
  split
  · rename_i z
    split
    · exact h2 z
    · split
      · exact h1
      · exact h2 z
  · exact h0
def rollsM (M : zM) (u : Nat) (n : Nat) : zM := zit (fun l M => rollM M u l) n M
def beginSM (u l : Nat) (M : zM) : zM := if closedM M l (M 11 u 0) then M else if M 12 u l ≤ M 13 u l then M else beginM M u l
def beginsM (M : zM) (u : Nat) (n : Nat) : zM := zit (beginSM u) n M
def tiresM (M : zM) (u : Nat) (n : Nat) : zM := zit (tireSM u) n M
theorem rollsM_fr {M : zM} {u n f : Nat} (h : ¬ (f = 13 ∨ f = 14 ∨ f = 15 ∨ f = 18 ∨ f = 19 ∨ f = 20 ∨ f = 21 ∨ f = 22 ∨ f = 24)) : rollsM M u n f = M f := zit_fr (fun j M => rollM_fr h) n M
theorem beginSM_fr {u l : Nat} {M : zM} {f : Nat} (h : ¬ (f = 13 ∨ f = 14 ∨ f = 15 ∨ f = 16 ∨ f = 17 ∨ f = 18 ∨ f = 19 ∨ f = 20 ∨ f = 21 ∨ f = 23)) : beginSM u l M f = M f := by
  unfold beginSM
  repeat' split
  all_goals first | rfl | exact beginM_fr h
theorem beginsM_fr {M : zM} {u n f : Nat} (h : ¬ (f = 13 ∨ f = 14 ∨ f = 15 ∨ f = 16 ∨ f = 17 ∨ f = 18 ∨ f = 19 ∨ f = 20 ∨ f = 21 ∨ f = 23)) : beginsM M u n f = M f := zit_fr (fun j M => beginSM_fr h) n M
theorem tiresM_fr {M : zM} {u n f : Nat} (h : ¬ (f = 18 ∨ f = 19 ∨ f = 20 ∨ f = 22)) : tiresM M u n f = M f := zit_fr (fun j M => tireSM_fr h) n M
theorem rollsM_wt {T U : Int} {M : zM} (h : WTM T U M) {u : Nat} (n : Nat) (hU : U + 3 * n ≤ 100000000) (hR : ∀ l, l < n → rollOK (rollsM M u l) u l) : WTM T (U + 3 * n) (rollsM M u n) := by
  induction n with
  | zero => simpa [rollsM, zit] using h
  | succ n ih =>
    have := rollM_wt (u := u) (q := (n : Int)) (ih (by omega) (fun l hl => hR l (by omega))) (hR n (by omega)) (by omega)
    rw [show U + 3 * ((n + 1 : Nat) : Int) = U + 3 * n + 3 by omega]
    exact this
theorem beginsM_wt {T U : Int} {M : zM} (h : WTM T U M) {u : Nat} (n : Nat) (hn : (n : Int) ≤ M 0 0 5) (hB : ∀ l, l < n → ¬ closedM (beginsM M u l) l (beginsM M u l 11 u 0) → ¬ beginsM M u l 12 u l ≤ beginsM M u l 13 u l → beginOK (beginsM M u l) u l) : WTM T U (beginsM M u n) := by
  induction n with
  | zero => exact h
  | succ n ih =>
    have i := ih (by omega) (fun l hl => hB l (by omega))
    show WTM T U (beginSM u n (beginsM M u n))
    unfold beginSM
    split
    · exact i
    · rename_i z1
      split
      · exact i
      · rename_i z2
        have h12 : 0 ≤ beginsM M u n 12 u n ∧ beginsM M u n 12 u n ≤ 3 := i.1 12 u n
        have h05 : beginsM M u n 0 0 5 = M 0 0 5 := by rw [beginsM_fr (by decide)]
        exact beginM_wt i ⟨by omega, by rw [h05]; omega⟩ (by rw [Int.toNat_natCast]; omega) (hB n (by omega) z1 z2)
theorem tiresM_wt {T U : Int} {M : zM} (h : WTM T U M) {u : Nat} (n : Nat) (hU : U + n ≤ 100000000) (hS : ∀ r, r < n → tiresM M u r 20 u r = 0 → strikeOK (tiresM M u r) u r) : WTM T (U + n) (tiresM M u n) := by
  induction n with
  | zero => simpa [tiresM, zit] using h
  | succ n ih =>
    have := tireSM_wt (u := u) (r := n) (ih (by omega) (fun l hl => hS l (by omega))) (by omega) (hS n (by omega))
    rw [show U + ((n + 1 : Nat) : Int) = U + n + 1 by omega]
    exact this
def rolled (M : zM) (u : Nat) : zM := rollsM M u (M 0 0 5).toNat
def begun (M : zM) (u : Nat) : zM := beginsM (rolled M u) u (M 0 0 5).toNat
def tired (M : zM) (u : Nat) : zM := tiresM (begun M u) u (M 0 0 10).toNat
def passM (M : zM) (u : Nat) : zM := zup (tired M u) 11 u 0 (M 11 u 0 + 1)
/-- what the model's minute wants -/
def passOK (M : zM) (u : Nat) : Prop :=
  (∀ l, l < (M 0 0 5).toNat → rollOK (rollsM M u l) u l) ∧
  (∀ l, l < (M 0 0 5).toNat → ¬ closedM (beginsM (rolled M u) u l) l (beginsM (rolled M u) u l 11 u 0) → ¬ beginsM (rolled M u) u l 12 u l ≤ beginsM (rolled M u) u l 13 u l → beginOK (beginsM (rolled M u) u l) u l) ∧
  (∀ r, r < (M 0 0 10).toNat → tiresM (begun M u) u r 20 u r = 0 → strikeOK (tiresM (begun M u) u r) u r)
theorem rolled_fr {M : zM} {u f : Nat} (h : ¬ (f = 13 ∨ f = 14 ∨ f = 15 ∨ f = 18 ∨ f = 19 ∨ f = 20 ∨ f = 21 ∨ f = 22 ∨ f = 24)) : rolled M u f = M f := rollsM_fr h
theorem begun_fr {M : zM} {u f : Nat} (h : ¬ (f = 13 ∨ f = 14 ∨ f = 15 ∨ f = 16 ∨ f = 17 ∨ f = 18 ∨ f = 19 ∨ f = 20 ∨ f = 21 ∨ f = 22 ∨ f = 23 ∨ f = 24)) : begun M u f = M f := by rw [begun, beginsM_fr (by omega), rolled_fr (by omega)]
theorem tired_fr {M : zM} {u f : Nat} (h : ¬ (f = 13 ∨ f = 14 ∨ f = 15 ∨ f = 16 ∨ f = 17 ∨ f = 18 ∨ f = 19 ∨ f = 20 ∨ f = 21 ∨ f = 22 ∨ f = 23 ∨ f = 24)) : tired M u f = M f := by rw [tired, tiresM_fr (by omega), begun_fr h]
theorem passM_fr {M : zM} {u f : Nat} (h : ¬ (f = 11 ∨ f = 13 ∨ f = 14 ∨ f = 15 ∨ f = 16 ∨ f = 17 ∨ f = 18 ∨ f = 19 ∨ f = 20 ∨ f = 21 ∨ f = 22 ∨ f = 23 ∨ f = 24)) : passM M u f = M f := by rw [passM, zup_fr (by omega), tired_fr (by omega)]
theorem rolled_wt {T U : Int} {M : zM} (h : WTM T U M) {u : Nat} (hP : passOK M u) (hU : U + 36 ≤ 100000000) : WTM T (U + 36) (rolled M u) := by
  have hlc : 0 ≤ M 0 0 5 ∧ M 0 0 5 ≤ 12 := h.1 0 0 5
  have hh := h.2.2
  exact (rollsM_wt h (M 0 0 5).toNat (by omega) hP.1).mono (by omega) (by omega) (by omega) (by omega)
theorem begun_wt {T U : Int} {M : zM} (h : WTM T U M) {u : Nat} (hP : passOK M u) (hU : U + 36 ≤ 100000000) : WTM T (U + 36) (begun M u) := by
  have hlc : 0 ≤ M 0 0 5 ∧ M 0 0 5 ≤ 12 := h.1 0 0 5
  exact beginsM_wt (rolled_wt h hP hU) (M 0 0 5).toNat (by rw [rolled_fr (by decide)]; omega) hP.2.1
theorem tired_wt {T U : Int} {M : zM} (h : WTM T U M) {u : Nat} (hP : passOK M u) (hU : U + 48 ≤ 100000000) : WTM T (U + 48) (tired M u) := by
  have hrc : 0 ≤ M 0 0 10 ∧ M 0 0 10 ≤ 12 := h.1 0 0 10
  have hh := h.2.2
  exact (tiresM_wt (begun_wt h hP (by omega)) (M 0 0 10).toNat (by omega) hP.2.2).mono (by omega) (by omega) (by omega) (by omega)
theorem passM_wt {T U : Int} {M : zM} (h : WTM T U M) {u : Nat} (hP : passOK M u) (hT : T + 1 ≤ 1000000) (hU : U + 48 ≤ 100000000) : WTM (T + 1) (U + 48) (passM M u) := by
  have hmi : 0 ≤ M 11 u 0 ∧ M 11 u 0 ≤ T := h.1 11 u 0
  have hh := h.2.2
  exact ((tired_wt h hP hU).mono (T' := T + 1) (by omega) (Int.le_refl _) (by omega) (by omega)).up (f := 11) (by decide) (show _ ∧ _ from ⟨by omega, by omega⟩)
