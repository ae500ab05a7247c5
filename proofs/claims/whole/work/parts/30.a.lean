/-! the model's faces that move minutes: pass, arrives, advise; digest -/
def passMN (M : zM) (u n : Nat) : zM := zit (fun _ M => passM M u) n M
theorem passMN_fr {M : zM} {u n f : Nat} (h : ¬ (f = 11 ∨ f = 13 ∨ f = 14 ∨ f = 15 ∨ f = 16 ∨ f = 17 ∨ f = 18 ∨ f = 19 ∨ f = 20 ∨ f = 21 ∨ f = 22 ∨ f = 23 ∨ f = 24)) : passMN M u n f = M f := zit_fr (fun j M => passM_fr h) n M
theorem passMN_wt {T U : Int} {M : zM} (h : WTM T U M) {u : Nat} (n : Nat) (hT : T + n ≤ 1000000) (hU : U + 48 * n ≤ 100000000) (hP : ∀ j, j < n → passOK (passMN M u j) u) : WTM (T + n) (U + 48 * n) (passMN M u n) := by
  induction n with
  | zero => simpa [passMN, zit] using h
  | succ n ih =>
    have := passM_wt (u := u) (ih (by omega) (by omega) (fun j hj => hP j (by omega))) (hP n (by omega)) (by omega) (by omega)
    rw [show U + 48 * ((n + 1 : Nat) : Int) = U + 48 * n + 48 by omega, show T + ((n + 1 : Nat) : Int) = T + n + 1 by omega]
    exact this
theorem manyM_bd {T U : Int} {M : zM} (h : WTM T U M) (u : Nat) (st : Int) : 0 ≤ manyM M u st ∧ manyM M u st ≤ 12 := by
  have h6 : 0 ≤ M 0 0 10 ∧ M 0 0 10 ≤ 12 := h.1 0 0 10
  have := zcnt_le (fun j => M 20 u j = st) (M 0 0 10).toNat
  simp only [manyM]; omega
theorem zcp_ex {X M : zM} {f g i j n : Nat} (h : ∀ f i k, ∃ i', X f i k = M f i' k) (hfg : f = g) : ∀ f' i' k, ∃ i2, zcp X f i g j n f' i' k = M f' i2 k := by
  subst hfg
  intro f' i' k
  simp only [zcp]
  split
  · rename_i q; obtain ⟨rfl, -, -⟩ := q; exact h f' i k
  · exact h f' i' k
theorem becomeM_ex (M : zM) (u v : Nat) : ∀ f i k, ∃ i', becomeM M u v f i k = M f i' k := by
  unfold becomeM
  refine zcp_ex (zcp_ex (zcp_ex (zcp_ex (zcp_ex (zcp_ex (zcp_ex (zcp_ex (zcp_ex (zcp_ex (zcp_ex (zcp_ex (zcp_ex (fun f i k => ?_) rfl) rfl) rfl) rfl) rfl) rfl) rfl) rfl) rfl) rfl) rfl) rfl) rfl
  simp only [zup]
  split
  · rename_i q; obtain ⟨rfl, rfl, rfl⟩ := q; exact ⟨v, rfl⟩
  · exact ⟨i, rfl⟩
theorem becomeM_fr {M : zM} {u v f : Nat} (h : ¬ (11 ≤ f ∧ f ≤ 24)) : becomeM M u v f = M f := by
  unfold becomeM
  funext i
  rw [zcp_off (by omega), zcp_off (by omega), zcp_off (by omega), zcp_off (by omega), zcp_off (by omega), zcp_off (by omega), zcp_off (by omega), zcp_off (by omega), zcp_off (by omega), zcp_off (by omega), zcp_off (by omega), zcp_off (by omega), zcp_off (by omega), zup_fr (by omega)]
theorem becomeM_off {M : zM} {u v f i : Nat} (h : i ≠ u) : becomeM M u v f i = M f i := by
  unfold becomeM
  rw [zcp_off (by omega), zcp_off (by omega), zcp_off (by omega), zcp_off (by omega), zcp_off (by omega), zcp_off (by omega), zcp_off (by omega), zcp_off (by omega), zcp_off (by omega), zcp_off (by omega), zcp_off (by omega), zcp_off (by omega), zcp_off (by omega), zup_off (by omega)]
theorem becomeM_wt {T U : Int} {M : zM} (h : WTM T U M) (u v : Nat) : WTM T U (becomeM M u v) := by
  refine ⟨fun f i k => ?_, ?_, h.2.2⟩
  · obtain ⟨i', e⟩ := becomeM_ex M u v f i k
    rw [e]
    exact h.1 f i' k
  · rw [becomeM_fr (f := 0) (by omega), becomeM_fr (f := 3) (by omega), becomeM_fr (f := 4) (by omega), becomeM_fr (f := 5) (by omega)]
    exact h.2.1
theorem becomeM_12 {M : zM} {u v k : Nat} (hk : k < 12) : becomeM M u v 12 u k = M 12 v k := by
  unfold becomeM
  rw [zcp_off (by omega), zcp_off (by omega), zcp_off (by omega), zcp_off (by omega), zcp_off (by omega), zcp_off (by omega), zcp_off (by omega), zcp_off (by omega), zcp_off (by omega), zcp_off (by omega), zcp_off (by omega), zcp_off (by omega)]
  simp [zcp, zup, hk]
def kPassM (n : Int) : Int := if 1 ≤ n ∧ n ≤ 100 then 0 else 1
def passFM (M : zM) (n : Int) : zM := if kPassM n = 0 then passMN (zup M 0 0 0 0) 0 n.toNat else thM M (kPassM n)
def passFR (M : zM) (n : Int) : Int := if kPassM n = 0 then manyM (passMN (zup M 0 0 0 0) 0 n.toNat) 0 2 - manyM (zup M 0 0 0 0) 0 2 else 0
def arrMN (B : zM) (r n : Nat) : zM := zit (fun _ M => if M 20 1 r < 2 then passM M 1 else M) n B
theorem arrMN_s {M : zM} {r n : Nat} (h : arrMN M r n 20 1 r < 2) : arrMN M r (n + 1) = passM (arrMN M r n) 1 := by
  show (if arrMN M r n 20 1 r < 2 then passM (arrMN M r n) 1 else arrMN M r n) = _
  rw [if_pos h]
theorem arrMN_stop {M : zM} {r n : Nat} (h : ¬ arrMN M r n 20 1 r < 2) (k : Nat) : arrMN M r (n + k) = arrMN M r n := by
  induction k with
  | zero => rfl
  | succ k ih =>
    show (if arrMN M r (n + k) 20 1 r < 2 then passM (arrMN M r (n + k)) 1 else arrMN M r (n + k)) = _
    rw [ih, if_neg h]
theorem arrMN_fr {M : zM} {r n f : Nat} (h : ¬ (f = 11 ∨ f = 13 ∨ f = 14 ∨ f = 15 ∨ f = 16 ∨ f = 17 ∨ f = 18 ∨ f = 19 ∨ f = 20 ∨ f = 21 ∨ f = 22 ∨ f = 23 ∨ f = 24)) : arrMN M r n f = M f := by
  refine zit_fr (fun j M => ?_) n M
  split
  · exact passM_fr h
  · rfl
theorem arrMN_wt {T U : Int} {M : zM} (h : WTM T U M) {r : Nat} (n : Nat) (hT : T + n ≤ 1000000) (hU : U + 48 * n ≤ 100000000) (hP : ∀ j, j < n → arrMN M r j 20 1 r < 2 → passOK (arrMN M r j) 1) : WTM (T + n) (U + 48 * n) (arrMN M r n) := by
  induction n with
  | zero => simpa [arrMN, zit] using h
  | succ n ih =>
    have h1 := ih (by omega) (by omega) (fun j hj => hP j (by omega))
    have hh := h1.2.2
    show WTM _ _ (if arrMN M r n 20 1 r < 2 then passM (arrMN M r n) 1 else arrMN M r n)
    split
    · rename_i q
      have := passM_wt (u := 1) h1 (hP n (by omega) q) (by omega) (by omega)
      rw [show U + 48 * ((n + 1 : Nat) : Int) = U + 48 * n + 48 by omega, show T + ((n + 1 : Nat) : Int) = T + n + 1 by omega]
      exact this
    · exact h1.mono (by omega) (by omega) (by omega) (by omega)
def kArrM (M : zM) (n : Int) : Int := if 0 ≤ n ∧ n ≤ M 0 0 10 - 1 then 0 else 1
def aheadM (M : zM) : zM := becomeM (zup M 0 0 0 0) 1 0
def arrFM (M : zM) (n : Int) : zM := if kArrM M n = 0 then arrMN (aheadM M) n.toNat 200 else thM M (kArrM M n)
def arrFR (M : zM) (n : Int) : Int := if kArrM M n = 0 then arrMN (aheadM M) n.toNat 200 24 1 n.toNat else 0
theorem aheadM_10 (M : zM) : aheadM M 0 0 10 = M 0 0 10 := by rw [aheadM, becomeM_fr (by omega)]; rfl
theorem aheadM_5 (M : zM) : aheadM M 0 0 5 = M 0 0 5 := by rw [aheadM, becomeM_fr (by omega)]; rfl
/-- one trolley more on line i of the state ahead -/
def moreM (M : zM) (i : Nat) : zM := zup (becomeM M 1 0) 12 1 i (becomeM M 1 0 12 1 i + 1)
theorem moreM_wt {T U : Int} {M : zM} (h : WTM T U M) {i : Nat} (hi : i < 12) (h3 : M 12 0 i ≠ 3) : WTM T U (moreM M i) := by
  have h12 : 0 ≤ M 12 0 i ∧ M 12 0 i ≤ 3 := h.1 12 0 i
  refine (becomeM_wt h 1 0).up (f := 12) (by decide) ?_
  rw [becomeM_12 hi]
  exact (show _ ∧ _ from ⟨by omega, by omega⟩)
theorem moreM_5 (M : zM) (i : Nat) : moreM M i 0 0 5 = M 0 0 5 := by rw [moreM, zup_fr (by decide), becomeM_fr (by omega)]
def advMS (n : Int) (i : Nat) (s : zM × (Int × Int)) : zM × (Int × Int) :=
  if s.1 12 0 i = 3 then s else if manyM (passMN (moreM s.1 i) 1 n.toNat) 1 2 ≤ s.2.1 then (passMN (moreM s.1 i) 1 n.toNat, s.2) else (passMN (moreM s.1 i) 1 n.toNat, (manyM (passMN (moreM s.1 i) 1 n.toNat) 1 2, (i : Int)))
def advM0 (B : zM) (n : Int) : zM × (Int × Int) := (passMN B 1 n.toNat, (manyM (passMN B 1 n.toNat) 1 2, -1))
def advMN (B : zM) (n : Int) (j : Nat) : zM × (Int × Int) := zit (advMS n) j (advM0 B n)
def kAdvM (n : Int) : Int := if 1 ≤ n ∧ n ≤ 30 then 0 else 1
def advFM (M : zM) (n : Int) : zM := if kAdvM n = 0 then (advMN (aheadM M) n (M 0 0 5).toNat).1 else thM M (kAdvM n)
def advFR (M : zM) (n : Int) : Int := if kAdvM n = 0 then (advMN (aheadM M) n (M 0 0 5).toNat).2.2 else 0
/-- what advise wants -/
def advOK (B : zM) (n : Int) : Prop := (∀ j : Nat, (j : Int) < n → passOK (passMN B 1 j) 1) ∧ ∀ i : Nat, (i : Int) < B 0 0 5 → (advMN B n i).1 12 0 i ≠ 3 → ∀ j : Nat, (j : Int) < n → passOK (passMN (moreM (advMN B n i).1 i) 1 j) 1
theorem advM_inv {T U : Int} {M : zM} (h : WTM T U M) {n : Int} (hn : 1 ≤ n ∧ n ≤ 30) (hP : advOK M n) (hT : T + 400 ≤ 1000000) (hU : U + 20000 ≤ 100000000) (j : Nat) (hj : j ≤ (M 0 0 5).toNat) :
    WTM (T + 30 * (j + 1)) (U + 1440 * (j + 1)) (advMN M n j).1 ∧ (advMN M n j).1 0 0 5 = M 0 0 5 ∧ (0 ≤ (advMN M n j).2.1 ∧ (advMN M n j).2.1 ≤ 12) ∧ (-1 ≤ (advMN M n j).2.2 ∧ (advMN M n j).2.2 ≤ 11) := by
  have hh := h.2.2
  have h5 : 0 ≤ M 0 0 5 ∧ M 0 0 5 ≤ 12 := h.1 0 0 5
  induction j with
  | zero =>
    have h1 := (passMN_wt (u := 1) h n.toNat (by omega) (by omega) (fun j hj => hP.1 j (by omega))).mono (T' := T + 30 * (((0 : Nat) : Int) + 1)) (U' := U + 1440 * (((0 : Nat) : Int) + 1)) (by omega) (by omega) (by omega) (by omega)
    refine ⟨h1, ?_, manyM_bd h1 1 2, ?_⟩
    · show passMN M 1 n.toNat 0 0 5 = _
      rw [passMN_fr (by decide)]
    · exact ⟨show (-1 : Int) ≤ -1 by decide, show (-1 : Int) ≤ 11 by decide⟩
  | succ j ih =>
    obtain ⟨i1, i2, i3, i4⟩ := ih (by omega)
    have e : advMN M n (j + 1) = advMS n j (advMN M n j) := rfl
    rw [e]
    simp only [advMS]
    split
    · exact ⟨i1.mono (by omega) (by omega) (by omega) (by omega), i2, i3, i4⟩
    · rename_i hs
      have w1 := (passMN_wt (u := 1) (moreM_wt i1 (i := j) (by omega) hs) n.toNat (by omega) (by omega) (fun k hk => hP.2 j (by omega) hs k (by omega))).mono (T' := T + 30 * (((j + 1 : Nat) : Int) + 1)) (U' := U + 1440 * (((j + 1 : Nat) : Int) + 1)) (by omega) (by omega) (by omega) (by omega)
      have w3 : passMN (moreM (advMN M n j).1 j) 1 n.toNat 0 0 5 = M 0 0 5 := by rw [passMN_fr (by decide), moreM_5, i2]
      split
      · exact ⟨w1, w3, i3, i4⟩
      · exact ⟨w1, w3, manyM_bd w1 1 2, ⟨by show -1 ≤ (j : Int); omega, by show (j : Int) ≤ 11; omega⟩⟩
def digPM (B : zM) (n : Nat) (d : Int64) : Int64 := dgo (fun k => B 19 0 (12 * n + k)) (dgo (fun w => platToldM B n w) d 8) (B 18 0 n).toNat
def dgM2 (B : zM) : Int64 := dgo (fun k => B 7 0 k) (dgo (fun w => countedM B w) 593 10) 12
def dgM3 (B : zM) : Int64 := dgg (fun x9 d => digPM B x9 d) (dgM2 B) (B 0 0 1).toNat
def dgM4 (B : zM) : Int64 := dgg (fun x9 d => dgo (fun w => lineToldM B x9 w) d 11) (dgM3 B) (B 0 0 5).toNat
def dgM5 (B : zM) : Int64 := dgg (fun x9 d => dgo (fun w => riderToldM B x9 w) d 11) (dgM4 B) (B 0 0 10).toNat
