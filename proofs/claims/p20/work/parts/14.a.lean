theorem inC_mono {T U T' U' : Int} (hT : T ≤ T') (hU : U ≤ U') {f k : Nat} {v : Int} (h : inC T U f k v) : inC T' U' f k v := by
  unfold inC at *
  split <;> simp only [] at h ⊢ <;> omega
theorem WTC.mono {T U T' U' : Int} {M : zM} (h : WTC T U M) (hT : T ≤ T') (hU : U ≤ U') (hT2 : T' ≤ 1000000) (hU2 : U' ≤ 100000000) : WTC T' U' M := by
  have := h.2.2
  exact ⟨fun f i k => inC_mono hT hU (h.1 f i k), h.2.1, ⟨by omega, hT2⟩, ⟨by omega, hU2⟩⟩
theorem WTC.set17 {T U : Int} {M : zM} (h : WTC T U M) {i : Nat} {M' : zM} (h1 : ∀ f i' k, ¬ (f = 17 ∧ i' = i) → M' f i' k = M f i' k) (ha : 0 ≤ M' 17 i 0 ∧ M' 17 i 0 ≤ 3) (hw : 0 ≤ M' 17 i 1 ∧ M' 17 i 1 ≤ 3) (hs : M' 17 i 0 + M' 17 i 1 ≤ 3) : WTC T U M' := by
  refine ⟨fun f i' k => ?_, fun i' => ?_, h.2.2⟩
  · by_cases q : f = 17 ∧ i' = i
    · obtain ⟨rfl, rfl⟩ := q
      match k with
      | 0 => exact ha
      | 1 => exact hw
      | k + 2 => exact True.intro
    · rw [h1 f i' k q]; exact h.1 f i' k
  · by_cases q : i' = i
    · subst q; exact hs
    · rw [h1 17 i' 0 (fun z => q z.2), h1 17 i' 1 (fun z => q z.2)]; exact h.2.1 i'
theorem WTC.up17 {T U : Int} {M : zM} (h : WTC T U M) {i k : Nat} {v : Int} (hk : 2 ≤ k) : WTC T U (zup M 17 i k v) := by
  have h0 := h.1 17 i 0
  have h1 := h.1 17 i 1
  refine h.set17 (i := i) (fun f i' k' q => ?_) ?_ ?_ ?_
  · simp only [zup]; rw [if_neg (fun z => q ⟨z.1, z.2.1⟩)]
  all_goals simp only [zup]
  · rw [if_neg (by omega)]; exact h0
  · rw [if_neg (by omega)]; exact h1
  · rw [if_neg (by omega), if_neg (by omega)]; exact h.2.1 i
theorem waitC_wt {T U : Int} {M : zM} (h : WTC T U M) {i : Nat} {pf : Int} (hp : -1 ≤ pf ∧ pf ≤ 7) : WTC T U (waitC M i pf) := by
  have := h.2.2
  exact (((h.up (f := 16) (k := 0) (by decide) (show _ ∧ _ from ⟨by omega, by omega⟩)).up (f := 16) (k := 1) (by decide) hp).up (f := 16) (k := 2) (by decide) (show _ ∧ _ from ⟨by omega, by omega⟩)).up (f := 16) (k := 3) (by decide) (show _ ∧ _ from ⟨by omega, by omega⟩)
theorem arriveC_wt {T U : Int} {M : zM} (h : WTC T U M) {i : Nat} {pf mi : Int} (hp : -1 ≤ pf ∧ pf ≤ 7) : WTC T U (arriveC M i pf mi) := by
  have := h.2.2
  exact ((((h.up (f := 16) (k := 0) (by decide) (show _ ∧ _ from ⟨by omega, by omega⟩)).up (f := 16) (k := 1) (by decide) hp).up (f := 16) (k := 2) (by decide) (show _ ∧ _ from ⟨by omega, by omega⟩)).up (f := 16) (k := 3) (by decide) (show _ ∧ _ from ⟨by omega, by omega⟩)).up (f := 16) (k := 5) (by decide) True.intro
theorem giveUpC_wt {T U : Int} {M : zM} (h : WTC T U M) {i : Nat} : WTC T U (giveUpC M i) := by
  have := h.2.2
  exact ((h.up (f := 16) (k := 0) (by decide) (show _ ∧ _ from ⟨by omega, by omega⟩)).up (f := 16) (k := 1) (by decide) (show _ ∧ _ from ⟨by omega, by omega⟩)).up (f := 16) (k := 3) (by decide) (show _ ∧ _ from ⟨by omega, by omega⟩)
theorem rideTC_wt {T U : Int} {M : zM} (h : WTC T U M) {i : Nat} {on mi : Int} (ho : -1 ≤ on ∧ on ≤ 11) (hm : 0 ≤ mi ∧ mi ≤ 1000) : WTC T U (rideTC M i on mi) := by
  have := h.2.2
  exact ((((h.up (f := 16) (k := 0) (by decide) (show _ ∧ _ from ⟨by omega, by omega⟩)).up (f := 16) (k := 1) (by decide) (show _ ∧ _ from ⟨by omega, by omega⟩)).up (f := 16) (k := 2) (by decide) ho).up (f := 16) (k := 3) (by decide) (show _ ∧ _ from ⟨by omega, by omega⟩)).up (f := 16) (k := 4) (by decide) True.intro
theorem pullC_wt {T U : Int} {M : zM} (h : WTC T U M) {i j : Nat} {mi : Int} (hm : 0 ≤ mi ∧ mi ≤ 1000) : WTC T U (pullC M i j mi) := by
  have := h.2.2
  exact (h.up (f := 18) (by decide) (show _ ∧ _ from ⟨by omega, by omega⟩)).up (f := 19) (by decide) (show _ ∧ _ from ⟨by omega, by omega⟩)
theorem leaveTopC_wt {T U : Int} {M : zM} (h : WTC T U M) {i : Nat} {r mi : Int} (hr : 0 ≤ r ∧ r ≤ 11) (hm : 0 ≤ mi ∧ mi ≤ 1000) (ha : 0 < M 17 i 0) : WTC T U (leaveTopC M i r mi) := by
  have := h.2.2
  have h0 : 0 ≤ M 17 i 0 ∧ M 17 i 0 ≤ 3 := h.1 17 i 0
  have h1 : 0 ≤ M 17 i 1 ∧ M 17 i 1 ≤ 3 := h.1 17 i 1
  have h2 := h.2.1 i
  have hA := (h.up (f := 18) (i := i) (k := (M 17 i 1).toNat) (v := r) (by decide) (show _ ∧ _ from ⟨by omega, by omega⟩)).up (f := 19) (i := i) (k := (M 17 i 1).toNat) (v := mi) (by decide) (show _ ∧ _ from ⟨by omega, by omega⟩)
  refine hA.set17 (i := i) (fun f i' k' q => ?_) ?_ ?_ ?_
  · simp only [leaveTopC]
    rw [zup_off q, zup_off q, zup_off q]
  all_goals simp [leaveTopC, zup]
  all_goals omega
theorem dropC_wt {T U : Int} {M : zM} (h : WTC T U M) {i : Nat} : WTC T U (dropC M i) := by
  have h0 : 0 ≤ M 17 i 0 ∧ M 17 i 0 ≤ 3 := h.1 17 i 0
  have h1 : 0 ≤ M 17 i 1 ∧ M 17 i 1 ≤ 3 := h.1 17 i 1
  have h2 := h.2.1 i
  have hk := dropN_le M i (M 17 i 1).toNat
  have hA : ∀ n, WTC T U (dropN M i n).1 := by
    intro n
    induction n with
    | zero => exact h
    | succ n ih =>
      simp only [dropN, zit, dropS] at ih ⊢
      split
      · exact ih
      · show WTC T U (zup (zup _ _ _ _ _) _ _ _ _)
        refine WTC.up (f := 19) (WTC.up (f := 18) ih (by decide) ?_) (by decide) ?_
        · exact ih.1 18 i n
        · exact ih.1 19 i n
  refine (hA (M 17 i 1).toNat).set17 (i := i) (fun f i' k' q => ?_) ?_ ?_ ?_
  · simp only [dropC]; rw [zup_off q, zup_off q]
  all_goals simp [dropC, zup]
  all_goals omega
theorem tripCp_wt {T U : Int} {M : zM} (h : WTC T U M) {i o : Nat} : WTC T U (tripCp M i o) := by
  exact (((((h.up (f := 16) (k := 0) (by decide) (h.1 16 o 0)).up (f := 16) (k := 1) (by decide) (h.1 16 o 1)).up (f := 16) (k := 2) (by decide) (h.1 16 o 2)).up (f := 16) (k := 3) (by decide) (h.1 16 o 3)).up (f := 16) (k := 4) (by decide) True.intro).up (f := 16) (k := 5) (by decide) True.intro
theorem tcp_wt {T U : Int} {M : zM} (h : WTC T U M) {i o : Nat} : WTC T U (tcp M i o) := by
  have h0 : 0 ≤ M 17 o 0 ∧ M 17 o 0 ≤ 3 := h.1 17 o 0
  have h1 : 0 ≤ M 17 o 1 ∧ M 17 o 1 ≤ 3 := h.1 17 o 1
  have h2 := h.2.1 o
  have hA : WTC T U (zup (zup M 17 i 0 (M 17 o 0)) 17 i 1 (M 17 o 1)) := by
    refine h.set17 (i := i) (fun f i' k' q => ?_) ?_ ?_ ?_
    · rw [zup_off q, zup_off q]
    all_goals simp [zup]
    all_goals omega
  have hB : ∀ n, WTC T U (tcpN (zup (zup M 17 i 0 (M 17 o 0)) 17 i 1 (M 17 o 1)) i o n) := fun n => WTC.it n (fun j _ M h => (h.up (f := 18) (by decide) (h.1 18 o j)).up (f := 19) (by decide) (h.1 19 o j)) hA
  exact ((hB (M 17 o 1).toNat).up17 (by decide)).up17 (by decide)
def reachC (M : zM) (t : Nat) (r pl : Int) : zM :=
  if pl = M 8 r.toNat 1 then arriveC M (12 * t + r.toNat) pl (M 12 t 5)
  else if M 12 t 4 < 12 then zup (zup (waitC M (12 * t + r.toNat) pl) 15 t (M 12 t 4).toNat r) 12 t 4 (M 12 t 4 + 1) else M
theorem reachC_fr {M : zM} {t : Nat} {r pl : Int} {f : Nat} (h : ¬ (f = 12 ∨ f = 15 ∨ f = 16)) : reachC M t r pl f = M f := by
  simp only [reachC]
  split
  · rw [arriveC_fr (by omega)]
  · split
    · rw [zup_fr (by omega), zup_fr (by omega), waitC_fr (by omega)]
    · rfl
theorem reachC_min {M : zM} {t : Nat} {r pl : Int} {t' : Nat} : reachC M t r pl 12 t' 5 = M 12 t' 5 := by
  simp only [reachC]
  split
  · rw [arriveC_fr (by decide)]
  · split
    · simp [zup, waitC]
    · rfl
theorem reachC_wt {T U : Int} {M : zM} (h : WTC T U M) {t : Nat} {r pl : Int} (hr : 0 ≤ r ∧ r ≤ 11) (hp : 0 ≤ pl ∧ pl ≤ 7) : WTC T U (reachC M t r pl) := by
  have h4 : 0 ≤ M 12 t 4 ∧ M 12 t 4 ≤ 12 := h.1 12 t 4
  simp only [reachC]
  split
  · exact arriveC_wt h ⟨by omega, by omega⟩
  · split
    · exact ((waitC_wt h ⟨by omega, by omega⟩).up (f := 15) (by decide) hr).up (f := 12) (k := 4) (by decide) (show _ ∧ _ from ⟨by omega, by omega⟩)
    · exact h
def moveS (t ln i : Nat) (j : Nat) (M : zM) : zM :=
  if M 18 i j = -1 then zup M 19 i j (M 19 i j - 1)
  else if M 19 i j - 1 ≤ 0 then reachC (pullC (zup (zup M 19 i j (M 19 i j - 1)) 16 (12 * t + (M 18 i j).toNat) 3 (M 19 i j - 1)) i j ((M 7 ln 3 + 9) / 10)) t (M 18 i j) (M 7 ln 1)
  else zup (zup M 19 i j (M 19 i j - 1)) 16 (12 * t + (M 18 i j).toNat) 3 (M 19 i j - 1)
def moveN (M : zM) (t ln i n : Nat) : zM := zit (moveS t ln i) n M
theorem moveS_fr {M : zM} {t ln i j f : Nat} (h : ¬ (f = 12 ∨ f = 15 ∨ f = 16 ∨ f = 18 ∨ f = 19)) : moveS t ln i j M f = M f := by
  simp only [moveS]
  split
  · rw [zup_fr (by omega)]
  · split
    · rw [reachC_fr (by omega), pullC_fr (by omega), zup_fr (by omega), zup_fr (by omega)]
    · rw [zup_fr (by omega), zup_fr (by omega)]
theorem moveN_fr {M : zM} {t ln i n f : Nat} (h : ¬ (f = 12 ∨ f = 15 ∨ f = 16 ∨ f = 18 ∨ f = 19)) : moveN M t ln i n f = M f := zit_fr (fun j M => moveS_fr h) n M
theorem moveS_min {M : zM} {t ln i j t' : Nat} : moveS t ln i j M 12 t' 5 = M 12 t' 5 := by
  simp only [moveS]
  split
  · simp [zup]
  · split
    · rw [reachC_min]; simp [pullC, zup]
    · simp [zup]
theorem moveN_min {M : zM} {t ln i n t' : Nat} : moveN M t ln i n 12 t' 5 = M 12 t' 5 := by
  induction n with
  | zero => rfl
  | succ n ih => simp only [moveN, zit] at ih ⊢; rw [moveS_min, ih]
theorem moveS_wt {T U : Int} {M : zM} (h : WTC T U M) {t ln i j : Nat} (hU : U + 1 ≤ 100000000) : WTC T (U + 1) (moveS t ln i j M) := by
  have hh := h.2.2
  have h9 : -(1000 + U) ≤ M 19 i j ∧ M 19 i j ≤ 1000 := h.1 19 i j
  have h8 : -1 ≤ M 18 i j ∧ M 18 i j ≤ 11 := h.1 18 i j
  have h73 : 0 ≤ M 7 ln 3 ∧ M 7 ln 3 ≤ 80 := h.1 7 ln 3
  have h71 : 0 ≤ M 7 ln 1 ∧ M 7 ln 1 ≤ 7 := h.1 7 ln 1
  have hm := h.mono (T' := T) (U' := U + 1) (by omega) (by omega) (by omega) (by omega)
  have hA : WTC T (U + 1) (zup M 19 i j (M 19 i j - 1)) := hm.up (f := 19) (by decide) (show _ ∧ _ from ⟨by omega, by omega⟩)
  have hB : WTC T (U + 1) (zup (zup M 19 i j (M 19 i j - 1)) 16 (12 * t + (M 18 i j).toNat) 3 (M 19 i j - 1)) := hA.up (f := 16) (k := 3) (by decide) (show _ ∧ _ from ⟨by omega, by omega⟩)
  simp only [moveS]
  split
  · exact hA
  · split
    · exact reachC_wt (pullC_wt hB ⟨by omega, by omega⟩) ⟨by omega, by omega⟩ h71
    · exact hB
theorem moveN_wt {T U : Int} {M : zM} (h : WTC T U M) {t ln i : Nat} (n : Nat) (hU : U + n ≤ 100000000) : WTC T (U + n) (moveN M t ln i n) := by
  induction n with
  | zero => simpa [moveN, zit] using h
  | succ n ih =>
    have := moveS_wt (t := t) (ln := ln) (i := i) (j := n) (ih (by omega)) (by omega)
    simp only [moveN, zit] at this ⊢
    rw [show U + ((n + 1 : Nat) : Int) = U + n + 1 by omega]
    exact this
def moveC (M : zM) (t ln i : Nat) : zM := dropC (moveN M t ln i (M 17 i 1).toNat) i
theorem moveC_fr {M : zM} {t ln i f : Nat} (h : ¬ (f = 12 ∨ f = 15 ∨ f = 16 ∨ f = 17 ∨ f = 18 ∨ f = 19)) : moveC M t ln i f = M f := by rw [moveC, dropC_fr (by omega), moveN_fr (by omega)]
theorem moveC_min {M : zM} {t ln i t' : Nat} : moveC M t ln i 12 t' 5 = M 12 t' 5 := by rw [moveC, dropC_fr (by decide), moveN_min]
theorem moveC_wt {T U : Int} {M : zM} (h : WTC T U M) {t ln i : Nat} (hU : U + 3 ≤ 100000000) : WTC T (U + 3) (moveC M t ln i) := by
  have h1 : 0 ≤ M 17 i 1 ∧ M 17 i 1 ≤ 3 := h.1 17 i 1
  have hh := h.2.2
  exact dropC_wt ((moveN_wt h (M 17 i 1).toNat (by omega)).mono (by omega) (by omega) (by omega) (by omega))
def ridersC (M : zM) (t : Nat) (st : Int) : Int := zcnt (fun j => M 16 (12 * t + j) 0 = st) (M 1 0 6).toNat
/-- the least j below n with P, n without one -/
def zfst (P : Nat → Prop) [DecidablePred P] : Nat → Nat
  | 0 => 0
  | n + 1 => if zfst P n < n then zfst P n else if P n then n else n + 1
theorem zfst_none {P : Nat → Prop} [DecidablePred P] {n : Nat} (h : ∀ k, k < n → ¬ P k) : zfst P n = n := by
  induction n with
  | zero => rfl
  | succ n ih => simp only [zfst]; rw [ih (fun k hk => h k (by omega)), if_neg (by omega), if_neg (h n (by omega))]
theorem zfst_found {P : Nat → Prop} [DecidablePred P] {n j : Nat} (h : ∀ k, k < j → ¬ P k) (hp : P j) (hj : j < n) : zfst P n = j := by
  induction n with
  | zero => omega
  | succ n ih =>
    simp only [zfst]
    by_cases q : j < n
    · rw [ih q, if_pos q]
    · have : j = n := by omega
      subst this
      rw [zfst_none h, if_neg (by omega), if_pos hp]
theorem zfst_spec (P : Nat → Prop) [DecidablePred P] (n : Nat) : (zfst P n = n ∧ ∀ k, k < n → ¬ P k) ∨ (zfst P n < n ∧ P (zfst P n) ∧ ∀ k, k < zfst P n → ¬ P k) := by
  induction n with
  | zero => exact Or.inl ⟨rfl, fun k hk => by omega⟩
  | succ n ih =>
    rcases ih with ⟨h1, h2⟩ | ⟨h1, h2, h3⟩
    · by_cases q : P n
      · right
        rw [zfst_found (n := n + 1) h2 q (by omega)]
        exact ⟨by omega, q, h2⟩
      · left
        have h4 : ∀ k, k < n + 1 → ¬ P k := fun k hk => by
          rcases Nat.lt_or_ge k n with z | z
          · exact h2 k z
          · rw [show k = n by omega]; exact q
        exact ⟨zfst_none h4, h4⟩
    · right
      rw [zfst_found (n := n + 1) h3 h2 (by omega)]
      exact ⟨by omega, h2, h3⟩
abbrev fwP (M : zM) (t : Nat) (n : Int) (k : Nat) : Prop := firstFromC M (M 15 t k).toNat (M 16 (12 * t + (M 15 t k).toNat) 1) = n
def firstC (M : zM) (t : Nat) (n : Int) : Int := if zfst (fwP M t n) (M 12 t 4).toNat < (M 12 t 4).toNat then (zfst (fwP M t n) (M 12 t 4).toNat : Int) else -1
def leaveN (M : zM) (t pl n : Nat) : zM := zit (fun k M => zup M 15 t (pl + k) (M 15 t (pl + k + 1))) n M
theorem leaveN_fr {M : zM} {t pl n f : Nat} (h : ¬ (f = 15)) : leaveN M t pl n f = M f := zit_fr (fun j M => zup_fr h) n M
theorem leaveN_wt {T U : Int} {M : zM} (h : WTC T U M) {t pl n : Nat} : WTC T U (leaveN M t pl n) := WTC.it n (fun j _ M h => h.up (f := 15) (i := t) (k := pl + j) (by decide) (h.1 15 t (pl + j + 1))) h
def leaveC (M : zM) (t pl : Nat) : zM := zup (leaveN M t pl ((M 12 t 4).toNat - 1 - pl)) 12 t 4 (M 12 t 4 - 1)
theorem leaveC_fr {M : zM} {t pl f : Nat} (h : ¬ (f = 12 ∨ f = 15)) : leaveC M t pl f = M f := by rw [leaveC, zup_fr (by omega), leaveN_fr (by omega)]
theorem leaveC_min {M : zM} {t pl t' : Nat} : leaveC M t pl 12 t' 5 = M 12 t' 5 := by simp [leaveC, zup, leaveN_fr (f := 12)]
theorem leaveC_wt {T U : Int} {M : zM} (h : WTC T U M) {t pl : Nat} (hp : 0 < M 12 t 4) : WTC T U (leaveC M t pl) := by
  have h4 : 0 ≤ M 12 t 4 ∧ M 12 t 4 ≤ 12 := h.1 12 t 4
  exact (leaveN_wt h).up (f := 12) (k := 4) (by decide) (show _ ∧ _ from ⟨by omega, by omega⟩)
theorem rideC_bd {len drop w : Int} (hl : 0 ≤ len ∧ len ≤ 80) (hd : 0 ≤ drop ∧ drop ≤ 60) (hw : 0 ≤ w ∧ w ≤ 150) : 0 ≤ rideC len drop w ∧ rideC len drop w ≤ 1000 := by
  have hw1 : 0 ≤ w / 10 ∧ w / 10 ≤ 15 := by omega
  simp only [rideC]
  split
  · omega
  · have h1 := Int.ediv_nonneg (show 0 ≤ 2 * len + (drop + w / 10) - 1 by omega) (show 0 ≤ drop + w / 10 by omega)
    have h2 := Int.ediv_le_self (drop + w / 10) (show 0 ≤ 2 * len + (drop + w / 10) - 1 by omega)
    split <;> omega
def beginC (M : zM) (t ln : Nat) : zM :=
  if firstC M t (ln : Int) = -1 then M
  else if 0 < M 17 (12 * t + ln) 0 ∧ M 17 (12 * t + ln) 1 < 3 then
    zup (leaveTopC (rideTC (leaveC M t (firstC M t ln).toNat) (12 * t + (M 15 t (firstC M t ln).toNat).toNat) ln (rideC (M 7 ln 3) (M 7 ln 4) (M 8 (M 15 t (firstC M t ln).toNat).toNat 2))) (12 * t + ln) (M 15 t (firstC M t ln).toNat) (rideC (M 7 ln 3) (M 7 ln 4) (M 8 (M 15 t (firstC M t ln).toNat).toNat 2))) 17 (12 * t + ln) 5
      ((leaveTopC (rideTC (leaveC M t (firstC M t ln).toNat) (12 * t + (M 15 t (firstC M t ln).toNat).toNat) ln (rideC (M 7 ln 3) (M 7 ln 4) (M 8 (M 15 t (firstC M t ln).toNat).toNat 2))) (12 * t + ln) (M 15 t (firstC M t ln).toNat) (rideC (M 7 ln 3) (M 7 ln 4) (M 8 (M 15 t (firstC M t ln).toNat).toNat 2))) 17 (12 * t + ln) 5 + (if (M 8 (M 15 t (firstC M t ln).toNat).toNat 2) * M 7 ln 4 < 10 * M 7 ln 3 then 1 else 0))
  else M
theorem firstC_bd {M : zM} {t : Nat} {n : Int} (h : 0 ≤ M 12 t 4) : -1 ≤ firstC M t n ∧ firstC M t n < M 12 t 4 ∨ firstC M t n = -1 := by
  simp only [firstC]; split <;> omega
theorem beginC_fr {M : zM} {t ln f : Nat} (h : ¬ (f = 12 ∨ f = 15 ∨ f = 16 ∨ f = 17 ∨ f = 18 ∨ f = 19)) : beginC M t ln f = M f := by
  simp only [beginC]
  split
  · rfl
  · split
    · rw [zup_fr (by omega), leaveTopC_fr (by omega), rideTC_fr (by omega), leaveC_fr (by omega)]
    · rfl
theorem beginC_min {M : zM} {t ln t' : Nat} : beginC M t ln 12 t' 5 = M 12 t' 5 := by
  simp only [beginC]
  split
  · rfl
  · split
    · rw [zup_fr (by decide), leaveTopC_fr (by decide), rideTC_fr (by decide), leaveC_min]
    · rfl
theorem beginC_wt {T U : Int} {M : zM} (h : WTC T U M) {t ln : Nat} (hl : ln < 12) : WTC T U (beginC M t ln) := by
  have h4 : 0 ≤ M 12 t 4 ∧ M 12 t 4 ≤ 12 := h.1 12 t 4
  have hf := firstC_bd (M := M) (t := t) (n := (ln : Int)) h4.1
  have hm := rideC_bd (len := M 7 ln 3) (drop := M 7 ln 4) (w := M 8 (M 15 t (firstC M t ln).toNat).toNat 2) (h.1 7 ln 3) (h.1 7 ln 4) (by have : 0 ≤ M 8 (M 15 t (firstC M t ln).toNat).toNat 2 ∧ M 8 (M 15 t (firstC M t ln).toNat).toNat 2 ≤ 120 := h.1 8 _ 2; omega)
  simp only [beginC]
  split
  · exact h
  · split
    · rename_i q1 q2
      have h1 := rideTC_wt (leaveC_wt h (t := t) (pl := (firstC M t ln).toNat) (by omega)) (i := 12 * t + (M 15 t (firstC M t ln).toNat).toNat) (on := (ln : Int)) ⟨by omega, by omega⟩ hm
      refine (leaveTopC_wt h1 (h.1 15 t _) hm ?_).up17 (by decide)
      rw [rideTC_fr (by decide), leaveC_fr (by decide)]
      exact q2.1
    · exact h
abbrev tiresP (M : zM) (r i : Nat) : Prop := linesFromC M r (M 16 i 1) = -1 ∨ M 8 r 3 ≤ M 16 i 3
def tireM (t : Nat) (j : Nat) (M : zM) : zM := zup M 16 (12 * t + (M 15 t j).toNat) 3 (M 16 (12 * t + (M 15 t j).toNat) 3 + 1)
def tireS (t : Nat) (j : Nat) (p : zM × Nat) : zM × Nat :=
  if tiresP (tireM t j p.1) (p.1 15 t j).toNat (12 * t + (p.1 15 t j).toNat) then (giveUpC (tireM t j p.1) (12 * t + (p.1 15 t j).toNat), p.2)
  else (zup (tireM t j p.1) 15 t p.2 (p.1 15 t j), p.2 + 1)
def tireN (M : zM) (t n : Nat) : zM × Nat := zit (tireS t) n (M, 0)
theorem tireN_le (M : zM) (t n : Nat) : (tireN M t n).2 ≤ n := by
  induction n with
  | zero => exact Nat.le_refl _
  | succ n ih => simp only [tireN, zit, tireS] at ih ⊢; split <;> simp only [] <;> omega
theorem tireN_fr {M : zM} {t n f : Nat} (h : ¬ (f = 15 ∨ f = 16)) : (tireN M t n).1 f = M f := by
  induction n with
  | zero => rfl
  | succ n ih =>
    simp only [tireN, zit, tireS] at ih ⊢
    split
    · simp only []; rw [giveUpC_fr (by omega), tireM, zup_fr (by omega), ih]
    · simp only []; rw [zup_fr (by omega), tireM, zup_fr (by omega), ih]
theorem tireM_wt {T U : Int} {M : zM} (h : WTC T U M) {t j : Nat} (hU : U + 1 ≤ 100000000) : WTC T (U + 1) (tireM t j M) := by
  have h3 : -(1000 + U) ≤ M 16 (12 * t + (M 15 t j).toNat) 3 ∧ M 16 (12 * t + (M 15 t j).toNat) 3 ≤ 1000 + U := h.1 16 _ 3
  have hh := h.2.2
  exact (h.mono (T' := T) (U' := U + 1) (by omega) (by omega) (by omega) (by omega)).up (f := 16) (k := 3) (by decide) (show _ ∧ _ from ⟨by omega, by omega⟩)
theorem tireN_wt {T U : Int} {M : zM} (h : WTC T U M) {t : Nat} (n : Nat) (hU : U + n ≤ 100000000) : WTC T (U + n) (tireN M t n).1 := by
  induction n with
  | zero => simpa [tireN, zit] using h
  | succ n ih =>
    have h1 := tireM_wt (t := t) (j := n) (ih (by omega)) (by omega)
    have h2 := (ih (by omega)).1 15 t n
    rw [show U + ((n + 1 : Nat) : Int) = U + n + 1 by omega]
    simp only [tireN, zit, tireS] at h1 h2 ⊢
    split
    · exact giveUpC_wt h1
    · exact h1.up (f := 15) (by decide) h2
def tireC (M : zM) (t : Nat) : zM := zup (tireN M t (M 12 t 4).toNat).1 12 t 4 (tireN M t (M 12 t 4).toNat).2
theorem tireC_fr {M : zM} {t f : Nat} (h : ¬ (f = 12 ∨ f = 15 ∨ f = 16)) : tireC M t f = M f := by rw [tireC, zup_fr (by omega), tireN_fr (by omega)]
theorem tireC_min {M : zM} {t t' : Nat} : tireC M t 12 t' 5 = M 12 t' 5 := by simp [tireC, zup, tireN_fr (f := 12)]
theorem tireC_wt {T U : Int} {M : zM} (h : WTC T U M) {t : Nat} (hU : U + 12 ≤ 100000000) : WTC T (U + 12) (tireC M t) := by
  have h4 : 0 ≤ M 12 t 4 ∧ M 12 t 4 ≤ 12 := h.1 12 t 4
  have hk := tireN_le M t (M 12 t 4).toNat
  have hh := h.2.2
  exact ((tireN_wt h (t := t) (M 12 t 4).toNat (by omega)).mono (U' := U + 12) (Int.le_refl T) (by omega) (by omega) (by omega)).up (f := 12) (k := 4) (by decide) (show _ ∧ _ from ⟨by omega, by omega⟩)
abbrev closedP (M : zM) (ln : Nat) (mi : Int) : Prop := 80 - 8 * M 5 0 (mi % 12).toNat < M 7 ln 3
def movesN (M : zM) (t n : Nat) : zM := zit (fun l M => moveC M t l (12 * t + l)) n M
theorem movesN_fr {M : zM} {t n f : Nat} (h : ¬ (f = 12 ∨ f = 15 ∨ f = 16 ∨ f = 17 ∨ f = 18 ∨ f = 19)) : movesN M t n f = M f := zit_fr (fun j M => moveC_fr h) n M
theorem movesN_min {M : zM} {t n t' : Nat} : movesN M t n 12 t' 5 = M 12 t' 5 := by
  induction n with
  | zero => rfl
  | succ n ih => simp only [movesN, zit] at ih ⊢; rw [moveC_min, ih]
theorem movesN_wt {T U : Int} {M : zM} (h : WTC T U M) {t : Nat} (n : Nat) (hU : U + 3 * n ≤ 100000000) : WTC T (U + 3 * n) (movesN M t n) := by
  induction n with
  | zero => simpa [movesN, zit] using h
  | succ n ih =>
    have := moveC_wt (t := t) (ln := n) (i := 12 * t + n) (ih (by omega)) (by omega)
    simp only [movesN, zit] at this ⊢
    rw [show U + 3 * ((n + 1 : Nat) : Int) = U + 3 * n + 3 by omega]
    exact this
def beginsN (M : zM) (t : Nat) (n : Nat) : zM := zit (fun l M => if closedP M l (M 12 t 5) then M else beginC M t l) n M
theorem beginsN_fr {M : zM} {t n f : Nat} (h : ¬ (f = 12 ∨ f = 15 ∨ f = 16 ∨ f = 17 ∨ f = 18 ∨ f = 19)) : beginsN M t n f = M f := by
  refine zit_fr (fun j M => ?_) n M
  split
  · rfl
  · exact beginC_fr h
theorem beginsN_min {M : zM} {t n t' : Nat} : beginsN M t n 12 t' 5 = M 12 t' 5 := by
  induction n with
  | zero => rfl
  | succ n ih =>
    simp only [beginsN, zit] at ih ⊢
    split
    · exact ih
    · rw [beginC_min, ih]
theorem beginsN_wt {T U : Int} {M : zM} (h : WTC T U M) {t n : Nat} (hn : n ≤ 12) : WTC T U (beginsN M t n) := WTC.it n (fun j hj M h => by
  split
  · exact h
  · exact beginC_wt h (by omega)) h
def passC (M : zM) (t : Nat) : zM := zup (tireC (beginsN (movesN M t (M 1 0 5).toNat) t (M 1 0 5).toNat) t) 12 t 5 (M 12 t 5 + 1)
theorem passC_fr {M : zM} {t f : Nat} (h : ¬ (f = 12 ∨ f = 15 ∨ f = 16 ∨ f = 17 ∨ f = 18 ∨ f = 19)) : passC M t f = M f := by rw [passC, zup_fr (by omega), tireC_fr (by omega), beginsN_fr (by omega), movesN_fr (by omega)]
theorem passC_wt {T U : Int} {M : zM} (h : WTC T U M) {t : Nat} (hT : T + 1 ≤ 1000000) (hU : U + 48 ≤ 100000000) : WTC (T + 1) (U + 48) (passC M t) := by
  have h5 : 0 ≤ M 1 0 5 ∧ M 1 0 5 ≤ 12 := h.1 1 0 5
  have h6 : 0 ≤ M 12 t 5 ∧ M 12 t 5 ≤ T := h.1 12 t 5
  have hh := h.2.2
  have h1 := tireC_wt (t := t) (beginsN_wt (t := t) (n := (M 1 0 5).toNat) ((movesN_wt (t := t) h (M 1 0 5).toNat (by omega)).mono (T' := T + 1) (U' := U + 36) (by omega) (by omega) (by omega) (by omega)) (by omega)) (by omega)
  exact (h1.mono (U' := U + 48) (Int.le_refl _) (by omega) (by omega) (by omega)).up (f := 12) (k := 5) (by decide) (show _ ∧ _ from ⟨by omega, by omega⟩)
def passN (M : zM) (t n : Nat) : zM := zit (fun _ M => passC M t) n M
theorem passN_fr {M : zM} {t n f : Nat} (h : ¬ (f = 12 ∨ f = 15 ∨ f = 16 ∨ f = 17 ∨ f = 18 ∨ f = 19)) : passN M t n f = M f := zit_fr (fun j M => passC_fr h) n M
theorem passN_wt {T U : Int} {M : zM} (h : WTC T U M) {t : Nat} (n : Nat) (hT : T + n ≤ 1000000) (hU : U + 48 * n ≤ 100000000) : WTC (T + n) (U + 48 * n) (passN M t n) := by
  induction n with
  | zero => simpa [passN, zit] using h
  | succ n ih =>
    have := passC_wt (t := t) (ih (by omega) (by omega)) (by omega) (by omega)
    simp only [passN, zit] at this ⊢
    rw [show U + 48 * ((n + 1 : Nat) : Int) = U + 48 * n + 48 by omega, show T + ((n + 1 : Nat) : Int) = T + n + 1 by omega]
    exact this
def cpT (M : zM) (t o n : Nat) : zM := zit (fun j M => tripCp M (12 * t + j) (12 * o + j)) n M
theorem cpT_fr {M : zM} {t o n f : Nat} (h : ¬ (f = 16)) : cpT M t o n f = M f := zit_fr (fun j M => tripCp_fr h) n M
theorem cpT_wt {T U : Int} {M : zM} (h : WTC T U M) {t o n : Nat} : WTC T U (cpT M t o n) := WTC.it n (fun j _ M h => tripCp_wt h) h
def cpL (M : zM) (t o n : Nat) : zM := zit (fun j M => tcp M (12 * t + j) (12 * o + j)) n M
theorem cpL_fr {M : zM} {t o n f : Nat} (h : ¬ (f = 17 ∨ f = 18 ∨ f = 19)) : cpL M t o n f = M f := zit_fr (fun j M => tcp_fr h) n M
theorem cpL_wt {T U : Int} {M : zM} (h : WTC T U M) {t o n : Nat} : WTC T U (cpL M t o n) := WTC.it n (fun j _ M h => tcp_wt h) h
def cpW (M : zM) (t o n : Nat) : zM := zit (fun j M => zup M 15 t j (M 15 o j)) n M
theorem cpW_fr {M : zM} {t o n f : Nat} (h : ¬ (f = 15)) : cpW M t o n f = M f := zit_fr (fun j M => zup_fr h) n M
theorem cpW_wt {T U : Int} {M : zM} (h : WTC T U M) {t o n : Nat} : WTC T U (cpW M t o n) := WTC.it n (fun j _ M h => h.up (f := 15) (i := t) (k := j) (by decide) (h.1 15 o j)) h
def copyC (M : zM) (t o : Nat) : zM := zup (cpW (zup (cpL (cpT M t o (M 1 0 6).toNat) t o (M 1 0 5).toNat) 12 t 4 (M 12 o 4)) t o (M 12 o 4).toNat) 12 t 5 (M 12 o 5)
theorem copyC_fr {M : zM} {t o f : Nat} (h : ¬ (f = 12 ∨ f = 15 ∨ f = 16 ∨ f = 17 ∨ f = 18 ∨ f = 19)) : copyC M t o f = M f := by rw [copyC, zup_fr (by omega), cpW_fr (by omega), zup_fr (by omega), cpL_fr (by omega), cpT_fr (by omega)]
theorem copyC_wt {T U : Int} {M : zM} (h : WTC T U M) {t o : Nat} : WTC T U (copyC M t o) := (cpW_wt ((cpL_wt (cpT_wt h)).up (f := 12) (k := 4) (by decide) (h.1 12 o 4))).up (f := 12) (k := 5) (by decide) (h.1 12 o 5)
def addTC (M : zM) (t : Nat) (n mo : Int) : zM := zup M 17 (12 * t + n.toNat) 0 (M 17 (12 * t + n.toNat) 0 + mo)
theorem addTC_fr {M : zM} {t : Nat} {n mo : Int} {f : Nat} (h : ¬ (f = 17)) : addTC M t n mo f = M f := zup_fr h
theorem addTC_wt {T U : Int} {M : zM} (h : WTC T U M) {t : Nat} {n mo : Int} (hm : 0 ≤ mo) (hs : M 17 (12 * t + n.toNat) 0 + M 17 (12 * t + n.toNat) 1 + mo ≤ 3) : WTC T U (addTC M t n mo) := by
  have h0 : 0 ≤ M 17 (12 * t + n.toNat) 0 ∧ M 17 (12 * t + n.toNat) 0 ≤ 3 := h.1 17 _ 0
  have h1 : 0 ≤ M 17 (12 * t + n.toNat) 1 ∧ M 17 (12 * t + n.toNat) 1 ≤ 3 := h.1 17 _ 1
  refine h.set17 (i := 12 * t + n.toNat) (fun f i' k' q => ?_) ?_ ?_ ?_
  · simp only [addTC]; rw [zup_off q]
  all_goals simp [addTC, zup]
  all_goals omega
def qLen (M : zM) (t : Nat) (q : Int) : Int := zcnt (fun j => M 16 (12 * t + (M 15 t j).toNat) 1 = q) (M 12 t 4).toNat
abbrev inQP (M : zM) (t : Nat) (q ix : Int) (j : Nat) : Prop := M 16 (12 * t + (M 15 t j).toNat) 1 = q ∧ zcnt (fun j => M 16 (12 * t + (M 15 t j).toNat) 1 = q) j = ix
def qAt (M : zM) (t : Nat) (q ix : Int) : Int := if zfst (inQP M t q ix) (M 12 t 4).toNat < (M 12 t 4).toNat then M 15 t (zfst (inQP M t q ix) (M 12 t 4).toNat) else -1
def arrAt (M : zM) (t : Nat) (q : Int) : Int := zcnt (fun j => M 16 (12 * t + j) 0 = 2 ∧ M 16 (12 * t + j) 1 = q) (M 1 0 6).toNat
def zsum (f : Nat → Int) : Nat → Int
  | 0 => 0
  | n + 1 => zsum f n + f n
