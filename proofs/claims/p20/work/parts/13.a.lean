/-- the range of each place of the memory, T: the minutes that have gone by at most, U: how far counters of minutes may be off -/
def inC (T U : Int) (f k : Nat) (v : Int) : Prop := match f, k with
  | 1, 4 => 0 ≤ v ∧ v ≤ 8
  | 1, 5 => 0 ≤ v ∧ v ≤ 12
  | 1, 6 => 0 ≤ v ∧ v ≤ 12
  | 5, _ => 0 ≤ v ∧ v ≤ 9
  | 6, 0 => 0 ≤ v ∧ v ≤ 40
  | 6, 1 => 0 ≤ v ∧ v ≤ 40
  | 6, 2 => 0 ≤ v ∧ v ≤ 60
  | 7, 0 => 0 ≤ v ∧ v ≤ 7
  | 7, 1 => 0 ≤ v ∧ v ≤ 7
  | 7, 2 => 0 ≤ v ∧ v ≤ 150
  | 7, 3 => 0 ≤ v ∧ v ≤ 80
  | 7, 4 => 0 ≤ v ∧ v ≤ 60
  | 8, 1 => 0 ≤ v ∧ v ≤ 7
  | 8, 2 => 0 ≤ v ∧ v ≤ 120
  | 8, 3 => 0 ≤ v ∧ v ≤ 60
  | 10, _ => -1 ≤ v ∧ v ≤ 8
  | 11, _ => -1 ≤ v ∧ v ≤ 11
  | 12, 4 => 0 ≤ v ∧ v ≤ 12
  | 12, 5 => 0 ≤ v ∧ v ≤ T
  | 15, _ => 0 ≤ v ∧ v ≤ 11
  | 16, 0 => 0 ≤ v ∧ v ≤ 3
  | 16, 1 => -1 ≤ v ∧ v ≤ 7
  | 16, 2 => -1 ≤ v ∧ v ≤ 11
  | 16, 3 => -(1000 + U) ≤ v ∧ v ≤ 1000 + U
  | 17, 0 => 0 ≤ v ∧ v ≤ 3
  | 17, 1 => 0 ≤ v ∧ v ≤ 3
  | 18, _ => -1 ≤ v ∧ v ≤ 11
  | 19, _ => -(1000 + U) ≤ v ∧ v ≤ 1000
  | _, _ => True
def WTC (T U : Int) (M : zM) : Prop := (∀ f i k, inC T U f k (M f i k)) ∧ (∀ i, M 17 i 0 + M 17 i 1 ≤ 3) ∧ (0 ≤ T ∧ T ≤ 1000000) ∧ (0 ≤ U ∧ U ≤ 100000000)
theorem WTC.up {T U : Int} {M : zM} (h : WTC T U M) {f i k : Nat} {v : Int} (hf : f ≠ 17) (hv : inC T U f k v) : WTC T U (zup M f i k v) := by
  refine ⟨fun f' i' k' => ?_, fun i' => ?_, h.2.2⟩
  · simp only [zup]
    split
    · rename_i q; obtain ⟨rfl, rfl, rfl⟩ := q; exact hv
    · exact h.1 f' i' k'
  · simp only [zup]
    rw [if_neg (fun q => hf q.1.symm), if_neg (fun q => hf q.1.symm)]
    exact h.2.1 i'
theorem WTC.it {T U : Int} {f : Nat → zM → zM} (n : Nat) (h : ∀ j, j < n → ∀ M, WTC T U M → WTC T U (f j M)) {M : zM} (hM : WTC T U M) : WTC T U (zit f n M) := by
  induction n with
  | zero => exact hM
  | succ n ih => exact h n (Nat.lt_succ_self n) _ (ih (fun j hj => h j (Nat.lt_succ_of_lt hj)))
theorem zcnt_mono (P : Nat → Prop) [DecidablePred P] {m n : Nat} (h : m ≤ n) : zcnt P m ≤ zcnt P n := by
  induction n with
  | zero => rw [show m = 0 by omega]; exact Int.le_refl _
  | succ n ih =>
    by_cases q : m ≤ n
    · have := ih q; simp only [zcnt]; split <;> omega
    · rw [show m = n + 1 by omega]; exact Int.le_refl _
def linesFromC (M : zM) (i : Nat) (q : Int) : Int := if 0 ≤ q ∧ q ≤ 7 then M 10 i q.toNat else -1
def firstFromC (M : zM) (i : Nat) (q : Int) : Int := if 0 ≤ q ∧ q ≤ 7 then M 11 i q.toNat else -1
theorem linesFromC_bd {T U : Int} {M : zM} (h : WTC T U M) (i : Nat) (q : Int) : -1 ≤ linesFromC M i q ∧ linesFromC M i q ≤ 8 := by
  simp only [linesFromC]; split
  · exact h.1 10 i q.toNat
  · omega
theorem firstFromC_bd {T U : Int} {M : zM} (h : WTC T U M) (i : Nat) (q : Int) : -1 ≤ firstFromC M i q ∧ firstFromC M i q ≤ 11 := by
  simp only [firstFromC]; split
  · exact h.1 11 i q.toNat
  · omega
def extendC (M : zM) (i ln : Nat) (n far w : Int) : zM :=
  if 0 ≤ M 7 ln 0 ∧ M 7 ln 0 ≤ 7 then
    if M 10 i (M 7 ln 0).toNat = -1 then
      if w ≤ M 7 ln 2 then
        if linesFromC M i (M 7 ln 1) = far - 1 then zup (zup M 10 i (M 7 ln 0).toNat far) 11 i (M 7 ln 0).toNat n else M
      else M
    else M
  else M
theorem extendC_fr {M : zM} {i ln : Nat} {n far w : Int} {f : Nat} (h : ¬ (f = 10 ∨ f = 11)) : extendC M i ln n far w f = M f := by
  simp only [extendC]
  repeat' split
  all_goals first | rfl | (rw [zup_fr (by omega), zup_fr (by omega)])
theorem extendC_wt {T U : Int} {M : zM} (h : WTC T U M) {i ln : Nat} {n far w : Int} (hn : -1 ≤ n ∧ n ≤ 11) (hf : -1 ≤ far ∧ far ≤ 8) : WTC T U (extendC M i ln n far w) := by
  simp only [extendC]
  repeat' split
  all_goals first | exact h | exact (h.up (f := 10) (by decide) hf).up (f := 11) (by decide) hn
def planIS (i : Nat) (g : Int) (j : Nat) (M : zM) : zM := zup (zup M 10 i j (if (j : Int) = g then 0 else -1)) 11 i j (-1)
def planI (M : zM) (i : Nat) (g : Int) (n : Nat) : zM := zit (planIS i g) n M
theorem planI_fr {M : zM} {i : Nat} {g : Int} {n f : Nat} (h : ¬ (f = 10 ∨ f = 11)) : planI M i g n f = M f := zit_fr (fun j M => by rw [planIS, zup_fr (by omega), zup_fr (by omega)]) n M
theorem planI_wt {T U : Int} {M : zM} (h : WTC T U M) {i : Nat} {g : Int} {n : Nat} : WTC T U (planI M i g n) := WTC.it n (fun j _ M h => ((h.up (f := 10) (by decide) (by split <;> exact ⟨by omega, by omega⟩)).up (f := 11) (by decide) ⟨by omega, by omega⟩)) h
def planL (M : zM) (i : Nat) (far w : Int) (n : Nat) : zM := zit (fun l M => extendC M i l (l : Int) far w) n M
theorem planL_fr {M : zM} {i : Nat} {far w : Int} {n f : Nat} (h : ¬ (f = 10 ∨ f = 11)) : planL M i far w n f = M f := zit_fr (fun j M => extendC_fr h) n M
theorem planL_wt {T U : Int} {M : zM} (h : WTC T U M) {i : Nat} {far w : Int} {n : Nat} (hf : -1 ≤ far ∧ far ≤ 8) (hn : n ≤ 12) : WTC T U (planL M i far w n) := WTC.it n (fun j hj M h => extendC_wt h ⟨by omega, by omega⟩ hf) h
def planF (M : zM) (i : Nat) (w : Int) (lc n : Nat) : zM := zit (fun k M => planL M i ((k : Int) + 1) w lc) n M
theorem planF_fr {M : zM} {i : Nat} {w : Int} {lc n f : Nat} (h : ¬ (f = 10 ∨ f = 11)) : planF M i w lc n f = M f := zit_fr (fun j M => planL_fr h) n M
theorem planF_wt {T U : Int} {M : zM} (h : WTC T U M) {i : Nat} {w : Int} {lc n : Nat} (hn : n ≤ 7) (hl : lc ≤ 12) : WTC T U (planF M i w lc n) := WTC.it n (fun j hj M h => planL_wt h ⟨by omega, by omega⟩ hl) h
def planC (M : zM) (i : Nat) (g w : Int) : zM := planF (planI M i g 8) i w (M 1 0 5).toNat ((M 1 0 4) - 1).toNat
theorem planC_fr {M : zM} {i : Nat} {g w : Int} {f : Nat} (h : ¬ (f = 10 ∨ f = 11)) : planC M i g w f = M f := by rw [planC, planF_fr h, planI_fr h]
theorem planC_wt {T U : Int} {M : zM} (h : WTC T U M) {i : Nat} {g w : Int} : WTC T U (planC M i g w) := by
  have h1 : 0 ≤ M 1 0 4 ∧ M 1 0 4 ≤ 8 := h.1 1 0 4
  have h2 : 0 ≤ M 1 0 5 ∧ M 1 0 5 ≤ 12 := h.1 1 0 5
  exact planF_wt (planI_wt h) (by omega) (by omega)
def addPlatformC (M : zM) (x y h : Int) : zM := zup (zup (zup (zup M 6 (M 1 0 4).toNat 0 x) 6 (M 1 0 4).toNat 1 y) 6 (M 1 0 4).toNat 2 h) 1 0 4 (M 1 0 4 + 1)
def planAll (M : zM) (n : Nat) : zM := zit (fun j M => planC M j (M 8 j 1) (M 8 j 2)) n M
theorem planAll_fr {M : zM} {n f : Nat} (h : ¬ (f = 10 ∨ f = 11)) : planAll M n f = M f := zit_fr (fun j M => planC_fr h) n M
theorem planAll_wt {T U : Int} {M : zM} (h : WTC T U M) {n : Nat} : WTC T U (planAll M n) := WTC.it n (fun j hj M h => planC_wt h) h
def addLine0 (M : zM) (t b mo : Int) : zM :=
  zup (zup (zup (zup (zup (zup M 7 (M 1 0 5).toNat 0 t) 7 (M 1 0 5).toNat 1 b) 7 (M 1 0 5).toNat 2 mo) 7 (M 1 0 5).toNat 3 (absC (M 6 t.toNat 0 - M 6 b.toNat 0) + absC (M 6 t.toNat 1 - M 6 b.toNat 1))) 7 (M 1 0 5).toNat 4 (M 6 t.toNat 2 - M 6 b.toNat 2)) 1 0 5 (M 1 0 5 + 1)
theorem absC_bd {a b : Int} (ha : 0 ≤ a ∧ a ≤ 40) (hb : 0 ≤ b ∧ b ≤ 40) : 0 ≤ absC (a - b) ∧ absC (a - b) ≤ 40 := by simp only [absC]; split <;> omega
theorem addLine0_wt {T U : Int} {M : zM} (h : WTC T U M) {t b mo : Int} (ht : 0 ≤ t ∧ t ≤ 7) (hb : 0 ≤ b ∧ b ≤ 7) (hm : 0 ≤ mo ∧ mo ≤ 150) (hl : M 6 b.toNat 2 ≤ M 6 t.toNat 2) (hc : M 1 0 5 < 12) : WTC T U (addLine0 M t b mo) := by
  have h1 := absC_bd (h.1 6 t.toNat 0) (h.1 6 b.toNat 0)
  have h2 := absC_bd (h.1 6 t.toNat 1) (h.1 6 b.toNat 1)
  have h3 : 0 ≤ M 6 t.toNat 2 ∧ M 6 t.toNat 2 ≤ 60 := h.1 6 t.toNat 2
  have h4 : 0 ≤ M 6 b.toNat 2 ∧ M 6 b.toNat 2 ≤ 60 := h.1 6 b.toNat 2
  have h5 : 0 ≤ M 1 0 5 ∧ M 1 0 5 ≤ 12 := h.1 1 0 5
  exact (((((h.up (f := 7) (k := 0) (by decide) ht).up (f := 7) (k := 1) (by decide) hb).up (f := 7) (k := 2) (by decide) hm).up (f := 7) (k := 3) (by decide) (show _ ∧ _ from ⟨by omega, by omega⟩)).up (f := 7) (k := 4) (by decide) (show _ ∧ _ from ⟨by omega, by omega⟩)).up (f := 1) (k := 5) (by decide) (show _ ∧ _ from ⟨by omega, by omega⟩)
theorem addLine0_fr {M : zM} {t b mo : Int} {f : Nat} (h : ¬ (f = 7 ∨ f = 1)) : addLine0 M t b mo f = M f := by
  simp only [addLine0]; repeat rw [zup_fr (by omega)]
def addLineC (M : zM) (t b mo : Int) : zM := planAll (addLine0 M t b mo) (M 1 0 6).toNat
def addRider0 (M : zM) (g w pa : Int) : zM := zup (zup (zup M 8 (M 1 0 6).toNat 1 g) 8 (M 1 0 6).toNat 2 w) 8 (M 1 0 6).toNat 3 pa
def addRiderC (M : zM) (g w pa : Int) : zM := zup (planC (addRider0 M g w pa) (M 1 0 6).toNat ((addRider0 M g w pa) 8 (M 1 0 6).toNat 1) ((addRider0 M g w pa) 8 (M 1 0 6).toNat 2)) 1 0 6 (M 1 0 6 + 1)
