/-! THE RELATION of the two memories after n calls -/
def RZ (C M : zM) : Prop := (∀ l : Nat, M 0 0 5 ≤ l → l < 12 → C 17 (12 * 0 + l) 0 = 0 ∧ C 17 (12 * 0 + l) 1 = 0 ∧ C 17 (12 * 0 + l) 4 = 0 ∧ C 17 (12 * 0 + l) 5 = 0 ∧ M 12 0 l = 0 ∧ M 13 0 l = 0 ∧ M 16 0 l = 0 ∧ M 17 0 l = 0) ∧ (∀ r : Nat, M 0 0 10 ≤ r → r < 12 → C 16 (12 * 0 + r) 4 = 0 ∧ C 16 (12 * 0 + r) 5 = -1 ∧ M 23 0 r = 0)
def zRel (n : Nat) (C M : zM) : Prop := (n ≤ 512 → WTC (400 * n) (20000 * n) C ∧ WTM (400 * n) (20000 * n) M) ∧ RS C M ∧ RT C M 0 0 ∧ RZ C M
theorem RS.z {C M : zM} (h : RS C M) (v : Int) : RS C (zup M 0 0 0 v) := by
  have f1 : ∀ f, f ≠ 0 → zup M 0 0 0 v f = M f := fun f hf => zup_fr hf
  have e5 : zup M 0 0 0 v 0 0 5 = M 0 0 5 := by simp [zup]
  have e1 : zup M 0 0 0 v 0 0 1 = M 0 0 1 := by simp [zup]
  have e10 : zup M 0 0 0 v 0 0 10 = M 0 0 10 := by simp [zup]
  have g1 : ∀ q : Int, lenM (zup M 0 0 0 v) q = lenM M q := fun q => by unfold lenM; rw [f1 1 (by decide), f1 2 (by decide), f1 4 (by decide), f1 5 (by decide)]
  have g2 : ∀ q : Int, dropM (zup M 0 0 0 v) q = dropM M q := fun q => by unfold dropM; rw [f1 3 (by decide), f1 4 (by decide), f1 5 (by decide)]
  have g3 : ∀ a to w : Int, fewM (zup M 0 0 0 v) a to w = fewM M a to w := fun a to w => fewN_eq e5 (fun f h4 h7 => f1 f (by omega)) _ _ _ _
  have g4 : ∀ a to w : Int, firstM (zup M 0 0 0 v) a to w = firstM M a to w := fun a to w => firstM_eq e5 (fun f h4 h7 => f1 f (by omega)) _ _ _
  unfold RS at h ⊢
  simp only [g1, g2, g3, g4]
  rw [e5, e1, e10, f1 1 (by decide), f1 2 (by decide), f1 3 (by decide), f1 4 (by decide), f1 5 (by decide), f1 6 (by decide), f1 7 (by decide), f1 8 (by decide), f1 9 (by decide), f1 10 (by decide)]
  exact h
theorem RT.z {C M : zM} {t u : Nat} (h : RT C M t u) (v : Int) : RT C (zup M 0 0 0 v) t u := by
  have f1 : ∀ f, f ≠ 0 → zup M 0 0 0 v f = M f := fun f hf => zup_fr hf
  have e5 : zup M 0 0 0 v 0 0 5 = M 0 0 5 := by simp [zup]
  have e1 : zup M 0 0 0 v 0 0 1 = M 0 0 1 := by simp [zup]
  have e10 : zup M 0 0 0 v 0 0 10 = M 0 0 10 := by simp [zup]
  unfold RT RG RC RR RW RL9 repC repM Wp at h ⊢
  rw [e5, e1, e10, f1 10 (by decide), f1 11 (by decide), f1 12 (by decide), f1 13 (by decide), f1 14 (by decide), f1 15 (by decide), f1 16 (by decide), f1 17 (by decide), f1 18 (by decide), f1 19 (by decide), f1 20 (by decide), f1 21 (by decide), f1 22 (by decide), f1 23 (by decide), f1 24 (by decide)]
  exact h
theorem RZ.z {C M : zM} (h : RZ C M) (v : Int) : RZ C (zup M 0 0 0 v) := by
  have f1 : ∀ f, f ≠ 0 → zup M 0 0 0 v f = M f := fun f hf => zup_fr hf
  have e5 : zup M 0 0 0 v 0 0 5 = M 0 0 5 := by simp [zup]
  have e10 : zup M 0 0 0 v 0 0 10 = M 0 0 10 := by simp [zup]
  unfold RZ at h ⊢
  rw [e5, e10, f1 12 (by decide), f1 13 (by decide), f1 16 (by decide), f1 17 (by decide), f1 23 (by decide)]
  exact h
theorem zRel.next {n : Nat} {C M : zM} (h : zRel n C M) : zRel (n + 1) C M := by
  refine ⟨fun hn => ?_, h.2⟩
  obtain ⟨h1, h2⟩ := h.1 (by omega)
  have := h1.2.2
  exact ⟨h1.mono (by omega) (by omega) (by omega) (by omega), h2.mono (by omega) (by omega) (by omega) (by omega)⟩
theorem zRel.z {n : Nat} {C M : zM} (h : zRel n C M) {v : Int} (hv : 0 ≤ v ∧ v ≤ 3) : zRel n C (zup M 0 0 0 v) :=
  ⟨fun hn => ⟨(h.1 hn).1, (h.1 hn).2.thr hv⟩, h.2.1.z v, h.2.2.1.z v, h.2.2.2.z v⟩
theorem zRel.th {n : Nat} {C M : zM} (h : zRel n C M) {k : Int} (hk : 0 ≤ k ∧ k ≤ 3) : zRel n C (thM M k) := (h.z (v := 0) (by omega)).z hk
theorem thM_0 (M : zM) (k : Int) : thM M k 0 0 0 = k := by simp [thM, zup]
theorem z000 (M : zM) : zup M 0 0 0 0 0 0 0 = 0 := by simp [zup]
theorem zst_wt : zSt_wt zRel := fun n C M h hn => h.1 hn
theorem zst_skip : zSt_skip zRel := fun n C M h => h.next
/-- a face that changes nothing but the mark -/
theorem zRel.face {n : Nat} {C M : zM} (h : zRel n C M) {k : Int} (hk : 0 ≤ k ∧ k ≤ 3) : zRel (n + 1) C (if k = 0 then zup M 0 0 0 0 else thM M k) := by
  split
  · exact (h.z (v := 0) (by omega)).next
  · exact (h.th hk).next
theorem face_0 (M : zM) (k : Int) : (if k = 0 then zup M 0 0 0 0 else thM M k) 0 0 0 = k := by
  split
  · rename_i h; rw [z000, h]
  · exact thM_0 M k
theorem kPlat_eq {C M : zM} (h : C 1 0 4 = M 0 0 1) (a1 a2 : Int) : wcd 3 0 0 (kPlat C a1 a2) = kPlatM M a1 a2 ∧ (kPlatM M a1 a2 = 0 → kPlat C a1 a2 = 0) ∧ (0 ≤ kPlatM M a1 a2 ∧ kPlatM M a1 a2 ≤ 3) := by
  unfold kPlat kPlatM
  rw [h]
  by_cases h1 : 0 ≤ a1 ∧ a1 ≤ M 0 0 1 - 1
  · by_cases h2 : 0 ≤ a2 ∧ a2 ≤ 7
    · rw [if_pos h1, if_pos h2, if_pos ⟨h1, h2⟩]; exact ⟨rfl, fun _ => rfl, by decide⟩
    · rw [if_pos h1, if_neg h2, if_neg (fun z => h2 z.2)]; exact ⟨rfl, fun z => absurd z (by decide), by decide⟩
  · rw [if_neg h1, if_neg (fun z => h1 z.1)]; exact ⟨rfl, fun z => absurd z (by decide), by decide⟩
theorem kLine_eq {C M : zM} (h : C 1 0 5 = M 0 0 5) (a1 a2 : Int) : wcd 3 0 0 (kLine C a1 a2) = kLineM M a1 a2 ∧ (kLineM M a1 a2 = 0 → kLine C a1 a2 = 0) ∧ (0 ≤ kLineM M a1 a2 ∧ kLineM M a1 a2 ≤ 3) := by
  unfold kLine kLineM
  rw [h]
  by_cases h1 : 0 ≤ a1 ∧ a1 ≤ M 0 0 5 - 1
  · by_cases h2 : 0 ≤ a2 ∧ a2 ≤ 10
    · rw [if_pos h1, if_pos h2, if_pos ⟨h1, h2⟩]; exact ⟨rfl, fun _ => rfl, by decide⟩
    · rw [if_pos h1, if_neg h2, if_neg (fun z => h2 z.2)]; exact ⟨rfl, fun z => absurd z (by decide), by decide⟩
  · rw [if_neg h1, if_neg (fun z => h1 z.1)]; exact ⟨rfl, fun z => absurd z (by decide), by decide⟩
theorem kRider_eq {C M : zM} (h : C 1 0 6 = M 0 0 10) (a1 a2 : Int) : wcd 3 0 0 (kRider C a1 a2) = kRiderM M a1 a2 ∧ (kRiderM M a1 a2 = 0 → kRider C a1 a2 = 0) ∧ (0 ≤ kRiderM M a1 a2 ∧ kRiderM M a1 a2 ≤ 3) := by
  unfold kRider kRiderM
  rw [h]
  by_cases h1 : 0 ≤ a1 ∧ a1 ≤ M 0 0 10 - 1
  · by_cases h2 : 0 ≤ a2 ∧ a2 ≤ 10
    · rw [if_pos h1, if_pos h2, if_pos ⟨h1, h2⟩]; exact ⟨rfl, fun _ => rfl, by decide⟩
    · rw [if_pos h1, if_neg h2, if_neg (fun z => h2 z.2)]; exact ⟨rfl, fun z => absurd z (by decide), by decide⟩
  · rw [if_neg h1, if_neg (fun z => h1 z.1)]; exact ⟨rfl, fun z => absurd z (by decide), by decide⟩
theorem kRide_eq {C M : zM} (h : C 1 0 5 = M 0 0 5) (a1 a2 : Int) : wcd 3 1 0 (kRide C a1 a2) = kRideM M a1 a2 ∧ (kRideM M a1 a2 = 0 → kRide C a1 a2 = 0) ∧ (0 ≤ kRideM M a1 a2 ∧ kRideM M a1 a2 ≤ 3) := by
  unfold kRide kRideM
  rw [h]
  by_cases h1 : 0 ≤ a1 ∧ a1 ≤ M 0 0 5 - 1
  · rw [if_pos h1, if_pos h1]
    by_cases h2 : 20 ≤ a2 ∧ a2 ≤ 120
    · rw [if_pos h2, if_pos h2]; exact ⟨rfl, fun _ => rfl, by decide⟩
    · rw [if_neg h2, if_neg h2]; exact ⟨rfl, fun z => absurd z (by decide), by decide⟩
  · rw [if_neg h1, if_neg h1]; exact ⟨rfl, fun z => absurd z (by decide), by decide⟩
theorem kWay_eq {C M : zM} (h : C 1 0 4 = M 0 0 1) (a1 a2 a3 : Int) : wcd 3 1 0 (kWay C a1 a2 a3) = kWayM M a1 a2 a3 ∧ (kWayM M a1 a2 a3 = 0 → kWay C a1 a2 a3 = 0) ∧ (0 ≤ kWayM M a1 a2 a3 ∧ kWayM M a1 a2 a3 ≤ 3) := by
  unfold kWay kWayM
  rw [h]
  by_cases h1 : 0 ≤ a1 ∧ a1 ≤ M 0 0 1 - 1
  · by_cases h2 : 0 ≤ a2 ∧ a2 ≤ M 0 0 1 - 1
    · rw [if_pos h1, if_pos h2, if_pos (And.intro h1 h2)]
      by_cases h3 : 20 ≤ a3 ∧ a3 ≤ 120
      · rw [if_pos h3, if_pos h3]; exact ⟨rfl, fun _ => rfl, by decide⟩
      · rw [if_neg h3, if_neg h3]; exact ⟨rfl, fun z => absurd z (by decide), by decide⟩
    · rw [if_pos h1, if_neg h2, if_neg (fun z => h2 z.2)]; exact ⟨rfl, fun z => absurd z (by decide), by decide⟩
  · rw [if_neg h1, if_neg (fun z => h1 z.1)]; exact ⟨rfl, fun z => absurd z (by decide), by decide⟩
theorem kCount_eq (a1 : Int) : wcd 3 0 0 (kCount a1) = kCountM a1 ∧ (kCountM a1 = 0 → kCount a1 = 0) ∧ (0 ≤ kCountM a1 ∧ kCountM a1 ≤ 3) := by
  unfold kCount kCountM
  by_cases h1 : 0 ≤ a1 ∧ a1 ≤ 9
  · rw [if_pos h1, if_pos h1]; exact ⟨rfl, fun _ => rfl, by decide⟩
  · rw [if_neg h1, if_neg h1]; exact ⟨rfl, fun z => absurd z (by decide), by decide⟩
theorem kPass_eq (a1 : Int) : wcd 1 0 0 (kPass a1) = kPassM a1 ∧ (kPassM a1 = 0 ↔ kPass a1 = 0) ∧ (0 ≤ kPassM a1 ∧ kPassM a1 ≤ 3) := by
  unfold kPass kPassM
  by_cases h1 : 1 ≤ a1 ∧ a1 ≤ 100
  · rw [if_pos h1, if_pos h1]; exact ⟨rfl, ⟨fun _ => rfl, fun _ => rfl⟩, by decide⟩
  · rw [if_neg h1, if_neg h1]; exact ⟨rfl, ⟨fun z => absurd z (by decide), fun z => absurd z (by decide)⟩, by decide⟩
theorem kAdv_eq (a1 : Int) : wcd 1 0 0 (kAdv a1) = kAdvM a1 ∧ (kAdvM a1 = 0 ↔ kAdv a1 = 0) ∧ (0 ≤ kAdvM a1 ∧ kAdvM a1 ≤ 3) := by
  unfold kAdv kAdvM
  by_cases h1 : 1 ≤ a1 ∧ a1 ≤ 30
  · rw [if_pos h1, if_pos h1]; exact ⟨rfl, ⟨fun _ => rfl, fun _ => rfl⟩, by decide⟩
  · rw [if_neg h1, if_neg h1]; exact ⟨rfl, ⟨fun z => absurd z (by decide), fun z => absurd z (by decide)⟩, by decide⟩
theorem kArr_eq {C M : zM} (h : C 1 0 6 = M 0 0 10) (a1 : Int) : wcd 3 0 0 (kArr C a1) = kArrM M a1 ∧ (kArrM M a1 = 0 ↔ kArr C a1 = 0) ∧ (0 ≤ kArrM M a1 ∧ kArrM M a1 ≤ 3) := by
  unfold kArr kArrM
  rw [h]
  by_cases h1 : 0 ≤ a1 ∧ a1 ≤ M 0 0 10 - 1
  · rw [if_pos h1, if_pos h1]; exact ⟨rfl, ⟨fun _ => rfl, fun _ => rfl⟩, by decide⟩
  · rw [if_neg h1, if_neg h1]; exact ⟨rfl, ⟨fun z => absurd z (by decide), fun z => absurd z (by decide)⟩, by decide⟩
theorem kWind_eq (a1 a2 : Int) : wcd 3 1 0 (kWind a1 a2) = kWindM a1 a2 ∧ (kWindM a1 a2 = 0 ↔ kWind a1 a2 = 0) ∧ (0 ≤ kWindM a1 a2 ∧ kWindM a1 a2 ≤ 3) := by
  unfold kWind kWindM
  by_cases h1 : 0 ≤ a1 ∧ a1 ≤ 11
  · rw [if_pos h1, if_pos h1]
    by_cases h2 : 0 ≤ a2 ∧ a2 ≤ 9
    · rw [if_pos h2, if_pos h2]; exact ⟨rfl, ⟨fun _ => rfl, fun _ => rfl⟩, by decide⟩
    · rw [if_neg h2, if_neg h2]; exact ⟨rfl, ⟨fun z => absurd z (by decide), fun z => absurd z (by decide)⟩, by decide⟩
  · rw [if_neg h1, if_neg h1]; exact ⟨rfl, ⟨fun z => absurd z (by decide), fun z => absurd z (by decide)⟩, by decide⟩
