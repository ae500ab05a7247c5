/-! what a minute does to a rider of the first row: rides begin, the waiting tire -/
def BGr (C C' : zM) (i : Nat) : Prop := C' 16 i 5 = C 16 i 5 ∧ C 16 i 4 ≤ C' 16 i 4 ∧ (C' 16 i 0 = C 16 i 0 ∨ (C 16 i 0 = 0 ∧ C' 16 i 0 = 1))
def BGl (C C' : zM) (i : Nat) : Prop := C 17 i 4 ≤ C' 17 i 4 ∧ C' 17 i 4 ≤ C 17 i 4 + 1 ∧ C 17 i 5 ≤ C' 17 i 5 ∧ C' 17 i 5 - C 17 i 5 ≤ C' 17 i 4 - C 17 i 4
theorem BGr.same {C C' : zM} {i : Nat} (h : ∀ k, C' 16 i k = C 16 i k) : BGr C C' i := ⟨h 5, by rw [h 4]; exact Int.le_refl _, Or.inl (h 0)⟩
theorem BGl.same {C C' : zM} {i : Nat} (h : ∀ k, C' 17 i k = C 17 i k) : BGl C C' i := by unfold BGl; rw [h 4, h 5]; omega
theorem BGr.trans {C C1 C2 : zM} {i : Nat} (h : BGr C C1 i) (g : BGr C1 C2 i) : BGr C C2 i := by
  obtain ⟨h1, h2, h3⟩ := h
  obtain ⟨g1, g2, g3⟩ := g
  refine ⟨g1.trans h1, by omega, ?_⟩
  rcases h3 with a | ⟨a1, a2⟩
  · rcases g3 with b | ⟨b1, b2⟩
    · exact Or.inl (b.trans a)
    · exact Or.inr ⟨a.symm.trans b1, b2⟩
  · rcases g3 with b | ⟨b1, b2⟩
    · exact Or.inr ⟨a1, b.trans a2⟩
    · omega
theorem zsum_up {f g : Nat → Int} {j : Nat} (h : ∀ k, k ≠ j → g k = f k) (hj : g j = f j + 1) (n : Nat) : zsum g n = zsum f n + (if j < n then 1 else 0) := by
  induction n with
  | zero => simp [zsum]
  | succ n ih =>
    simp only [zsum]
    rw [ih]
    by_cases e : n = j
    · subst e
      rw [hj, if_neg (by omega), if_pos (by omega)]
      omega
    · rw [h n e]
      by_cases q : j < n
      · rw [if_pos q, if_pos (by omega)]; omega
      · rw [if_neg q, if_neg (by omega)]; omega
theorem firstC_in {C M : zM} {W : List Nat} (h : RW C M 0 0 W) {n : Int} (hf : ¬ firstC C 0 n = -1) : ∃ r : Nat, C 15 0 (firstC C 0 n).toNat = (r : Int) ∧ r ∈ W := by
  have e4 : (C 12 0 4).toNat = W.length := by rw [h.1]; exact Int.toNat_natCast _
  have key : ∀ p, p < (C 12 0 4).toNat → ∃ r : Nat, C 15 0 p = (r : Int) ∧ r ∈ W := fun p hp => by
    have hp2 : p < W.length := by omega
    exact ⟨W[p], h.2.1 p _ (List.getElem?_eq_getElem hp2), List.getElem_mem hp2⟩
  unfold firstC at hf ⊢
  split at hf
  · rename_i hlt
    rw [if_pos hlt, Int.toNat_natCast]
    exact key _ hlt
  · exact absurd rfl hf
set_option maxHeartbeats 1000000 in
/-- a ride begins, or nothing happens -/
theorem beginC_BG {C M : zM} {l : Nat} {W : List Nat} {SL : Nat → List (Int × Int)} (hG : RG C M 0 0 W SL) (hS : RS C M) : beginC C 0 l = C ∨ ∃ r : Nat, ((r : Int) < C 1 0 6 ∧ C 16 (12 * 0 + r) 0 = 0) ∧ (beginC C 0 l 16 (12 * 0 + r) 0 = 1 ∧ beginC C 0 l 16 (12 * 0 + r) 4 = C 16 (12 * 0 + r) 4 + 1 ∧ beginC C 0 l 16 (12 * 0 + r) 5 = C 16 (12 * 0 + r) 5) ∧ (∀ z, z ≠ r → ∀ k, beginC C 0 l 16 (12 * 0 + z) k = C 16 (12 * 0 + z) k) ∧
    beginC C 0 l 17 (12 * 0 + l) 4 = C 17 (12 * 0 + l) 4 + 1 ∧ (C 17 (12 * 0 + l) 5 ≤ beginC C 0 l 17 (12 * 0 + l) 5 ∧ beginC C 0 l 17 (12 * 0 + l) 5 ≤ C 17 (12 * 0 + l) 5 + 1) ∧ (∀ l', l' ≠ l → ∀ k, beginC C 0 l 17 (12 * 0 + l') k = C 17 (12 * 0 + l') k) := by
  unfold beginC
  split
  · exact Or.inl rfl
  · rename_i hf
    split
    · right
      obtain ⟨r, hr, hrW⟩ := firstC_in hG.2.2.2.1 hf
      have hrW2 := (hG.2.2.2.1.2.2.2.1 r).mp hrW
      have h0 : C 16 (12 * 0 + r) 0 = 0 := by rw [(hG.2.2.1 r hrW2.1).1]; exact hrW2.2
      rw [hr, Int.toNat_natCast]
      generalize rideC (C 7 l 3) (C 7 l 4) (C 8 r 2) = x
      have hs : 0 ≤ (if C 8 r 2 * C 7 l 4 < 10 * C 7 l 3 then (1 : Int) else 0) ∧ (if C 8 r 2 * C 7 l 4 < 10 * C 7 l 3 then (1 : Int) else 0) ≤ 1 := by split <;> decide
      generalize (if C 8 r 2 * C 7 l 4 < 10 * C 7 l 3 then (1 : Int) else 0) = s at hs ⊢
      have x16 := rideTC_at (leaveC C 0 (firstC C 0 l).toNat) (12 * 0 + r) (l : Int) x
      have x16o : ∀ z k, z ≠ r → rideTC (leaveC C 0 (firstC C 0 l).toNat) (12 * 0 + r) l x 16 (12 * 0 + z) k = C 16 (12 * 0 + z) k := fun z k e => by rw [rideTC_off (by omega), leaveC_fr (by decide)]
      rw [show leaveC C 0 (firstC C 0 l).toNat 16 = C 16 from leaveC_fr (by decide)] at x16
      have x17 : rideTC (leaveC C 0 (firstC C 0 l).toNat) (12 * 0 + r) l x 17 = C 17 := by rw [rideTC_fr (by decide), leaveC_fr (by decide)]
      generalize rideTC (leaveC C 0 (firstC C 0 l).toNat) (12 * 0 + r) l x = X at x16 x16o x17 ⊢
      have y16 : zup (leaveTopC X (12 * 0 + l) r x) 17 (12 * 0 + l) 5 (leaveTopC X (12 * 0 + l) r x 17 (12 * 0 + l) 5 + s) 16 = X 16 := by rw [zup_fr (by decide), leaveTopC_fr (by decide)]
      obtain ⟨a0, a1, a2, a3, a4, a5⟩ := x16
      rw [y16]
      refine ⟨r, ⟨by rw [hS.1.2.2]; exact hrW2.1, h0⟩, ⟨a0, a4, a5⟩, fun z e k => x16o z k e, ?_, ?_, fun l' e k => ?_⟩
      · simp [leaveTopC, zup, x17]
      · simp [leaveTopC, zup, x17]; omega
      · simp [leaveTopC, zup, x17, e]
    · exact Or.inl rfl
theorem beginsN_BG {C M : zM} (hT : RT C M 0 0) (hS : RS C M) (hB : SB M) (h13 : ∀ l' : Nat, (l' : Int) < M 0 0 5 → M 13 0 l' ≤ 3) (h12 : ∀ l' : Nat, M 12 0 l' ≤ 3) (n : Nat) (hn : (n : Int) ≤ M 0 0 5) :
    (∀ z, BGr C (beginsN C 0 n) (12 * 0 + z)) ∧ (∀ l, BGl C (beginsN C 0 n) (12 * 0 + l)) ∧ (∀ l, n ≤ l → ∀ k, beginsN C 0 n 17 (12 * 0 + l) k = C 17 (12 * 0 + l) k) ∧
    zsum (fun r => beginsN C 0 n 16 (12 * 0 + r) 4) (C 1 0 6).toNat - zsum (fun r => C 16 (12 * 0 + r) 4) (C 1 0 6).toNat = zsum (fun l => beginsN C 0 n 17 (12 * 0 + l) 4) (C 1 0 5).toNat - zsum (fun l => C 17 (12 * 0 + l) 4) (C 1 0 5).toNat := by
  induction n with
  | zero => exact ⟨fun z => BGr.same (fun k => rfl), fun l => BGl.same (fun k => rfl), fun l _ k => rfl, by show _ - _ = _ - _; rw [show beginsN C 0 0 = C from rfl]; omega⟩
  | succ n ih =>
    obtain ⟨i1, i2, i3, i4⟩ := ih (by omega)
    obtain ⟨g1, -⟩ := begin_all hT hS hB h13 h12 n (by omega)
    have f1 : beginsN C 0 n 1 = C 1 := beginsN_fr (by decide)
    have e : beginsN C 0 (n + 1) = if closedP (beginsN C 0 n) n (beginsN C 0 n 12 0 5) then beginsN C 0 n else beginC (beginsN C 0 n) 0 n := rfl
    have hS1 : RS (beginsN C 0 n) (beginsM M 0 n) := hS.eq (fun f hf => beginsN_fr (by omega)) (fun f hf => beginsM_fr (by omega))
    have same : beginsN C 0 (n + 1) = beginsN C 0 n → ((∀ z, BGr C (beginsN C 0 (n + 1)) (12 * 0 + z)) ∧ (∀ l, BGl C (beginsN C 0 (n + 1)) (12 * 0 + l)) ∧ (∀ l, n + 1 ≤ l → ∀ k, beginsN C 0 (n + 1) 17 (12 * 0 + l) k = C 17 (12 * 0 + l) k) ∧ zsum (fun r => beginsN C 0 (n + 1) 16 (12 * 0 + r) 4) (C 1 0 6).toNat - zsum (fun r => C 16 (12 * 0 + r) 4) (C 1 0 6).toNat = zsum (fun l => beginsN C 0 (n + 1) 17 (12 * 0 + l) 4) (C 1 0 5).toNat - zsum (fun l => C 17 (12 * 0 + l) 4) (C 1 0 5).toNat) := fun q => by
      rw [q]
      exact ⟨i1, i2, fun l hl k => i3 l (by omega) k, i4⟩
    by_cases hc : closedP (beginsN C 0 n) n (beginsN C 0 n 12 0 5)
    · exact same (by rw [e, if_pos hc])
    · obtain ⟨W, SL, hG, -⟩ := g1
      rw [if_neg hc] at e
      rcases beginC_BG (l := n) hG hS1 with q | ⟨r, ⟨r1, r2⟩, ⟨r3, r4, r5⟩, r6, r7, r8, r9⟩
      · exact same (by rw [e, q])
      · have h5 : ((n : Nat) : Int) < C 1 0 5 := by rw [hS.1.2.1]; omega
        rw [f1] at r1
        rw [e]
        generalize beginC (beginsN C 0 n) 0 n = D at r3 r4 r5 r6 r7 r8 r9 ⊢
        generalize beginsN C 0 n = B at i1 i2 i3 i4 r2 r3 r4 r5 r6 r7 r8 r9 ⊢
        refine ⟨fun z => ?_, fun l => ?_, fun l hl k => ?_, ?_⟩
        · by_cases q : z = r
          · subst q
            exact (i1 z).trans ⟨r5, by omega, Or.inr ⟨r2, r3⟩⟩
          · exact (i1 z).trans (BGr.same (fun k => r6 z q k))
        · by_cases q : l = n
          · subst q
            have b4 := i3 l (Nat.le_refl l) 4
            have b5 := i3 l (Nat.le_refl l) 5
            unfold BGl
            omega
          · have := i2 l
            unfold BGl at this ⊢
            rw [r9 l q 4, r9 l q 5]
            exact this
        · rw [r9 l (by omega) k]
          exact i3 l (by omega) k
        · rw [zsum_up (f := fun r => B 16 (12 * 0 + r) 4) (g := fun r => D 16 (12 * 0 + r) 4) (j := r) (fun k hk => r6 k hk 4) r4, zsum_up (f := fun l => B 17 (12 * 0 + l) 4) (g := fun l => D 17 (12 * 0 + l) 4) (j := n) (fun k hk => r9 k hk 4) r7, if_pos (by omega), if_pos (by omega)]
          omega
/-- those who wait grow tired: who stays has waited less than it bears -/
theorem tireC_TR {C M : zM} (hT : RT C M 0 0) (hS : RS C M) (z : Nat) (hz : (z : Int) < C 1 0 6) : tireC C 0 16 (12 * 0 + z) 4 = C 16 (12 * 0 + z) 4 ∧ tireC C 0 16 (12 * 0 + z) 5 = C 16 (12 * 0 + z) 5 ∧ (tireC C 0 16 (12 * 0 + z) 0 = C 16 (12 * 0 + z) 0 ∨ (C 16 (12 * 0 + z) 0 = 0 ∧ tireC C 0 16 (12 * 0 + z) 0 = 3)) ∧ (tireC C 0 16 (12 * 0 + z) 0 = 0 → tireC C 0 16 (12 * 0 + z) 3 < C 8 z 3) := by
  obtain ⟨W, SL, ⟨q1, q2, q3, q4, q5⟩, hR⟩ := hT
  obtain ⟨w1, w2, w3, w4, w5⟩ := q4
  have e4 : (C 12 0 4).toNat = W.length := by rw [w1]; exact Int.toNat_natCast _
  obtain ⟨n1, n2, n3, n4, n5, n6⟩ := tireN_is (C := C) (t := 0) (fun r => ¬ (linesFromC C r (C 16 (12 * 0 + r) 1) = -1 ∨ C 8 r 3 ≤ C 16 (12 * 0 + r) 3 + 1)) W.length W rfl w2 w3 (fun r _ => Classical.not_not)
  have c16 : tireC C 0 16 = (tireN C 0 W.length).1 16 := by unfold tireC; rw [zup_fr (by decide), e4]
  have hz2 : (z : Int) < M 0 0 10 := by rw [← hS.1.2.2]; exact hz
  rw [c16]
  by_cases hW : z ∈ W
  · have h0 : C 16 (12 * 0 + z) 0 = 0 := by rw [(q3 z hz2).1]; exact ((w4 z).mp hW).2
    by_cases hk : linesFromC C z (C 16 (12 * 0 + z) 1) = -1 ∨ C 8 z 3 ≤ C 16 (12 * 0 + z) 3 + 1
    · obtain ⟨x1, x2, x3, x4⟩ := n6 z hW (fun q => q hk)
      refine ⟨x4 4 (by decide) (by decide) (by decide), x4 5 (by decide) (by decide) (by decide), Or.inr ⟨h0, x1⟩, fun q => ?_⟩
      rw [x1] at q
      exact absurd q (by decide)
    · obtain ⟨x1, x2⟩ := n5 z hW hk
      refine ⟨x2 4 (by decide), x2 5 (by decide), Or.inl (x2 0 (by decide)), fun _ => ?_⟩
      rw [x1]
      omega
  · have h9 := n4 z hW
    refine ⟨h9 4, h9 5, Or.inl (h9 0), fun q => ?_⟩
    rw [h9 0, (q3 z hz2).1] at q
    exact absurd ((w4 z).mpr ⟨hz2, q⟩) hW
