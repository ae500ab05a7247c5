theorem left_eq {C M : zM} {T U : Int} (hT : RT C M 0 0) (hZ : ∀ l : Nat, M 0 0 5 ≤ l → l < 12 → M 13 0 l = 0) (hw : WTM T U M) {r : Nat} (hr : (r : Int) < M 0 0 10) (h1 : M 20 0 r = 1) : C 16 (12 * 0 + r) 3 = leftM M 0 (r : Int) := by
  obtain ⟨W, SL, ⟨q1, q2, q3, q4, ⟨l1, l2, l3⟩⟩, hR⟩ := hT
  have h5 : M 0 0 5 ≤ 12 := (hw.1 0 0 5).2
  obtain ⟨g1, g2, a, g3, g4⟩ := l3 r hr h1
  obtain ⟨l, hl⟩ : ∃ l : Nat, M 21 0 r = (l : Int) := ⟨(M 21 0 r).toNat, by omega⟩
  rw [hl, Int.toNat_natCast] at g3
  have hl5 : (l : Int) < M 0 0 5 := by omega
  obtain ⟨idx, hi, he⟩ := List.getElem_of_mem g3
  obtain ⟨-, a3, a4⟩ := hR l hl5
  have h13 : M 13 0 l ≤ 3 := (hw.1 13 0 l).2
  have hat := a4 idx a (by rw [List.getElem?_eq_getElem hi, he])
  have hx := ((l1 l hl5 a g3).2 (by omega)).2.2.2.2
  have hu : ∀ k, k < 36 → leftP M 0 (r : Int) k → k = 3 * l + idx := by
    rintro k hk ⟨z1, z2⟩
    have hk3 : k / 3 < 12 := by omega
    by_cases e : M 0 0 5 ≤ ((k / 3 : Nat) : Int)
    · rw [hZ _ e hk3] at z1
      omega
    · have hl6 : ((k / 3 : Nat) : Int) < M 0 0 5 := by omega
      obtain ⟨-, b3, b4⟩ := hR (k / 3) hl6
      have hi2 : k % 3 < (SL (k / 3)).length := by omega
      have e2 := List.getElem?_eq_getElem hi2
      have e3 := (b4 _ _ e2).1
      rw [show 3 * (k / 3) + k % 3 = k by omega, z2] at e3
      have e4 := ((l1 _ hl6 _ (List.getElem_mem hi2)).2 (by omega)).2.2.2.1
      rw [← e3, Int.toNat_natCast, hl] at e4
      have e5 : k / 3 = l := by omega
      have hp := List.pairwise_iff_getElem.mp (l2 l hl5)
      have hi3 : k % 3 < (SL l).length := e5 ▸ hi2
      have e6 : (SL l)[k % 3].1 = (r : Int) := by
        have h9 := b4 (k % 3) (SL l)[k % 3] (by rw [e5, List.getElem?_eq_getElem hi3])
        rw [show 3 * (k / 3) + k % 3 = k by omega, z2] at h9
        exact h9.1.symm
      rcases Nat.lt_trichotomy (k % 3) idx with y | y | y
      · exact absurd (by rw [e6, he, g4]) (hp (k % 3) idx hi3 hi y (by rw [e6]; omega))
      · omega
      · exact absurd (by rw [e6, he, g4]) (hp idx (k % 3) hi hi3 y (by rw [he, g4]; omega))
  have hP : leftP M 0 (r : Int) (3 * l + idx) := by
    refine ⟨?_, hat.1.trans g4⟩
    rw [show (3 * l + idx) % 3 = idx by omega, show (3 * l + idx) / 3 = l by omega]
    omega
  have hf : zfst (leftP M 0 (r : Int)) 36 = 3 * l + idx := zfst_found (fun k hk z => by have := hu k (by omega) z; omega) hP (by omega)
  unfold leftM
  rw [hf, if_pos (by omega), hat.2, ← hx, g4, Int.toNat_natCast]
theorem rider_eq {C M : zM} {T U : Int} (hS : RS C M) (hT : RT C M 0 0) (hZ : ∀ l : Nat, M 0 0 5 ≤ l → l < 12 → M 13 0 l = 0) (hw : WTM T U M) {r : Nat} (hr : (r : Int) < M 0 0 10) (w : Int) : riderFactC C (r : Int) w = riderToldM M (r : Int) w := by
  have hleft := left_eq hT hZ hw hr
  have h01 : M 0 0 1 ≤ 8 := (hw.1 0 0 1).2
  have h20 : 0 ≤ M 20 0 r ∧ M 20 0 r ≤ 3 := hw.1 20 0 r
  obtain ⟨W, SL, hG, hR⟩ := hT
  obtain ⟨b1, b2, b3, b4, b5, b6, b7⟩ := hG.2.2.1 r hr
  obtain ⟨d1, d2, d3⟩ := hS.2.2.2.2.1 r
  have e4 : C 16 (12 * 0 + r) 1 = if M 20 0 r = 0 ∨ M 20 0 r = 2 then M 21 0 r else -1 := by
    split
    · rename_i q
      rcases q with q | q
      · exact (b4 q).1
      · exact (b6 q).1
    · have : M 20 0 r = 1 ∨ M 20 0 r = 3 := by omega
      rcases this with q | q
      · exact (b5 q).1
      · exact (b7 q).1
  have e5 : C 16 (12 * 0 + r) 2 = if M 20 0 r = 1 then M 21 0 r else -1 := by
    split
    · rename_i q; exact (b5 q).2
    · have : M 20 0 r = 0 ∨ M 20 0 r = 2 ∨ M 20 0 r = 3 := by omega
      rcases this with q | q | q
      · exact (b4 q).2.1
      · exact (b6 q).2.2.1
      · exact (b7 q).2.1
  have e6 : C 16 (12 * 0 + r) 3 = if M 20 0 r = 0 then M 22 0 r else if M 20 0 r = 1 then leftM M 0 (r : Int) else 0 := by
    split
    · rename_i q; exact (b4 q).2.2.1
    · split
      · rename_i q; exact hleft q
      · have : M 20 0 r = 2 ∨ M 20 0 r = 3 := by omega
        rcases this with q | q
        · exact (b6 q).2.2.2
        · exact (b7 q).2.2
  have hp : M 20 0 r = 0 → linesFromC C r (C 16 (12 * 0 + r) 1) = fewN M (M 10 0 r) (M 8 0 r) 61 (M 21 0 r) ∧ firstFromC C r (C 16 (12 * 0 + r) 1) = firstM M (M 21 0 r) (M 10 0 r) (M 8 0 r) := by
    intro q
    obtain ⟨x1, x2, x3, x4, x5⟩ := b4 q
    obtain ⟨p, hp⟩ : ∃ p : Nat, M 21 0 r = (p : Int) := ⟨(M 21 0 r).toNat, by omega⟩
    have h9 := hS.2.2.2.2.2.2.2.1 r p hr (by omega)
    unfold linesFromC firstFromC
    rw [x1, hp, if_pos (by omega), if_pos (by omega), Int.toNat_natCast]
    exact h9
  have e7 : (if C 16 (12 * 0 + r) 0 = 0 then (if linesFromC C r (C 16 (12 * 0 + r) 1) < 0 then 0 else linesFromC C r (C 16 (12 * 0 + r) 1)) else 0) = (if M 20 0 r = 0 then (if 0 < fewN M (M 10 0 r) (M 8 0 r) 61 (M 21 0 r) then fewN M (M 10 0 r) (M 8 0 r) 61 (M 21 0 r) else 0) else 0) := by
    by_cases q : M 20 0 r = 0
    · rw [if_pos (b1.trans q), if_pos q, (hp q).1]
      split <;> split <;> omega
    · rw [if_neg (fun z => q (b1.symm.trans z)), if_neg q]
  have e8 : (if C 16 (12 * 0 + r) 0 = 0 then firstFromC C r (C 16 (12 * 0 + r) 1) else -1) = (if M 20 0 r = 0 then firstM M (M 21 0 r) (M 10 0 r) (M 8 0 r) else -1) := by
    by_cases q : M 20 0 r = 0
    · rw [if_pos (b1.trans q), if_pos q, (hp q).2]
    · rw [if_neg (fun z => q (b1.symm.trans z)), if_neg q]
  unfold riderFactC riderToldM
  rw [Int.toNat_natCast, e7, e8, b1, b2, b3, e4, e5, e6, d1, d2, d3]
theorem mean_eq {C M : zM} (hS : RS C M) (hT : RT C M 0 0) : meanC C = meanM M := by
  have h6 : (C 1 0 6).toNat = (M 0 0 10).toNat := by rw [hS.1.2.2]
  have h2 := riders_eq hT hS.1.2.2 2
  obtain ⟨W, SL, hG, hR⟩ := hT
  have h1 : meanS C (C 1 0 6).toNat = meanSM M (M 0 0 10).toNat := by
    unfold meanS meanSM
    rw [h6]
    refine zsum_congr (fun k hk => ?_)
    obtain ⟨b1, b2, b3, b4, b5, b6, b7⟩ := hG.2.2.1 k (by omega)
    rw [b3]
    by_cases q : M 20 0 k = 2
    · rw [if_pos (b1.trans q), if_pos q]
    · rw [if_neg (fun z => q (b1.symm.trans z)), if_neg q]
  unfold meanC meanM
  rw [h1, h2]
theorem zit_congr {α : Type} {f g : Nat → α → α} {n : Nat} {a : α} (h : ∀ k, k < n → ∀ a, f k a = g k a) : zit f n a = zit g n a := by
  induction n with
  | zero => rfl
  | succ n ih => rw [zit, zit, ih (fun k hk => h k (by omega)), h n (by omega)]
theorem dgo_congr {f g : Nat → Int} {d : Int64} {n : Nat} (h : ∀ k, k < n → f k = g k) : dgo f d n = dgo g d n := zit_congr (fun k hk d => congrArg (dstep d) (h k hk))
theorem dgg_congr {f g : Nat → Int64 → Int64} {d : Int64} {n : Nat} (h : ∀ k, k < n → ∀ d, f k d = g k d) : dgg f d n = dgg g d n := zit_congr h
theorem digest_eq {C M : zM} {T U : Int} (hS : RS C M) (hT : RT C M 0 0) (hZ : ∀ l : Nat, M 0 0 5 ≤ l → l < 12 → M 13 0 l = 0) (hw : WTM T U M) : dg5 C = dgM5 M := by
  have h1 : (C 1 0 4).toNat = (M 0 0 1).toNat := by rw [hS.1.1]
  have h5 : (C 1 0 5).toNat = (M 0 0 5).toNat := by rw [hS.1.2.1]
  have h6 : (C 1 0 6).toNat = (M 0 0 10).toNat := by rw [hS.1.2.2]
  have h01 : M 0 0 1 ≤ 8 := (hw.1 0 0 1).2
  have e2 : dg2 C = dgM2 M := by
    unfold dg2 dgM2
    rw [dgo_congr (f := fun w => countFactC C w) (g := fun w => countedM M w) (fun k _ => count_eq hS hT k)]
    exact dgo_congr (fun k _ => hS.2.2.2.2.2.2.1 k)
  have e3 : dg3 C = dgM3 M := by
    unfold dg3 dgM3
    rw [h1, e2]
    refine dgg_congr (fun p hp d => ?_)
    have hp1 : (p : Int) < M 0 0 1 := by omega
    have hp8 : p < 8 := by omega
    unfold digPC digPM
    rw [qLen_eq hT hp8, dgo_congr (f := fun w => platFactC C (p : Int) w) (g := fun w => platToldM M (p : Int) w) (fun k _ => plat_eq hS hT hp1 hp8 k)]
    exact dgo_congr (fun k hk => qAt_eq hT hp8 (by omega))
  have e4 : dg4 C = dgM4 M := by
    unfold dg4 dgM4
    rw [h5, e3]
    exact dgg_congr (fun l hl d => dgo_congr (fun k _ => line_eq hS hT (by omega) k))
  unfold dg5 dgM5
  rw [h6, e4]
  exact dgg_congr (fun r hr d => dgo_congr (fun k _ => rider_eq hS hT hZ hw (by omega) k))
