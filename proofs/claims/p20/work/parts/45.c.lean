/-! what is told, in both -/
theorem zsum_congr {f g : Nat → Int} {n : Nat} (h : ∀ k, k < n → f k = g k) : zsum f n = zsum g n := by
  induction n with
  | zero => rfl
  | succ n ih => rw [zsum, zsum, ih (fun k hk => h k (by omega)), h n (by omega)]
theorem zcnt_list {Q P : Nat → Prop} [DecidablePred Q] [DecidablePred P] (n : Nat) : ∀ L : List Nat, L.length = n → (∀ k r : Nat, L[k]? = some r → (Q k ↔ P r)) → zcnt Q n = ((L.filter (fun r => decide (P r))).length : Int) := by
  induction n with
  | zero =>
    intro L hL _
    have : L = [] := List.length_eq_zero_iff.mp hL
    subst this
    rfl
  | succ n ih =>
    intro L hL h
    obtain ⟨L', r, rfl, hL'⟩ := snoc_of n L hL
    have h1 := ih L' hL' (fun k x hk => h k x (by rw [List.getElem?_append_left (List.getElem?_eq_some_iff.mp hk).1]; exact hk))
    have h2 := h n r (by simp [← hL'])
    rw [zcnt, h1, List.filter_append, List.length_append]
    by_cases q : P r
    · rw [if_pos (h2.mpr q)]; simp [q]
    · rw [if_neg (fun z => q (h2.mp z))]; simp [q]
theorem filter_at (P : Nat → Prop) [DecidablePred P] : ∀ (W : List Nat) (ix r : Nat), (W.filter (fun r => decide (P r)))[ix]? = some r → ∃ W1 W2, W = W1 ++ r :: W2 ∧ (W1.filter (fun r => decide (P r))).length = ix ∧ P r := by
  intro W
  induction W with
  | nil => intro ix r h; simp at h
  | cons a W ih =>
    intro ix r h
    by_cases q : P a
    · rw [List.filter_cons_of_pos (by simpa using q)] at h
      cases ix with
      | zero =>
        simp at h
        subst h
        exact ⟨[], W, rfl, rfl, q⟩
      | succ ix =>
        rw [List.getElem?_cons_succ] at h
        obtain ⟨W1, W2, h1, h2, h3⟩ := ih ix r h
        exact ⟨a :: W1, W2, by rw [h1]; rfl, by rw [List.filter_cons_of_pos (by simpa using q), List.length_cons, h2], h3⟩
    · rw [List.filter_cons_of_neg (by simpa using q)] at h
      obtain ⟨W1, W2, h1, h2, h3⟩ := ih ix r h
      exact ⟨a :: W1, W2, by rw [h1]; rfl, by rw [List.filter_cons_of_neg (by simpa using q)]; exact h2, h3⟩
/-- the class's row, seen by platform -/
theorem row_at {C M : zM} {t u : Nat} {W : List Nat} {SL : Nat → List (Int × Int)} (hG : RG C M t u W SL) (p : Nat) : ∀ k r : Nat, W[k]? = some r → (C 16 (12 * t + (C 15 t k).toNat) 1 = (p : Int) ↔ M 21 u r = (p : Int)) := by
  intro k r hk
  obtain ⟨w1, w2, w3, w4, w5⟩ := hG.2.2.2.1
  have hrW := (w4 r).mp (List.mem_of_getElem? hk)
  rw [w2 k r hk, Int.toNat_natCast, ((hG.2.2.1 r hrW.1).2.2.2.1 hrW.2).1]
theorem qLen_eq {C M : zM} {t u : Nat} (hT : RT C M t u) {p : Nat} (hp : p < 8) : qLen C t (p : Int) = M 18 u p := by
  obtain ⟨W, SL, hG, hR⟩ := hT
  have hW := hG.2.2.2.1
  unfold qLen
  rw [hW.1, Int.toNat_natCast, zcnt_list (P := fun r => M 21 u r = (p : Int)) W.length W rfl (row_at hG p), (hW.2.2.2.2 p hp).1]
  rfl
theorem qAt_eq {C M : zM} {t u : Nat} (hT : RT C M t u) {p ix : Nat} (hp : p < 8) (hix : (ix : Int) < M 18 u p) : qAt C t (p : Int) (ix : Int) = M 19 u (12 * p + ix) := by
  obtain ⟨W, SL, hG, hR⟩ := hT
  have hW := hG.2.2.2.1
  obtain ⟨r, r1, r2, r3, r4⟩ := hW.at hp hix
  have hrow := row_at hG p
  obtain ⟨w1, w2, w3, w4, w5⟩ := hW
  obtain ⟨W1, W2, hWe, h2, h3⟩ := filter_at (fun r => M 21 u r = (p : Int)) W ix r r1
  subst hWe
  have hc : zcnt (fun j => C 16 (12 * t + (C 15 t j).toNat) 1 = (p : Int)) W1.length = (ix : Int) := by
    rw [zcnt_list (P := fun r => M 21 u r = (p : Int)) W1.length W1 rfl (fun k x hk => hrow k x (by rw [List.getElem?_append_left (List.getElem?_eq_some_iff.mp hk).1]; exact hk)), h2]
  have hf : zfst (inQP C t (p : Int) (ix : Int)) (W1 ++ r :: W2).length = W1.length := by
    refine zfst_found (fun k hk z => ?_) ⟨(hrow W1.length r (by simp)).mpr h3, hc⟩ (by simp)
    have h5 := zcnt_mono (fun j => C 16 (12 * t + (C 15 t j).toNat) 1 = (p : Int)) (show k + 1 ≤ W1.length by omega)
    rw [hc, zcnt, if_pos z.1] at h5
    have := z.2
    omega
  unfold qAt
  rw [w1, Int.toNat_natCast, hf, if_pos (by simp), w2 W1.length r (by simp), r2]
theorem qAt_none {C M : zM} {t u : Nat} (hT : RT C M t u) {p : Nat} (hp : p < 8) (hix : M 18 u p = 0) : qAt C t (p : Int) 0 = -1 := by
  obtain ⟨W, SL, hG, hR⟩ := hT
  obtain ⟨w1, w2, w3, w4, w5⟩ := hG.2.2.2.1
  have h0 := (w5 p hp).1
  rw [hix] at h0
  have hnil : Wp M u W p = [] := List.length_eq_zero_iff.mp (by omega)
  unfold qAt
  rw [w1, Int.toNat_natCast, zfst_none (n := W.length) (fun k hk z => ?_), if_neg (Nat.lt_irrefl _)]
  have e := List.getElem?_eq_getElem hk
  have h1 := (row_at hG p k _ e).mp z.1
  have h2 : W[k] ∈ Wp M u W p := List.mem_filter.mpr ⟨List.getElem_mem hk, decide_eq_true h1⟩
  rw [hnil] at h2
  simp at h2
theorem count_eq {C M : zM} (hS : RS C M) (hT : RT C M 0 0) (w : Int) : countFactC C w = countedM M w := by
  have hr := riders_eq hT hS.1.2.2
  have h5 : (C 1 0 5).toNat = (M 0 0 5).toNat := by rw [hS.1.2.1]
  obtain ⟨W, SL, hG, hR⟩ := hT
  have h8 : zsum (fun j => C 17 (12 * 0 + j) 0 + C 17 (12 * 0 + j) 1) (C 1 0 5).toNat = zsum (fun j => M 12 0 j) (M 0 0 5).toNat := by
    rw [h5]
    exact zsum_congr (fun k hk => (hG.2.1 k (by omega)).1)
  have h9 : zsum (fun j => C 17 (12 * 0 + j) 4) (C 1 0 5).toNat = zsum (fun j => M 16 0 j) (M 0 0 5).toNat := by
    rw [h5]
    exact zsum_congr (fun k hk => (hG.2.1 k (by omega)).2.1)
  unfold countFactC countedM
  rw [h8, h9, hr, hr, hr, hr, hG.1, hS.1.1, hS.1.2.1, hS.1.2.2]
theorem line_eq {C M : zM} (hS : RS C M) (hT : RT C M 0 0) {l : Nat} (hl : (l : Int) < M 0 0 5) (w : Int) : lineFactC C (l : Int) w = lineToldM M (l : Int) w := by
  obtain ⟨W, SL, hG, hR⟩ := hT
  obtain ⟨k1, k2, k3, k4, k5⟩ := hS.2.2.2.1 l hl
  obtain ⟨b1, b2, b3⟩ := hG.2.1 l hl
  obtain ⟨⟨a1, a2⟩, a3, a4⟩ := hR l hl
  obtain ⟨d1, d2, d3⟩ := hS.2.2.1 l
  have hcl : closedP C l (C 12 0 5) ↔ closedM M l (M 11 0 0) := by
    show 80 - 8 * C 5 0 (C 12 0 5 % 12).toNat < C 7 l 3 ↔ 80 - 8 * M 7 0 (M 11 0 0 % 12).toNat < lenM M l
    rw [hG.1, hS.2.2.2.2.2.2.1, k1]
  have h7 : zcnt (fun j => C 18 (12 * 0 + l) j ≠ -1) (C 17 (12 * 0 + l) 1).toNat = ridingM M 0 (l : Int) := by
    unfold ridingM
    rw [Int.toNat_natCast, a1, a3, Int.toNat_natCast]
    refine zcnt_congr (fun k hk => ?_)
    have e := List.getElem?_eq_getElem hk
    rw [(a2 k _ e).1, (a4 k _ e).1]
  have h6 : C 17 (12 * 0 + l) 0 = M 12 0 l - M 13 0 l := by omega
  have h10 : (if closedP C l (C 12 0 5) then (1 : Int) else 0) = if closedM M (l : Int) (M 11 0 0) then 1 else 0 := by
    by_cases q : closedM M l (M 11 0 0)
    · rw [if_pos (hcl.mpr q), if_pos q]
    · rw [if_neg (fun z => q (hcl.mp z)), if_neg q]
  unfold lineFactC lineToldM
  rw [Int.toNat_natCast, h10, h7, b1, b2, b3, d1, d2, d3, k1, k2, h6]
theorem plat_eq {C M : zM} (hS : RS C M) (hT : RT C M 0 0) {p : Nat} (hp : (p : Int) < M 0 0 1) (hp8 : p < 8) (w : Int) : platFactC C (p : Int) w = platToldM M (p : Int) w := by
  have h5 : (C 1 0 5).toNat = (M 0 0 5).toNat := by rw [hS.1.2.1]
  have h6 : (C 1 0 6).toNat = (M 0 0 10).toNat := by rw [hS.1.2.2]
  obtain ⟨d1, d2, d3⟩ := hS.2.1 p
  have q3 := qLen_eq hT hp8
  have q4 : qAt C 0 (p : Int) 0 = if M 18 0 p = 0 then -1 else M 19 0 (12 * (p : Int)).toNat := by
    by_cases q : M 18 0 p = 0
    · rw [if_pos q]; exact qAt_none hT hp8 q
    · rw [if_neg q]
      have h18 : 0 ≤ M 18 0 p := by
        rw [← q3]
        exact (zcnt_le _ _).1
      have := qAt_eq (ix := 0) hT hp8 (by omega)
      rw [show (12 * (p : Int)).toNat = 12 * p + 0 by omega]
      exact this
  have c5 : zcnt (fun j => C 7 j 0 = (p : Int)) (C 1 0 5).toNat = zcnt (fun j => M 4 0 j = (p : Int)) (M 0 0 5).toNat := by
    rw [h5]
    exact zcnt_congr (fun k hk => by rw [(hS.2.2.1 k).1])
  have c6 : zcnt (fun j => C 7 j 1 = (p : Int)) (C 1 0 5).toNat = zcnt (fun j => M 5 0 j = (p : Int)) (M 0 0 5).toNat := by
    rw [h5]
    exact zcnt_congr (fun k hk => by rw [(hS.2.2.1 k).2.1])
  have c7 : arrAt C 0 (p : Int) = zcnt (fun j => M 20 0 j = 2 ∧ M 10 0 j = (p : Int)) (M 0 0 10).toNat := by
    unfold arrAt
    rw [h6]
    obtain ⟨W, SL, hG, hR⟩ := hT
    refine zcnt_congr (fun k hk => ?_)
    obtain ⟨b1, b2, b3, b4, b5, b6, b7⟩ := hG.2.2.1 k (by omega)
    rw [b1]
    refine ⟨fun z => ⟨z.1, ?_⟩, fun z => ⟨z.1, ?_⟩⟩
    · have h9 := b6 z.1
      rw [← h9.2.1, ← h9.1]; exact z.2
    · have h9 := b6 z.1
      rw [h9.1, h9.2.1]; exact z.2
  unfold platFactC platToldM
  rw [Int.toNat_natCast, d1, d2, d3, q3, q4, c5, c6, c7]
