/-! counts: queues and those who wait, trolleys and those who ride -/
theorem zcnt_range (P : Nat → Prop) [DecidablePred P] (n : Nat) : zcnt P n = (((List.range n).filter (fun r => decide (P r))).length : Int) := by
  induction n with
  | zero => rfl
  | succ n ih =>
    rw [zcnt, ih, List.range_succ, List.filter_append, List.length_append]
    by_cases q : P n
    · simp [q]
    · simp [q]
theorem zcnt_row {P : Nat → Prop} [DecidablePred P] {n : Nat} {W : List Nat} (hW : W.Nodup) (h : ∀ r, r ∈ W ↔ r < n ∧ P r) : zcnt P n = (W.length : Int) := by
  have hp : W.Perm ((List.range n).filter (fun r => decide (P r))) := (List.perm_ext_iff_of_nodup hW (List.nodup_range.sublist List.filter_sublist)).mpr (fun r => by
    rw [h r, List.mem_filter, List.mem_range]
    simp)
  rw [zcnt_range, hp.length_eq]
theorem zcnt_true (n : Nat) : zcnt (fun _ => True) n = (n : Int) := by
  induction n with
  | zero => rfl
  | succ n ih => rw [zcnt, ih, if_pos trivial]; omega
theorem zsum_zero {f : Nat → Int} {n : Nat} (h : ∀ k, k < n → f k = 0) : zsum f n = 0 := by
  induction n with
  | zero => rfl
  | succ n ih => rw [zsum, ih (fun k hk => h k (by omega)), h n (by omega)]; rfl
theorem zsum_add (f g : Nat → Int) (n : Nat) : zsum (fun k => f k + g k) n = zsum f n + zsum g n := by
  induction n with
  | zero => rfl
  | succ n ih => simp only [zsum]; rw [ih]; omega
theorem zsum_one (v : Int) (P : Nat) : zsum (fun p => if v = (p : Int) then (1 : Int) else 0) P = if 0 ≤ v ∧ v < (P : Int) then 1 else 0 := by
  induction P with
  | zero => simp only [zsum]; rw [if_neg (by omega)]
  | succ P ih =>
    simp only [zsum]
    rw [ih]
    by_cases e : v = (P : Int)
    · rw [if_pos e, if_neg (by omega), if_pos (by omega)]; rfl
    · rw [if_neg e]
      by_cases q : 0 ≤ v ∧ v < (P : Int)
      · rw [if_pos q, if_pos (by omega)]; rfl
      · rw [if_neg q, if_neg (by omega)]; rfl
theorem zcnt_cells {Q : Nat → Prop} [DecidablePred Q] {R : Nat → Nat → Prop} [∀ p, DecidablePred (R p)] {f : Nat → Int} (n P : Nat) (h : ∀ j, j < n → ∀ p, p < P → (R p j ↔ Q j ∧ f j = (p : Int))) (h2 : ∀ j, j < n → Q j → 0 ≤ f j ∧ f j < (P : Int)) : zsum (fun p => zcnt (R p) n) P = zcnt Q n := by
  induction n with
  | zero => exact zsum_zero (fun _ _ => rfl)
  | succ n ih =>
    simp only [zcnt]
    rw [zsum_add (fun p => zcnt (R p) n) (fun p => if R p n then (1 : Int) else 0), ih (fun j hj p hp => h j (by omega) p hp) (fun j hj => h2 j (by omega))]
    congr 1
    by_cases q : Q n
    · rw [if_pos q, zsum_congr (f := fun p => if R p n then (1 : Int) else 0) (g := fun p => if f n = (p : Int) then (1 : Int) else 0) (fun k hk => by
        show (if R k n then (1 : Int) else 0) = (if f n = (k : Int) then (1 : Int) else 0)
        by_cases z : f n = (k : Int)
        · rw [if_pos z, if_pos ((h n (by omega) k hk).mpr ⟨q, z⟩)]
        · rw [if_neg z, if_neg (fun y => z ((h n (by omega) k hk).mp y).2)]), zsum_one, if_pos (h2 n (by omega) q)]
    · rw [if_neg q]
      exact zsum_zero (fun k hk => if_neg (fun z => q ((h n (by omega) k hk).mp z).1))
theorem snoc_gen {α : Type} : ∀ (n : Nat) (V : List α), V.length = n + 1 → ∃ V' r, V = V' ++ [r] ∧ V'.length = n := by
  intro n
  induction n with
  | zero =>
    intro V h
    match V, h with
    | [a], _ => exact ⟨[], a, rfl, rfl⟩
  | succ n ih =>
    intro V h
    match V, h with
    | a :: V, h =>
      obtain ⟨V', r, h1, h2⟩ := ih V (by simpa using h)
      exact ⟨a :: V', r, by rw [h1]; rfl, by rw [List.length_cons, h2]⟩
theorem zcnt_gen {α : Type} {Q : Nat → Prop} {P : α → Prop} [DecidablePred Q] [DecidablePred P] (n : Nat) : ∀ L : List α, L.length = n → (∀ (k : Nat) (r : α), L[k]? = some r → (Q k ↔ P r)) → zcnt Q n = ((L.filter (fun r => decide (P r))).length : Int) := by
  induction n with
  | zero =>
    intro L hL _
    have : L = [] := List.length_eq_zero_iff.mp hL
    subst this
    rfl
  | succ n ih =>
    intro L hL h
    obtain ⟨L', r, rfl, hL'⟩ := snoc_gen n L hL
    have h1 := ih L' hL' (fun k x hk => h k x (by rw [List.getElem?_append_left (List.getElem?_eq_some_iff.mp hk).1]; exact hk))
    have h2 := h n r (by simp [← hL'])
    rw [zcnt, h1, List.filter_append, List.length_append]
    by_cases q : P r
    · rw [if_pos (h2.mpr q)]; simp [q]
    · rw [if_neg (fun z => q (h2.mp z))]; simp [q]
theorem ridden_cnt {C M : zM} {W : List Nat} {SL : Nat → List (Int × Int)} (hG : RG C M 0 0 W SL) {l : Nat} (hR : repC C 0 l (SL l)) (hl : (l : Int) < M 0 0 5) : zcnt (fun j => C 18 (12 * 0 + l) j ≠ -1) (C 17 (12 * 0 + l) 1).toNat = zcnt (fun r => M 20 0 r = 1 ∧ M 21 0 r = (l : Int)) (M 0 0 10).toNat := by
  obtain ⟨c1, c2⟩ := hR
  obtain ⟨h5, h6, h7⟩ := hG.2.2.2.2
  rw [c1, Int.toNat_natCast, zcnt_gen (P := fun a : Int × Int => a.1 ≠ -1) (SL l).length (SL l) rfl (fun k a hk => by rw [(c2 k a hk).1])]
  have hn : (((SL l).filter (fun a => decide (a.1 ≠ -1))).map (fun a => a.1.toNat)).Nodup := by
    refine List.nodup_iff_pairwise_ne.mpr (List.pairwise_map.mpr (List.Pairwise.imp_of_mem (fun {a b} ha hb hab => ?_) ((h6 l hl).filter _)))
    show a.1.toNat ≠ b.1.toNat
    have ha1 : a.1 ≠ -1 := of_decide_eq_true (List.mem_filter.mp ha).2
    have hb1 : b.1 ≠ -1 := of_decide_eq_true (List.mem_filter.mp hb).2
    have ha2 := ((h5 l hl a (List.mem_filter.mp ha).1).2 ha1).1
    have hb2 := ((h5 l hl b (List.mem_filter.mp hb).1).2 hb1).1
    intro e
    exact hab ha1 (by omega)
  have hm : ∀ r, r ∈ ((SL l).filter (fun a => decide (a.1 ≠ -1))).map (fun a => a.1.toNat) ↔ r < (M 0 0 10).toNat ∧ (M 20 0 r = 1 ∧ M 21 0 r = (l : Int)) := by
    intro r
    rw [List.mem_map]
    constructor
    · rintro ⟨a, ha, rfl⟩
      have ha1 : a.1 ≠ -1 := of_decide_eq_true (List.mem_filter.mp ha).2
      obtain ⟨k1, k2, k3, k4, k5⟩ := (h5 l hl a (List.mem_filter.mp ha).1).2 ha1
      exact ⟨by omega, k3, k4⟩
    · rintro ⟨q1, q2, q3⟩
      obtain ⟨g1, g2, a, g3, g4⟩ := h7 r (by omega) q2
      rw [q3, Int.toNat_natCast] at g3
      exact ⟨a, List.mem_filter.mpr ⟨g3, decide_eq_true (show a.1 ≠ -1 by omega)⟩, by show a.1.toNat = r; omega⟩
  rw [zcnt_row hn hm, List.length_map]
theorem zcnt_four {f : Nat → Int} {n : Nat} (h : ∀ k, k < n → 0 ≤ f k ∧ f k ≤ 3) : zcnt (fun k => f k = 0) n + zcnt (fun k => f k = 1) n + zcnt (fun k => f k = 2) n + zcnt (fun k => f k = 3) n = (n : Int) := by
  induction n with
  | zero => rfl
  | succ n ih =>
    have h9 := h n (by omega)
    have i := ih (fun k hk => h k (by omega))
    simp only [zcnt]
    (repeat' split) <;> omega
theorem zsum_ge {f : Nat → Int} {n : Nat} (h : ∀ k, k < n → 0 ≤ f k) : 0 ≤ zsum f n ∧ ∀ j, j < n → f j ≤ zsum f n := by
  induction n with
  | zero => exact ⟨Int.le_refl _, fun j hj => absurd hj (Nat.not_lt_zero j)⟩
  | succ n ih =>
    obtain ⟨i1, i2⟩ := ih (fun k hk => h k (by omega))
    have h9 := h n (by omega)
    simp only [zsum]
    refine ⟨by omega, fun j hj => ?_⟩
    by_cases e : j = n
    · subst e; omega
    · have := i2 j (by omega); omega
theorem zsum_le {f : Nat → Int} {n : Nat} {B : Int} (h : ∀ k, k < n → f k ≤ B) : zsum f n ≤ n * B := by
  induction n with
  | zero => simp [zsum]
  | succ n ih =>
    have i1 := ih (fun k hk => h k (by omega))
    have h9 := h n (by omega)
    have e : ((n + 1 : Nat) : Int) * B = n * B + B := by rw [Int.natCast_succ, Int.add_mul, Int.one_mul]
    rw [e]
    simp only [zsum]
    omega
set_option maxHeartbeats 1000000 in
theorem gs_sums {n : Nat} {C : zM} (hG : GS n C) (hn : n < 512) : zsum (fun p => qLen C 0 (p : Int)) (C 1 0 4).toNat = ridersC C 0 0 ∧ zsum (fun p => arrAt C 0 (p : Int)) (C 1 0 4).toNat = ridersC C 0 2 ∧ zsum (fun l => zcnt (fun j => C 18 (12 * 0 + l) j ≠ -1) (C 17 (12 * 0 + l) 1).toNat) (C 1 0 5).toNat = ridersC C 0 1 ∧ ridersC C 0 0 + ridersC C 0 1 + ridersC C 0 2 + ridersC C 0 3 = C 1 0 6 := by
  have hwt := hG.wt (Nat.le_of_lt hn)
  have h4 : 0 ≤ C 1 0 4 ∧ C 1 0 4 ≤ 8 := hwt.1 1 0 4
  have h6 : 0 ≤ C 1 0 6 ∧ C 1 0 6 ≤ 12 := hwt.1 1 0 6
  obtain ⟨M, hR, hI⟩ := hG
  obtain ⟨hwC, hwM⟩ := hR.1.1 (by omega)
  have hS := hR.1.2.1
  obtain ⟨W, SL, hG9, hRep⟩ := hR.1.2.2.1
  obtain ⟨q1, q2, q3, q4, q5⟩ := hG9
  obtain ⟨w1, w2, w3, w4, w5⟩ := q4
  have c4 := hS.1.1
  have c5 := hS.1.2.1
  have c6 := hS.1.2.2
  have e4 : (C 12 0 4).toNat = W.length := by rw [w1]; exact Int.toNat_natCast _
  refine ⟨?_, ?_, ?_, ?_⟩
  · have h1 := zcnt_cells (Q := fun _ => True) (R := fun p j => C 16 (12 * 0 + (C 15 0 j).toNat) 1 = (p : Int)) (f := fun j => C 16 (12 * 0 + (C 15 0 j).toNat) 1) (C 12 0 4).toNat (C 1 0 4).toNat (fun j _ p _ => ⟨fun z => ⟨trivial, z⟩, fun z => z.2⟩) (fun j hj _ => by
      have hj2 : j < W.length := by omega
      have hk : W[j]? = some W[j] := List.getElem?_eq_getElem hj2
      have hm := (w4 W[j]).mp (List.getElem_mem hj2)
      have hr := (q3 W[j] hm.1).2.2.2.1 hm.2
      show 0 ≤ C 16 (12 * 0 + (C 15 0 j).toNat) 1 ∧ C 16 (12 * 0 + (C 15 0 j).toNat) 1 < _
      rw [w2 j _ hk, Int.toNat_natCast, hr.1]
      omega)
    refine h1.trans ?_
    rw [zcnt_true, e4]
    unfold ridersC
    rw [zcnt_row (P := fun j => C 16 (12 * 0 + j) 0 = 0) w3 (fun r => by
      rw [w4 r]
      constructor
      · rintro ⟨z1, z2⟩
        exact ⟨by omega, by rw [(q3 r z1).1]; exact z2⟩
      · rintro ⟨z1, z2⟩
        have z3 : (r : Int) < M 0 0 10 := by omega
        exact ⟨z3, by rw [← (q3 r z3).1]; exact z2⟩)]
  · refine zcnt_cells (Q := fun j => C 16 (12 * 0 + j) 0 = 2) (R := fun p j => C 16 (12 * 0 + j) 0 = 2 ∧ C 16 (12 * 0 + j) 1 = (p : Int)) (f := fun j => C 16 (12 * 0 + j) 1) (C 1 0 6).toNat (C 1 0 4).toNat (fun j _ p _ => Iff.rfl) (fun j hj z => ?_)
    have z3 : (j : Int) < M 0 0 10 := by omega
    have z2 : M 20 0 j = 2 := by rw [← (q3 j z3).1]; exact z
    have hr := (q3 j z3).2.2.2.2.2.1 z2
    have hb := (hS.2.2.2.2.2.1 j z3).2
    have hb0 : 0 ≤ M 10 0 j := (hwM.1 10 0 j).1
    show 0 ≤ C 16 (12 * 0 + j) 1 ∧ C 16 (12 * 0 + j) 1 < _
    rw [hr.1, hr.2.1]
    omega
  · rw [zsum_congr (g := fun l => zcnt (fun r => M 20 0 r = 1 ∧ M 21 0 r = (l : Int)) (M 0 0 10).toNat) (fun l hl => ridden_cnt (W := W) ⟨q1, q2, q3, ⟨w1, w2, w3, w4, w5⟩, q5⟩ (hRep l (by omega)).1 (by omega))]
    rw [zcnt_cells (Q := fun j => M 20 0 j = 1) (R := fun p j => M 20 0 j = 1 ∧ M 21 0 j = (p : Int)) (f := fun j => M 21 0 j) (M 0 0 10).toNat (C 1 0 5).toNat (fun j _ p _ => Iff.rfl) (fun j hj z => by
      obtain ⟨g1, g2, -⟩ := q5.2.2 j (by omega) z
      show 0 ≤ M 21 0 j ∧ M 21 0 j < _
      omega)]
    unfold ridersC
    rw [c6]
    exact zcnt_congr (fun k hk => by rw [(q3 k (by omega)).1])
  · unfold ridersC
    rw [zcnt_four (f := fun j => C 16 (12 * 0 + j) 0) (fun k hk => hwt.1 16 (12 * 0 + k) 0)]
    omega
theorem gs_rider {n : Nat} {C : zM} (hG : GS n C) (hn : n < 512) {r : Nat} (hr : (r : Int) < C 1 0 6) : (0 ≤ C 16 (12 * 0 + r) 0 ∧ C 16 (12 * 0 + r) 0 ≤ 3) ∧ (C 16 (12 * 0 + r) 0 = 2 → C 16 (12 * 0 + r) 1 = C 8 r 1 ∧ 0 ≤ C 16 (12 * 0 + r) 5) ∧ (C 16 (12 * 0 + r) 0 ≠ 2 → C 16 (12 * 0 + r) 5 = -1) ∧ (C 16 (12 * 0 + r) 0 = 0 → C 16 (12 * 0 + r) 3 < C 8 r 3) ∧ (C 16 (12 * 0 + r) 0 = 1 → 1 ≤ C 16 (12 * 0 + r) 3) ∧ (0 ≤ C 16 (12 * 0 + r) 4 ∧ C 16 (12 * 0 + r) 4 ≤ 10000000) ∧ (-1 ≤ C 16 (12 * 0 + r) 5 ∧ C 16 (12 * 0 + r) 5 ≤ 1000000) := by
  have hwt := hG.wt (Nat.le_of_lt hn)
  have h5 : 0 ≤ C 1 0 5 ∧ C 1 0 5 ≤ 12 := hwt.1 1 0 5
  have h6 : 0 ≤ C 1 0 6 ∧ C 1 0 6 ≤ 12 := hwt.1 1 0 6
  have hmin : 0 ≤ C 12 0 5 ∧ C 12 0 5 ≤ 400 * n := hwt.1 12 0 5
  have hst : 0 ≤ C 16 (12 * 0 + r) 0 ∧ C 16 (12 * 0 + r) 0 ≤ 3 := hwt.1 16 (12 * 0 + r) 0
  obtain ⟨M, hR, hI⟩ := hG
  have hS := hR.1.2.1
  obtain ⟨W, SL, hG9, hRep⟩ := hR.1.2.2.1
  obtain ⟨q1, q2, q3, q4, q5⟩ := hG9
  have c6 := hS.1.2.2
  have z3 : (r : Int) < M 0 0 10 := by omega
  have hrr := q3 r z3
  obtain ⟨n1, n2, n3⟩ := hI
  obtain ⟨i1, i2, i3, i4⟩ := n1 r hr
  have hge := zsum_ge (f := fun r => C 16 (12 * 0 + r) 4) (n := (C 1 0 6).toNat) (fun k hk => (n1 k (by omega)).2.2.2)
  have hle := zsum_le (f := fun l => C 17 (12 * 0 + l) 4) (n := (C 1 0 5).toNat) (B := C 12 0 5) (fun k hk => (n2 k (by omega)).2.2)
  have hmul : ((C 1 0 5).toNat : Int) * C 12 0 5 ≤ 12 * C 12 0 5 := Int.mul_le_mul_of_nonneg_right (by omega) hmin.1
  have h49 := hge.2 r (by omega)
  refine ⟨hst, fun z => ⟨?_, (i1 z).1⟩, i2, i3, fun z => ?_, ⟨i4, ?_⟩, ?_⟩
  · have z2 : M 20 0 r = 2 := by rw [← hrr.1]; exact z
    have h9 := hrr.2.2.2.2.2.1 z2
    rw [h9.1, h9.2.1, (hS.2.2.2.2.1 r).1]
  · have z2 : M 20 0 r = 1 := by rw [← hrr.1]; exact z
    obtain ⟨g1, g2, a, g3, g4⟩ := q5.2.2 r z3 z2
    obtain ⟨k1, k2⟩ := q5.1 (M 21 0 r).toNat (by omega) a g3
    obtain ⟨m1, m2, m3, m4, m5⟩ := k2 (by omega)
    rw [show a.1.toNat = r by omega] at m5
    rw [m5]
    exact k1
  · have h48 : C 16 (12 * 0 + r) 4 ≤ zsum (fun r => C 16 (12 * 0 + r) 4) (C 1 0 6).toNat := h49
    rw [n3] at h48
    omega
  · by_cases e : C 16 (12 * 0 + r) 0 = 2
    · have := i1 e
      omega
    · have := i2 e
      omega
theorem gs_line {n : Nat} {C : zM} (hG : GS n C) (hn : n < 512) {l : Nat} (hl : (l : Int) < C 1 0 5) : 0 ≤ C 17 (12 * 0 + l) 0 ∧ 0 ≤ C 17 (12 * 0 + l) 1 ∧ C 17 (12 * 0 + l) 0 + C 17 (12 * 0 + l) 1 ≤ 3 ∧ (0 ≤ zcnt (fun j => C 18 (12 * 0 + l) j ≠ -1) (C 17 (12 * 0 + l) 1).toNat ∧ zcnt (fun j => C 18 (12 * 0 + l) j ≠ -1) (C 17 (12 * 0 + l) 1).toNat ≤ C 17 (12 * 0 + l) 1) ∧ 0 ≤ C 17 (12 * 0 + l) 5 ∧ C 17 (12 * 0 + l) 5 ≤ C 17 (12 * 0 + l) 4 ∧ C 17 (12 * 0 + l) 4 ≤ 1000000 := by
  have hwt := hG.wt (Nat.le_of_lt hn)
  have h0 : 0 ≤ C 17 (12 * 0 + l) 0 ∧ C 17 (12 * 0 + l) 0 ≤ 3 := hwt.1 17 (12 * 0 + l) 0
  have h1 : 0 ≤ C 17 (12 * 0 + l) 1 ∧ C 17 (12 * 0 + l) 1 ≤ 3 := hwt.1 17 (12 * 0 + l) 1
  have h2 := hwt.2.1 (12 * 0 + l)
  have hmin : 0 ≤ C 12 0 5 ∧ C 12 0 5 ≤ 400 * n := hwt.1 12 0 5
  have h3 := zcnt_le (fun j => C 18 (12 * 0 + l) j ≠ -1) (C 17 (12 * 0 + l) 1).toNat
  obtain ⟨M, hR, hI⟩ := hG
  obtain ⟨k1, k2, k3⟩ := hI.2.1 l hl
  exact ⟨h0.1, h1.1, h2, ⟨h3.1, by omega⟩, k1, k2, by omega⟩
theorem gs_queue {n : Nat} {C : zM} (hG : GS n C) (hn : n < 512) {p : Nat} (hp : (p : Int) < C 1 0 4) : (0 ≤ qLen C 0 (p : Int) ∧ qLen C 0 (p : Int) ≤ 12) ∧ (∀ k : Nat, (k : Int) < qLen C 0 (p : Int) → ∃ r : Nat, qAt C 0 (p : Int) (k : Int) = (r : Int) ∧ (r : Int) < C 1 0 6 ∧ C 16 (12 * 0 + r) 0 = 0 ∧ C 16 (12 * 0 + r) 1 = (p : Int)) ∧ (∀ k j : Nat, (k : Int) < qLen C 0 (p : Int) → (j : Int) < qLen C 0 (p : Int) → k ≠ j → qAt C 0 (p : Int) (k : Int) ≠ qAt C 0 (p : Int) (j : Int)) := by
  have hwt := hG.wt (Nat.le_of_lt hn)
  have h4 : 0 ≤ C 1 0 4 ∧ C 1 0 4 ≤ 8 := hwt.1 1 0 4
  have hwc : 0 ≤ C 12 0 4 ∧ C 12 0 4 ≤ 12 := hwt.1 12 0 4
  have hq9 := zcnt_le (fun j => C 16 (12 * 0 + (C 15 0 j).toNat) 1 = (p : Int)) (C 12 0 4).toNat
  obtain ⟨M, hR, hI⟩ := hG
  have hS := hR.1.2.1
  have hT := hR.1.2.2.1
  have hp8 : p < 8 := by omega
  have e1 := qLen_eq hT hp8
  have e2 : ∀ k : Nat, (k : Int) < qLen C 0 (p : Int) → qAt C 0 (p : Int) (k : Int) = M 19 0 (12 * p + k) := fun k hk => qAt_eq hT hp8 (by rw [← e1]; exact hk)
  obtain ⟨W, SL, hG9, hRep⟩ := hT
  obtain ⟨q1, q2, q3, q4, q5⟩ := hG9
  have hWp := q4.2.2.2.2 p hp8
  have hnd : (Wp M 0 W p).Nodup := q4.2.2.1.sublist List.filter_sublist
  have hat : ∀ k : Nat, (k : Int) < qLen C 0 (p : Int) → ∃ r : Nat, (Wp M 0 W p)[k]? = some r ∧ qAt C 0 (p : Int) (k : Int) = (r : Int) := fun k hk => by
    have hk2 : k < (Wp M 0 W p).length := by rw [e1, hWp.1] at hk; omega
    exact ⟨(Wp M 0 W p)[k], List.getElem?_eq_getElem hk2, by rw [e2 k hk]; exact hWp.2 k _ (List.getElem?_eq_getElem hk2)⟩
  refine ⟨by unfold qLen; omega, fun k hk => ?_, fun k j hk hj hkj e => ?_⟩
  · obtain ⟨r, r1, r2⟩ := hat k hk
    have hm := List.mem_filter.mp (List.mem_of_getElem? r1)
    have hr21 : M 21 0 r = (p : Int) := of_decide_eq_true hm.2
    have hrW := (q4.2.2.2.1 r).mp hm.1
    have hrr := q3 r hrW.1
    exact ⟨r, r2, by rw [hS.1.2.2]; exact hrW.1, by rw [hrr.1]; exact hrW.2, by rw [(hrr.2.2.2.1 hrW.2).1]; exact hr21⟩
  · obtain ⟨r, r1, r2⟩ := hat k hk
    obtain ⟨x, x1, x2⟩ := hat j hj
    have hrx : r = x := by omega
    subst hrx
    exact hkj ((List.getElem?_inj (List.getElem?_eq_some_iff.mp r1).1 hnd).mp (r1.trans x1.symm))
