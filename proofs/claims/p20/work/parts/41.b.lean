set_option maxHeartbeats 1000000 in
/-- a slot moves in both -/
theorem roll_step {C : zM} {A : zM × Nat} {t u l j n : Nat} {W : List Nat} {SL : Nat → List (Int × Int)} {P R2 : List (Int × Int)} {a : Int × Int} (h : RI C A t u l j n W SL P (a :: R2)) (hS : RS C A.1) (hl : (l : Int) < A.1 0 0 5) (h10 : A.1 0 0 10 ≤ 12) (h01 : A.1 0 0 1 ≤ 8) (h50 : 0 ≤ A.1 5 0 l) :
    (∃ W' B, RI (moveS t l (12 * t + l) j C) (rollS u (l : Int) (3 * l + j) A) t u l (j + 1) n W' (setL SL l (P ++ B ++ R2)) (P ++ B) R2) ∧ (A.1 15 u (3 * l + j) - 1 = 0 → A.1 14 u (3 * l + j) ≠ -1 → A.1 18 u (A.1 5 0 l).toNat ≤ 11) := by
  obtain ⟨a1, x⟩ := a
  have h9 := h
  obtain ⟨⟨g1, g2, g3, g4, g5⟩, g6, g7, g8, g9, g10, g11, g12, g13⟩ := h9
  have hm : A.1 14 u (3 * l + j) = a1 ∧ A.1 15 u (3 * l + j) = x := g11 0 (a1, x) rfl
  have hc : C 18 (12 * t + l) j = a1 ∧ C 19 (12 * t + l) j = x := g12 0 (a1, x) rfl
  have hx : 1 ≤ x := (g6.2.2.2.2.1 l hl (a1, x) (by rw [g3]; simp)).1
  obtain ⟨k1, k2, k3, k4, k5⟩ := hS.2.2.2.1 l hl
  have h71 : C 7 l 1 = A.1 5 0 l := (hS.2.2.1 l).2.1
  by_cases e1 : a1 = -1
  · subst e1
    have eC : moveS t l (12 * t + l) j C = zup C 19 (12 * t + l) j (x - 1) := by
      unfold moveS
      rw [hc.1, if_pos rfl, hc.2]
    rw [eC]
    by_cases e2 : x - 1 = 0
    · have eA : rollS u (l : Int) (3 * l + j) A = (zup (zup A.1 15 u (3 * l + j) (x - 1)) 13 u l (A.1 13 u l - 1), A.2) := by
        unfold rollS
        rw [hm.2, if_pos e2, hm.1, if_pos rfl]
        simp only [Int.toNat_natCast]
      rw [eA]
      refine ⟨⟨W, [], h.next (B := []) ?_ (by simp) rfl (by simp [zup]) (fun l' e => by simp [zup, e]) (fun k e e' => by simp [zup]) (fun k e e' => by simp [zup, e']) ?_ ?_ (fun i k e => ?_) (fun b hb => absurd hb (by simp)) (fun _ => ?_) (by simp [zup])⟩, fun _ z => absurd hm.1 z⟩
      · rw [List.append_nil]
        refine (g6.empty g3 (Or.inl rfl)).eq (fun f hf => zup_fr (by omega)) (fun f hf => ?_)
        show zup (zup A.1 15 u (3 * l + j) (x - 1)) 13 u l (A.1 13 u l - 1) f = A.1 f
        rw [zup_fr (by omega), zup_fr (by omega)]
      · exact zup_fr (by decide)
      · intro i k e; simp [zup]
      · simp only [zup]
        rw [if_neg (by omega)]
      · simp [zup]; omega
    · have eA : rollS u (l : Int) (3 * l + j) A = (zup (zup (zup A.1 15 u (3 * l + j) (x - 1)) 14 u A.2 (-1)) 15 u A.2 (x - 1), A.2 + 1) := by
        unfold rollS
        rw [hm.2, if_neg e2, hm.1]
      rw [eA]
      refine ⟨⟨W, [(-1, x - 1)], h.next (B := [(-1, x - 1)]) ?_ (by simp) rfl (by simp [zup]) (fun l' e => by simp [zup]) (fun k e e' => by simp [zup, e]) (fun k e e' => by simp [zup, e, e']) ?_ ?_ (fun i k e => ?_) (fun b hb => ?_) (fun z => absurd z (by simp)) (by simp [zup])⟩, fun z => absurd (hm.2 ▸ z) e2⟩
      · refine (g6.empty g3 (L := P ++ [(-1, x - 1)] ++ R2) (Or.inr ⟨x - 1, by omega, by simp⟩)).eq (fun f hf => zup_fr (by omega)) (fun f hf => ?_)
        show zup (zup (zup A.1 15 u (3 * l + j) (x - 1)) 14 u A.2 (-1)) 15 u A.2 (x - 1) f = A.1 f
        rw [zup_fr (by omega), zup_fr (by omega), zup_fr (by omega)]
      · exact zup_fr (by decide)
      · intro i k e; simp [zup]
      · simp only [zup]
        rw [if_neg (by omega)]
      · simp at hb
        subst hb
        refine ⟨by simp [zup], by simp [zup], ?_, by simp [zup], by show 1 ≤ x - 1; omega⟩
        rw [zup_fr (by decide)]
        exact hc.1
  · obtain ⟨r1, r2, r3, r4⟩ := g6.slot hl g3 e1
    obtain ⟨r, rfl⟩ : ∃ r : Nat, a1 = (r : Int) := ⟨a1.toNat, by omega⟩
    simp only [Int.toNat_natCast] at r3 r4
    by_cases e2 : x - 1 = 0
    · obtain ⟨q, hq⟩ : ∃ q : Nat, A.1 5 0 l = (q : Int) := ⟨(A.1 5 0 l).toNat, by omega⟩
      have eC : moveS t l (12 * t + l) j C = reachC (pullC (zup (zup C 19 (12 * t + l) j (x - 1)) 16 (12 * t + r) 3 (x - 1)) (12 * t + l) j ((lenM A.1 l + 9) / 10)) t (r : Int) (q : Int) := by
        unfold moveS
        rw [hc.1, if_neg e1, hc.2, if_pos (by omega), k1, h71, hq]
        simp only [Int.toNat_natCast]
      have eA : rollS u (l : Int) (3 * l + j) A = (zup (zup (zup (zup (comeM (zup A.1 15 u (3 * l + j) (x - 1)) u (r : Int) (q : Int)) 14 u (3 * l + j) (-1)) 15 u (3 * l + j) ((lenM A.1 l + 9) / 10)) 14 u A.2 (-1)) 15 u A.2 ((lenM A.1 l + 9) / 10), A.2 + 1) := by
        unfold rollS
        rw [hm.2, if_pos e2, hm.1, if_neg e1]
        simp only [Int.toNat_natCast]
        rw [hq]
      have g6' : RG C (zup A.1 15 u (3 * l + j) (x - 1)) t u W SL := g6.eq (fun f hf => rfl) (fun f hf => zup_fr (by omega))
      have z10 : zup A.1 15 u (3 * l + j) (x - 1) 10 = A.1 10 := zup_fr (by decide)
      have z0 : zup A.1 15 u (3 * l + j) (x - 1) 0 = A.1 0 := zup_fr (by decide)
      have z18 : zup A.1 15 u (3 * l + j) (x - 1) 18 = A.1 18 := zup_fr (by decide)
      have hpl : 1 ≤ (lenM A.1 l + 9) / 10 := by omega
      obtain ⟨w1, W', w2⟩ := g6'.arrive (C1 := pullC (zup (zup C 19 (12 * t + l) j (x - 1)) 16 (12 * t + r) 3 (x - 1)) (12 * t + l) j ((lenM A.1 l + 9) / 10)) (l := l) (r := r) (q := q) (P := P) (Rt := R2) (x := x) (pl := (lenM A.1 l + 9) / 10)
        (fun z => by rw [pullC_fr (by decide), zup_fr (by decide), zup_fr (by decide), z10]; exact (hS.2.2.2.2.1 z).1)
        (by rw [pullC_fr (by decide), zup_fr (by decide), zup_fr (by decide)]) (by rw [pullC_fr (by decide), zup_fr (by decide), zup_fr (by decide)]) (by rw [pullC_fr (by decide), zup_fr (by decide), zup_fr (by decide)])
        (fun i k e => by rw [pullC_fr (by decide)]; simp only [zup]; rw [if_neg (by omega)]; simp)
        (by rw [z0]; exact h10) (by rw [z0]; exact hl) g3 (by omega) (by rw [z0]; omega) hpl
      rw [z18] at w1
      refine ⟨⟨W', [(-1, (lenM A.1 l + 9) / 10)], ?_⟩, fun _ _ => by rw [hq]; exact w1⟩
      rw [eC, eA]
      have c13 : comeM (zup A.1 15 u (3 * l + j) (x - 1)) u (r : Int) (q : Int) 13 = A.1 13 := by rw [comeM_fr (by decide), zup_fr (by decide)]
      have c14 : comeM (zup A.1 15 u (3 * l + j) (x - 1)) u (r : Int) (q : Int) 14 = A.1 14 := by rw [comeM_fr (by decide), zup_fr (by decide)]
      have c15 : comeM (zup A.1 15 u (3 * l + j) (x - 1)) u (r : Int) (q : Int) 15 = zup A.1 15 u (3 * l + j) (x - 1) 15 := by rw [comeM_fr (by decide)]
      have c0 : comeM (zup A.1 15 u (3 * l + j) (x - 1)) u (r : Int) (q : Int) 0 = A.1 0 := by rw [comeM_fr (by decide), zup_fr (by decide)]
      refine h.next (B := [(-1, (lenM A.1 l + 9) / 10)]) ?_ (by simp) rfl (by simp [zup, c13]) (fun l' e => by simp [zup, c13]) (fun k e e' => by simp [zup, e, e', c14]) (fun k e e' => by simp [zup, e, e', c15]) ?_ (fun i k e => ?_) (fun i k e => ?_) (fun b hb => ?_) (fun z => absurd z (by simp)) (by simp [zup, c0])
      · rw [show P ++ [(-1, (lenM A.1 l + 9) / 10)] ++ R2 = P ++ (-1, (lenM A.1 l + 9) / 10) :: R2 by simp]
        refine w2.eq (fun f hf => rfl) (fun f hf => ?_)
        show zup (zup (zup (zup _ 14 u (3 * l + j) (-1)) 15 u (3 * l + j) _) 14 u A.2 (-1)) 15 u A.2 _ f = _
        rw [zup_fr (by omega), zup_fr (by omega), zup_fr (by omega), zup_fr (by omega)]
      · rw [reachC_fr (by decide), pullC_fr (by decide), zup_fr (by decide), zup_fr (by decide)]
      · rw [reachC_fr (by decide)]
        simp only [pullC, zup]
        simp [e]
      · rw [reachC_fr (by decide)]
        simp only [pullC, zup]
        simp [e]
      · simp at hb
        subst hb
        refine ⟨by simp [zup], by simp [zup], ?_, ?_, hpl⟩
        · rw [reachC_fr (by decide)]; simp [pullC, zup]
        · rw [reachC_fr (by decide)]; simp [pullC, zup]
    · have eC : moveS t l (12 * t + l) j C = zup (zup C 19 (12 * t + l) j (x - 1)) 16 (12 * t + r) 3 (x - 1) := by
        unfold moveS
        rw [hc.1, if_neg e1, hc.2, if_neg (by omega)]
        simp only [Int.toNat_natCast]
      have eA : rollS u (l : Int) (3 * l + j) A = (zup (zup (zup A.1 15 u (3 * l + j) (x - 1)) 14 u A.2 (r : Int)) 15 u A.2 (x - 1), A.2 + 1) := by
        unfold rollS
        rw [hm.2, if_neg e2, hm.1]
      rw [eC, eA]
      refine ⟨⟨W, [((r : Int), x - 1)], h.next (B := [((r : Int), x - 1)]) ?_ (by simp) rfl (by simp [zup]) (fun l' e => by simp [zup]) (fun k e e' => by simp [zup, e]) (fun k e e' => by simp [zup, e, e']) ?_ ?_ (fun i k e => ?_) (fun b hb => ?_) (fun z => absurd z (by simp)) (by simp [zup])⟩, fun z => absurd (hm.2 ▸ z) e2⟩
      · rw [show P ++ [((r : Int), x - 1)] ++ R2 = P ++ ((r : Int), x - 1) :: R2 by simp]
        obtain ⟨q1, q2, q3, q4, q5⟩ := g6
        refine RG.eq (C := zup (zup C 19 (12 * t + l) j (x - 1)) 16 (12 * t + r) 3 (x - 1)) (M := A.1) ?_ (fun f hf => rfl) (fun f hf => ?_)
        · refine ⟨by simpa [zup] using q1, fun l' hl' => ?_, fun z hz => ?_, ?_, ?_⟩
          · have := q2 l' hl'
            unfold RC at this ⊢
            simpa [zup] using this
          · by_cases e : z = r
            · subst e
              have := q3 z hz
              unfold RR at this ⊢
              simp [zup, r3]
              simpa [r3] using this
            · refine (q3 z hz).eq (fun k => ?_) rfl rfl rfl rfl rfl rfl rfl
              have e9 : ¬ (12 * t + z = 12 * t + r ∧ k = 3) := by omega
              simp only [zup]
              rw [if_neg (by omega), if_neg (by omega)]
          · exact q4.eq (by simp [zup]) (by rw [zup_fr (by decide), zup_fr (by decide)]) rfl (fun z _ => Iff.rfl) (fun z _ => rfl) rfl rfl
          · exact q5.turn hl g3 (y := ((r : Int), x - 1)) (by show 1 ≤ x - 1; omega) rfl rfl (fun z _ => rfl) (fun z _ => rfl) (fun z e => by simp only [zup]; rw [if_neg (by omega), if_neg (by omega)]) (Or.inr ⟨rfl, r3, r4, by simp [zup]⟩)
        · show zup (zup (zup A.1 15 u (3 * l + j) (x - 1)) 14 u A.2 (r : Int)) 15 u A.2 (x - 1) f = A.1 f
          rw [zup_fr (by omega), zup_fr (by omega), zup_fr (by omega)]
      · rw [zup_fr (by decide), zup_fr (by decide)]
      · intro i k e; simp [zup]
      · simp only [zup]
        rw [if_neg (by omega), if_neg (by omega)]
      · simp at hb
        subst hb
        refine ⟨by simp [zup], by simp [zup], ?_, by simp [zup], by show 1 ≤ x - 1; omega⟩
        rw [zup_fr (by decide), zup_fr (by decide)]
        exact hc.1
