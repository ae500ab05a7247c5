/-! the law, piece by piece: every rider -/
set_option maxHeartbeats 4000000 in
set_option maxRecDepth 100000 in
theorem law_F {p : Program} {l : Launch} {e : Env} {s : State} {m : MethodId} {args : Array Value} {below : List Frame} {meth : Method} {c : Code} {Q : State → Prop} {D : va_G} {tc : Nat → ClassId} {b : Nat} {A : Nat → Prop} {H0 : Heap} {sb Ls : Nat} {xs : Nat → Int32} (hlt : l.stackTraces = false) (hK : zLK p s m args c D tc b A H0 cL_law 23 sb Ls xs) (hA : ∀ q, b ≤ q → A q) {cs ss : Nat} (hcs : cs ≤ 500000) (hss : ss ≤ 7000000) {P : Int} {t n : Nat} {C : zM} {w1 w2 : Nat} {f1 f2 : Nat → Int} {RC : Int} (hG : GS n C) (hn : n < 400) (h6 : C 1 0 6 = RC) (hm : ∀ k : Nat, (k : Int) < RC → (2 ≤ f1 k → C 16 (12 * 0 + k) 0 = f1 k) ∧ f2 k ≤ C 16 (12 * 0 + k) 4 ∧ 0 ≤ f1 k ∧ f1 k ≤ 3 ∧ 0 ≤ f2 k) (hgo : zQ p l e room_1 s m args below meth c Q D tc b A H0 23 (cs + 170) (ss + 1000) C [] [(0, .ref sb), (1, .ref (adC b 0 0)), (2, iv P), (3, iv ((t : Nat) : Int)), (5, iv RC), (13, iv (ridersC C 0 0)), (14, iv (ridersC C 0 1)), (15, iv (zsum (fun k => C 16 (12 * 0 + k) 4) (C 1 0 6).toNat))] 588 []) : zQ p l e room_1 s m args below meth c Q D tc b A H0 23 (cs) (ss) C [(w2, f2), (w1, f1)] [(0, .ref sb), (1, .ref (adC b 0 0)), (2, iv P), (3, iv ((t : Nat) : Int)), (5, iv RC), (8, .ref w1), (9, .ref w2)] 380 [] := by
  have hC := hK.1
  have hX := hK.2.1
  have hW := hG.wt (show n ≤ 512 by omega)
  have hb5 : 0 ≤ C 1 0 5 ∧ C 1 0 5 ≤ 12 := hW.1 1 0 5
  have hb6 : 0 ≤ C 1 0 6 ∧ C 1 0 6 ≤ 12 := hW.1 1 0 6
  have hc392 : ∀ (d392 : Nat) (j : Nat) (hj : (j : Int) ≤ RC), (RC - (j : Int)).toNat = d392 → zQ p l e room_1 s m args below meth c Q D tc b A H0 23 (cs + 5 + 12 * j) (ss + 50 + 72 * j) C [(w2, f2), (w1, f1)] [(0, .ref sb), (1, .ref (adC b 0 0)), (2, iv P), (3, iv ((t : Nat) : Int)), (5, iv RC), (8, .ref w1), (9, .ref w2), (13, iv (zcnt (fun k => C 16 (12 * 0 + k) 0 = 0) j)), (14, iv (zcnt (fun k => C 16 (12 * 0 + k) 0 = 1) j)), (15, iv (zsum (fun k => C 16 (12 * 0 + k) 4) j)), (16, iv ((j : Nat) : Int))] 392 [] := by
    intro d392
    induction d392 using Nat.strongRecOn with
    | _ d392 ih392 =>
      intro j hj hd392
      refine zq_iload hC 10 rfl dL_law_392 ?_
      refine zq_iload hC 4 rfl dL_law_394 ?_
      refine zq_icmp_ge hC 588 dL_law_396 (by decide) (by omega) (by omega) (fun c396 => ?_) (fun c396 => ?_)
      · skip
        refine zq_perm [0, 1, 2, 3, 4, 7, 8, 9] (L' := [(0, .ref sb), (1, .ref (adC b 0 0)), (2, iv P), (3, iv ((t : Nat) : Int)), (5, iv RC), (13, iv (zcnt (fun k => C 16 (12 * 0 + k) 0 = 0) j)), (14, iv (zcnt (fun k => C 16 (12 * 0 + k) 0 = 1) j)), (15, iv (zsum (fun k => C 16 (12 * 0 + k) 4) j))]) rfl ?_
        refine zq_drop ?_
        refine zq_widen (k := cs + 170) (n := ss + 1000) (by omega) (by omega) ?_
        have he : j = (C 1 0 6).toNat := by omega
        subst he
        exact zq_conv hgo rfl rfl rfl rfl
      · skip
        obtain ⟨s0, s2, sn2, s00, s1, s4, s5⟩ := gs_rider hG (by omega) (r := j) (by omega)
        obtain ⟨m1, m2, m3, m4, m5⟩ := hm j (by omega)
        have q1 : -1 ≤ C 16 (12 * 0 + j) 1 ∧ C 16 (12 * 0 + j) 1 ≤ 7 := hW.1 16 (12 * 0 + j) 1
        have q3 : -(1000 + 20000 * (n : Int)) ≤ C 16 (12 * 0 + j) 3 ∧ C 16 (12 * 0 + j) 3 ≤ 1000 + 20000 * (n : Int) := hW.1 16 (12 * 0 + j) 3
        have q8 : 0 ≤ C 8 j 1 ∧ C 8 j 1 ≤ 7 := hW.1 8 j 1
        have q83 : 0 ≤ C 8 j 3 ∧ C 8 j 3 ≤ 60 := hW.1 8 j 3
        have hj538 : zQ p l e room_1 s m args below meth c Q D tc b A H0 23 (cs + 5 + 12 * j + 11) (ss + 50 + 72 * j + 66) C [(w2, f2), (w1, f1)] [(0, .ref sb), (1, .ref (adC b 0 0)), (2, iv P), (3, iv ((t : Nat) : Int)), (5, iv RC), (8, .ref w1), (9, .ref w2), (13, iv (zcnt (fun k => C 16 (12 * 0 + k) 0 = 0) j)), (14, iv (zcnt (fun k => C 16 (12 * 0 + k) 0 = 1) j)), (15, iv (zsum (fun k => C 16 (12 * 0 + k) 4) j)), (16, iv ((j : Nat) : Int)), (17, iv (C 16 (12 * 0 + j) 0))] 538 [] := by
          refine zq_iload hC 7 rfl dL_law_538 ?_
          refine zq_iload hC 11 rfl dL_law_540 ?_
          refine zq_if_ne hC 549 dL_law_542 (by decide) (by omega) (fun c542 => ?_) (fun c542 => ?_)
          · skip
            refine zq_iconst hC dL_law_549 ?_
            refine zq_iadd hC dL_law_550 ?_
            refine zq_istore hC (L' := [(13, iv ((zcnt (fun k => C 16 (12 * 0 + k) 0 = 0) j) + 0)), (0, .ref sb), (1, .ref (adC b 0 0)), (2, iv P), (3, iv ((t : Nat) : Int)), (5, iv RC), (8, .ref w1), (9, .ref w2), (14, iv (zcnt (fun k => C 16 (12 * 0 + k) 0 = 1) j)), (15, iv (zsum (fun k => C 16 (12 * 0 + k) 4) j)), (16, iv ((j : Nat) : Int)), (17, iv (C 16 (12 * 0 + j) 0))]) dL_law_551 (by decide) rfl ?_
            refine zq_iload hC 8 rfl dL_law_553 ?_
            refine zq_iload hC 11 rfl dL_law_555 ?_
            refine zq_iconst hC dL_law_557 ?_
            refine zq_icmp_ne hC 565 dL_law_558 (by decide) (by omega) (by omega) (fun c558 => ?_) (fun c558 => ?_)
            · skip
              refine zq_iconst hC dL_law_565 ?_
              refine zq_iadd hC dL_law_566 ?_
              refine zq_istore hC (L' := [(14, iv ((zcnt (fun k => C 16 (12 * 0 + k) 0 = 1) j) + 0)), (13, iv ((zcnt (fun k => C 16 (12 * 0 + k) 0 = 0) j) + 0)), (0, .ref sb), (1, .ref (adC b 0 0)), (2, iv P), (3, iv ((t : Nat) : Int)), (5, iv RC), (8, .ref w1), (9, .ref w2), (15, iv (zsum (fun k => C 16 (12 * 0 + k) 4) j)), (16, iv ((j : Nat) : Int)), (17, iv (C 16 (12 * 0 + j) 0))]) dL_law_567 (by decide) rfl ?_
              refine zq_iload hC 9 rfl dL_law_569 ?_
              refine zq_aload_n hC 3 rfl dL_law_571 rfl ?_
              refine zq_iload hC 10 rfl dL_law_572 ?_
              refine zq_bipush hC dL_law_574 (by decide) ?_
              refine zq_call hC hX zlL_63 rfl (k_X8_rider l hlt D tc (adC b) (zI_adC b) C ((j : Nat) : Int) 9 hW ⟨by omega, by omega⟩ ⟨by decide, by decide⟩) (by unfold kRider; rw [if_pos ⟨by omega, by omega⟩, if_pos ⟨by decide, by decide⟩]) (r2 := (C 16 (12 * 0 + j) 4)) (by rfl) rfl rfl (Nat.le_of_ble_eq_true rfl) ⟨by decide, by decide⟩ ⟨by show _ ≤ 602799; omega, by show _ ≤ 7293227; omega⟩ dL_law_576 ?_
              refine zq_iadd hC dL_law_579 ?_
              refine zq_istore hC (L' := [(15, iv ((zsum (fun k => C 16 (12 * 0 + k) 4) j) + (C 16 (12 * 0 + j) 4))), (14, iv ((zcnt (fun k => C 16 (12 * 0 + k) 0 = 1) j) + 0)), (13, iv ((zcnt (fun k => C 16 (12 * 0 + k) 0 = 0) j) + 0)), (0, .ref sb), (1, .ref (adC b 0 0)), (2, iv P), (3, iv ((t : Nat) : Int)), (5, iv RC), (8, .ref w1), (9, .ref w2), (16, iv ((j : Nat) : Int)), (17, iv (C 16 (12 * 0 + j) 0))]) dL_law_580 (by decide) rfl ?_
              refine zq_iinc hC 10 (L' := [(16, iv (((j : Nat) : Int) + 1)), (15, iv ((zsum (fun k => C 16 (12 * 0 + k) 4) j) + (C 16 (12 * 0 + j) 4))), (14, iv ((zcnt (fun k => C 16 (12 * 0 + k) 0 = 1) j) + 0)), (13, iv ((zcnt (fun k => C 16 (12 * 0 + k) 0 = 0) j) + 0)), (0, .ref sb), (1, .ref (adC b 0 0)), (2, iv P), (3, iv ((t : Nat) : Int)), (5, iv RC), (8, .ref w1), (9, .ref w2), (17, iv (C 16 (12 * 0 + j) 0))]) dL_law_582 rfl (by decide) rfl ?_
              refine zq_goto hC 392 dL_law_585 (by decide) ?_
              refine zq_perm [4, 5, 6, 7, 8, 9, 10, 3, 2, 1, 0] (L' := [(0, .ref sb), (1, .ref (adC b 0 0)), (2, iv P), (3, iv ((t : Nat) : Int)), (5, iv RC), (8, .ref w1), (9, .ref w2), (13, iv ((zcnt (fun k => C 16 (12 * 0 + k) 0 = 0) j) + 0)), (14, iv ((zcnt (fun k => C 16 (12 * 0 + k) 0 = 1) j) + 0)), (15, iv ((zsum (fun k => C 16 (12 * 0 + k) 4) j) + (C 16 (12 * 0 + j) 4))), (16, iv (((j : Nat) : Int) + 1))]) rfl ?_
              have e13 : zcnt (fun k => C 16 (12 * 0 + k) 0 = 0) (j + 1) = (zcnt (fun k => C 16 (12 * 0 + k) 0 = 0) j) + 0 := by
                show zcnt (fun k => C 16 (12 * 0 + k) 0 = 0) j + (if C 16 (12 * 0 + j) 0 = 0 then (1 : Int) else 0) = _
                first | rw [if_pos (by omega)] | rw [if_neg (by omega)]
              have e14 : zcnt (fun k => C 16 (12 * 0 + k) 0 = 1) (j + 1) = (zcnt (fun k => C 16 (12 * 0 + k) 0 = 1) j) + 0 := by
                show zcnt (fun k => C 16 (12 * 0 + k) 0 = 1) j + (if C 16 (12 * 0 + j) 0 = 1 then (1 : Int) else 0) = _
                first | rw [if_pos (by omega)] | rw [if_neg (by omega)]
              refine zq_widen (k := cs + 5 + 12 * (j + 1)) (n := ss + 50 + 72 * (j + 1)) (by omega) (by omega) ?_
              exact zq_conv (ih392 _ (by omega) (j + 1) (by omega) rfl) (by rfl) (by rfl) (by rw [e13, e14]; rfl) rfl
            · skip
              refine zq_iconst hC dL_law_561 ?_
              refine zq_goto hC 566 dL_law_562 (by decide) ?_
              refine zq_iadd hC dL_law_566 ?_
              refine zq_istore hC (L' := [(14, iv ((zcnt (fun k => C 16 (12 * 0 + k) 0 = 1) j) + 1)), (13, iv ((zcnt (fun k => C 16 (12 * 0 + k) 0 = 0) j) + 0)), (0, .ref sb), (1, .ref (adC b 0 0)), (2, iv P), (3, iv ((t : Nat) : Int)), (5, iv RC), (8, .ref w1), (9, .ref w2), (15, iv (zsum (fun k => C 16 (12 * 0 + k) 4) j)), (16, iv ((j : Nat) : Int)), (17, iv (C 16 (12 * 0 + j) 0))]) dL_law_567 (by decide) rfl ?_
              refine zq_iload hC 9 rfl dL_law_569 ?_
              refine zq_aload_n hC 3 rfl dL_law_571 rfl ?_
              refine zq_iload hC 10 rfl dL_law_572 ?_
              refine zq_bipush hC dL_law_574 (by decide) ?_
              refine zq_call hC hX zlL_63 rfl (k_X8_rider l hlt D tc (adC b) (zI_adC b) C ((j : Nat) : Int) 9 hW ⟨by omega, by omega⟩ ⟨by decide, by decide⟩) (by unfold kRider; rw [if_pos ⟨by omega, by omega⟩, if_pos ⟨by decide, by decide⟩]) (r2 := (C 16 (12 * 0 + j) 4)) (by rfl) rfl rfl (Nat.le_of_ble_eq_true rfl) ⟨by decide, by decide⟩ ⟨by show _ ≤ 602799; omega, by show _ ≤ 7293227; omega⟩ dL_law_576 ?_
              refine zq_iadd hC dL_law_579 ?_
              refine zq_istore hC (L' := [(15, iv ((zsum (fun k => C 16 (12 * 0 + k) 4) j) + (C 16 (12 * 0 + j) 4))), (14, iv ((zcnt (fun k => C 16 (12 * 0 + k) 0 = 1) j) + 1)), (13, iv ((zcnt (fun k => C 16 (12 * 0 + k) 0 = 0) j) + 0)), (0, .ref sb), (1, .ref (adC b 0 0)), (2, iv P), (3, iv ((t : Nat) : Int)), (5, iv RC), (8, .ref w1), (9, .ref w2), (16, iv ((j : Nat) : Int)), (17, iv (C 16 (12 * 0 + j) 0))]) dL_law_580 (by decide) rfl ?_
              refine zq_iinc hC 10 (L' := [(16, iv (((j : Nat) : Int) + 1)), (15, iv ((zsum (fun k => C 16 (12 * 0 + k) 4) j) + (C 16 (12 * 0 + j) 4))), (14, iv ((zcnt (fun k => C 16 (12 * 0 + k) 0 = 1) j) + 1)), (13, iv ((zcnt (fun k => C 16 (12 * 0 + k) 0 = 0) j) + 0)), (0, .ref sb), (1, .ref (adC b 0 0)), (2, iv P), (3, iv ((t : Nat) : Int)), (5, iv RC), (8, .ref w1), (9, .ref w2), (17, iv (C 16 (12 * 0 + j) 0))]) dL_law_582 rfl (by decide) rfl ?_
              refine zq_goto hC 392 dL_law_585 (by decide) ?_
              refine zq_perm [4, 5, 6, 7, 8, 9, 10, 3, 2, 1, 0] (L' := [(0, .ref sb), (1, .ref (adC b 0 0)), (2, iv P), (3, iv ((t : Nat) : Int)), (5, iv RC), (8, .ref w1), (9, .ref w2), (13, iv ((zcnt (fun k => C 16 (12 * 0 + k) 0 = 0) j) + 0)), (14, iv ((zcnt (fun k => C 16 (12 * 0 + k) 0 = 1) j) + 1)), (15, iv ((zsum (fun k => C 16 (12 * 0 + k) 4) j) + (C 16 (12 * 0 + j) 4))), (16, iv (((j : Nat) : Int) + 1))]) rfl ?_
              have e13 : zcnt (fun k => C 16 (12 * 0 + k) 0 = 0) (j + 1) = (zcnt (fun k => C 16 (12 * 0 + k) 0 = 0) j) + 0 := by
                show zcnt (fun k => C 16 (12 * 0 + k) 0 = 0) j + (if C 16 (12 * 0 + j) 0 = 0 then (1 : Int) else 0) = _
                first | rw [if_pos (by omega)] | rw [if_neg (by omega)]
              have e14 : zcnt (fun k => C 16 (12 * 0 + k) 0 = 1) (j + 1) = (zcnt (fun k => C 16 (12 * 0 + k) 0 = 1) j) + 1 := by
                show zcnt (fun k => C 16 (12 * 0 + k) 0 = 1) j + (if C 16 (12 * 0 + j) 0 = 1 then (1 : Int) else 0) = _
                first | rw [if_pos (by omega)] | rw [if_neg (by omega)]
              refine zq_widen (k := cs + 5 + 12 * (j + 1)) (n := ss + 50 + 72 * (j + 1)) (by omega) (by omega) ?_
              exact zq_conv (ih392 _ (by omega) (j + 1) (by omega) rfl) (by rfl) (by rfl) (by rw [e13, e14]; rfl) rfl
          · skip
            refine zq_iconst hC dL_law_545 ?_
            refine zq_goto hC 550 dL_law_546 (by decide) ?_
            refine zq_iadd hC dL_law_550 ?_
            refine zq_istore hC (L' := [(13, iv ((zcnt (fun k => C 16 (12 * 0 + k) 0 = 0) j) + 1)), (0, .ref sb), (1, .ref (adC b 0 0)), (2, iv P), (3, iv ((t : Nat) : Int)), (5, iv RC), (8, .ref w1), (9, .ref w2), (14, iv (zcnt (fun k => C 16 (12 * 0 + k) 0 = 1) j)), (15, iv (zsum (fun k => C 16 (12 * 0 + k) 4) j)), (16, iv ((j : Nat) : Int)), (17, iv (C 16 (12 * 0 + j) 0))]) dL_law_551 (by decide) rfl ?_
            refine zq_iload hC 8 rfl dL_law_553 ?_
            refine zq_iload hC 11 rfl dL_law_555 ?_
            refine zq_iconst hC dL_law_557 ?_
            refine zq_icmp_ne hC 565 dL_law_558 (by decide) (by omega) (by omega) (fun c558 => ?_) (fun c558 => ?_)
            · skip
              refine zq_iconst hC dL_law_565 ?_
              refine zq_iadd hC dL_law_566 ?_
              refine zq_istore hC (L' := [(14, iv ((zcnt (fun k => C 16 (12 * 0 + k) 0 = 1) j) + 0)), (13, iv ((zcnt (fun k => C 16 (12 * 0 + k) 0 = 0) j) + 1)), (0, .ref sb), (1, .ref (adC b 0 0)), (2, iv P), (3, iv ((t : Nat) : Int)), (5, iv RC), (8, .ref w1), (9, .ref w2), (15, iv (zsum (fun k => C 16 (12 * 0 + k) 4) j)), (16, iv ((j : Nat) : Int)), (17, iv (C 16 (12 * 0 + j) 0))]) dL_law_567 (by decide) rfl ?_
              refine zq_iload hC 9 rfl dL_law_569 ?_
              refine zq_aload_n hC 3 rfl dL_law_571 rfl ?_
              refine zq_iload hC 10 rfl dL_law_572 ?_
              refine zq_bipush hC dL_law_574 (by decide) ?_
              refine zq_call hC hX zlL_63 rfl (k_X8_rider l hlt D tc (adC b) (zI_adC b) C ((j : Nat) : Int) 9 hW ⟨by omega, by omega⟩ ⟨by decide, by decide⟩) (by unfold kRider; rw [if_pos ⟨by omega, by omega⟩, if_pos ⟨by decide, by decide⟩]) (r2 := (C 16 (12 * 0 + j) 4)) (by rfl) rfl rfl (Nat.le_of_ble_eq_true rfl) ⟨by decide, by decide⟩ ⟨by show _ ≤ 602799; omega, by show _ ≤ 7293227; omega⟩ dL_law_576 ?_
              refine zq_iadd hC dL_law_579 ?_
              refine zq_istore hC (L' := [(15, iv ((zsum (fun k => C 16 (12 * 0 + k) 4) j) + (C 16 (12 * 0 + j) 4))), (14, iv ((zcnt (fun k => C 16 (12 * 0 + k) 0 = 1) j) + 0)), (13, iv ((zcnt (fun k => C 16 (12 * 0 + k) 0 = 0) j) + 1)), (0, .ref sb), (1, .ref (adC b 0 0)), (2, iv P), (3, iv ((t : Nat) : Int)), (5, iv RC), (8, .ref w1), (9, .ref w2), (16, iv ((j : Nat) : Int)), (17, iv (C 16 (12 * 0 + j) 0))]) dL_law_580 (by decide) rfl ?_
              refine zq_iinc hC 10 (L' := [(16, iv (((j : Nat) : Int) + 1)), (15, iv ((zsum (fun k => C 16 (12 * 0 + k) 4) j) + (C 16 (12 * 0 + j) 4))), (14, iv ((zcnt (fun k => C 16 (12 * 0 + k) 0 = 1) j) + 0)), (13, iv ((zcnt (fun k => C 16 (12 * 0 + k) 0 = 0) j) + 1)), (0, .ref sb), (1, .ref (adC b 0 0)), (2, iv P), (3, iv ((t : Nat) : Int)), (5, iv RC), (8, .ref w1), (9, .ref w2), (17, iv (C 16 (12 * 0 + j) 0))]) dL_law_582 rfl (by decide) rfl ?_
              refine zq_goto hC 392 dL_law_585 (by decide) ?_
              refine zq_perm [4, 5, 6, 7, 8, 9, 10, 3, 2, 1, 0] (L' := [(0, .ref sb), (1, .ref (adC b 0 0)), (2, iv P), (3, iv ((t : Nat) : Int)), (5, iv RC), (8, .ref w1), (9, .ref w2), (13, iv ((zcnt (fun k => C 16 (12 * 0 + k) 0 = 0) j) + 1)), (14, iv ((zcnt (fun k => C 16 (12 * 0 + k) 0 = 1) j) + 0)), (15, iv ((zsum (fun k => C 16 (12 * 0 + k) 4) j) + (C 16 (12 * 0 + j) 4))), (16, iv (((j : Nat) : Int) + 1))]) rfl ?_
              have e13 : zcnt (fun k => C 16 (12 * 0 + k) 0 = 0) (j + 1) = (zcnt (fun k => C 16 (12 * 0 + k) 0 = 0) j) + 1 := by
                show zcnt (fun k => C 16 (12 * 0 + k) 0 = 0) j + (if C 16 (12 * 0 + j) 0 = 0 then (1 : Int) else 0) = _
                first | rw [if_pos (by omega)] | rw [if_neg (by omega)]
              have e14 : zcnt (fun k => C 16 (12 * 0 + k) 0 = 1) (j + 1) = (zcnt (fun k => C 16 (12 * 0 + k) 0 = 1) j) + 0 := by
                show zcnt (fun k => C 16 (12 * 0 + k) 0 = 1) j + (if C 16 (12 * 0 + j) 0 = 1 then (1 : Int) else 0) = _
                first | rw [if_pos (by omega)] | rw [if_neg (by omega)]
              refine zq_widen (k := cs + 5 + 12 * (j + 1)) (n := ss + 50 + 72 * (j + 1)) (by omega) (by omega) ?_
              exact zq_conv (ih392 _ (by omega) (j + 1) (by omega) rfl) (by rfl) (by rfl) (by rw [e13, e14]; rfl) rfl
            · skip
              refine zq_iconst hC dL_law_561 ?_
              refine zq_goto hC 566 dL_law_562 (by decide) ?_
              refine zq_iadd hC dL_law_566 ?_
              refine zq_istore hC (L' := [(14, iv ((zcnt (fun k => C 16 (12 * 0 + k) 0 = 1) j) + 1)), (13, iv ((zcnt (fun k => C 16 (12 * 0 + k) 0 = 0) j) + 1)), (0, .ref sb), (1, .ref (adC b 0 0)), (2, iv P), (3, iv ((t : Nat) : Int)), (5, iv RC), (8, .ref w1), (9, .ref w2), (15, iv (zsum (fun k => C 16 (12 * 0 + k) 4) j)), (16, iv ((j : Nat) : Int)), (17, iv (C 16 (12 * 0 + j) 0))]) dL_law_567 (by decide) rfl ?_
              refine zq_iload hC 9 rfl dL_law_569 ?_
              refine zq_aload_n hC 3 rfl dL_law_571 rfl ?_
              refine zq_iload hC 10 rfl dL_law_572 ?_
              refine zq_bipush hC dL_law_574 (by decide) ?_
              refine zq_call hC hX zlL_63 rfl (k_X8_rider l hlt D tc (adC b) (zI_adC b) C ((j : Nat) : Int) 9 hW ⟨by omega, by omega⟩ ⟨by decide, by decide⟩) (by unfold kRider; rw [if_pos ⟨by omega, by omega⟩, if_pos ⟨by decide, by decide⟩]) (r2 := (C 16 (12 * 0 + j) 4)) (by rfl) rfl rfl (Nat.le_of_ble_eq_true rfl) ⟨by decide, by decide⟩ ⟨by show _ ≤ 602799; omega, by show _ ≤ 7293227; omega⟩ dL_law_576 ?_
              refine zq_iadd hC dL_law_579 ?_
              refine zq_istore hC (L' := [(15, iv ((zsum (fun k => C 16 (12 * 0 + k) 4) j) + (C 16 (12 * 0 + j) 4))), (14, iv ((zcnt (fun k => C 16 (12 * 0 + k) 0 = 1) j) + 1)), (13, iv ((zcnt (fun k => C 16 (12 * 0 + k) 0 = 0) j) + 1)), (0, .ref sb), (1, .ref (adC b 0 0)), (2, iv P), (3, iv ((t : Nat) : Int)), (5, iv RC), (8, .ref w1), (9, .ref w2), (16, iv ((j : Nat) : Int)), (17, iv (C 16 (12 * 0 + j) 0))]) dL_law_580 (by decide) rfl ?_
              refine zq_iinc hC 10 (L' := [(16, iv (((j : Nat) : Int) + 1)), (15, iv ((zsum (fun k => C 16 (12 * 0 + k) 4) j) + (C 16 (12 * 0 + j) 4))), (14, iv ((zcnt (fun k => C 16 (12 * 0 + k) 0 = 1) j) + 1)), (13, iv ((zcnt (fun k => C 16 (12 * 0 + k) 0 = 0) j) + 1)), (0, .ref sb), (1, .ref (adC b 0 0)), (2, iv P), (3, iv ((t : Nat) : Int)), (5, iv RC), (8, .ref w1), (9, .ref w2), (17, iv (C 16 (12 * 0 + j) 0))]) dL_law_582 rfl (by decide) rfl ?_
              refine zq_goto hC 392 dL_law_585 (by decide) ?_
              refine zq_perm [4, 5, 6, 7, 8, 9, 10, 3, 2, 1, 0] (L' := [(0, .ref sb), (1, .ref (adC b 0 0)), (2, iv P), (3, iv ((t : Nat) : Int)), (5, iv RC), (8, .ref w1), (9, .ref w2), (13, iv ((zcnt (fun k => C 16 (12 * 0 + k) 0 = 0) j) + 1)), (14, iv ((zcnt (fun k => C 16 (12 * 0 + k) 0 = 1) j) + 1)), (15, iv ((zsum (fun k => C 16 (12 * 0 + k) 4) j) + (C 16 (12 * 0 + j) 4))), (16, iv (((j : Nat) : Int) + 1))]) rfl ?_
              have e13 : zcnt (fun k => C 16 (12 * 0 + k) 0 = 0) (j + 1) = (zcnt (fun k => C 16 (12 * 0 + k) 0 = 0) j) + 1 := by
                show zcnt (fun k => C 16 (12 * 0 + k) 0 = 0) j + (if C 16 (12 * 0 + j) 0 = 0 then (1 : Int) else 0) = _
                first | rw [if_pos (by omega)] | rw [if_neg (by omega)]
              have e14 : zcnt (fun k => C 16 (12 * 0 + k) 0 = 1) (j + 1) = (zcnt (fun k => C 16 (12 * 0 + k) 0 = 1) j) + 1 := by
                show zcnt (fun k => C 16 (12 * 0 + k) 0 = 1) j + (if C 16 (12 * 0 + j) 0 = 1 then (1 : Int) else 0) = _
                first | rw [if_pos (by omega)] | rw [if_neg (by omega)]
              refine zq_widen (k := cs + 5 + 12 * (j + 1)) (n := ss + 50 + 72 * (j + 1)) (by omega) (by omega) ?_
              exact zq_conv (ih392 _ (by omega) (j + 1) (by omega) rfl) (by rfl) (by rfl) (by rw [e13, e14]; rfl) rfl
        have hj518 : zQ p l e room_1 s m args below meth c Q D tc b A H0 23 (cs + 5 + 12 * j + 9) (ss + 50 + 72 * j + 54) C [(w2, f2), (w1, f1)] [(0, .ref sb), (1, .ref (adC b 0 0)), (2, iv P), (3, iv ((t : Nat) : Int)), (5, iv RC), (8, .ref w1), (9, .ref w2), (13, iv (zcnt (fun k => C 16 (12 * 0 + k) 0 = 0) j)), (14, iv (zcnt (fun k => C 16 (12 * 0 + k) 0 = 1) j)), (15, iv (zsum (fun k => C 16 (12 * 0 + k) 4) j)), (16, iv ((j : Nat) : Int)), (17, iv (C 16 (12 * 0 + j) 0))] 518 [] := by
          refine zq_iload hC 11 rfl dL_law_518 ?_
          refine zq_iconst hC dL_law_520 ?_
          refine zq_icmp_ne hC 538 dL_law_521 (by decide) (by omega) (by omega) (fun c521 => ?_) (fun c521 => ?_)
          · skip
            refine zq_widen (k := cs + 5 + 12 * j + 11) (n := ss + 50 + 72 * j + 66) (by omega) (by omega) ?_
            exact hj538
          · skip
            have t5 := s1 c521
            refine zq_aload_n hC 1 rfl dL_law_524 rfl ?_
            refine zq_iload hC 10 rfl dL_law_525 ?_
            refine zq_bipush hC dL_law_527 (by decide) ?_
            refine zq_call hC hX zlL_63 rfl (k_X8_rider l hlt D tc (adC b) (zI_adC b) C ((j : Nat) : Int) 6 hW ⟨by omega, by omega⟩ ⟨by decide, by decide⟩) (by unfold kRider; rw [if_pos ⟨by omega, by omega⟩, if_pos ⟨by decide, by decide⟩]) (r2 := (C 16 (12 * 0 + j) 3)) (by rfl) rfl rfl (Nat.le_of_ble_eq_true rfl) ⟨by decide, by decide⟩ ⟨by show _ ≤ 602799; omega, by show _ ≤ 7293227; omega⟩ dL_law_529 ?_
            refine zq_iconst hC dL_law_532 ?_
            refine zq_icmp_ge hC 538 dL_law_533 (by decide) (by omega) (by omega) (fun c533 => ?_) (fun c533 => ?_)
            · skip
              refine zq_widen (k := cs + 5 + 12 * j + 11) (n := ss + 50 + 72 * j + 66) (by omega) (by omega) ?_
              exact hj538
            · skip
              exfalso; omega
        have hj495 : zQ p l e room_1 s m args below meth c Q D tc b A H0 23 (cs + 5 + 12 * j + 7) (ss + 50 + 72 * j + 42) C [(w2, f2), (w1, f1)] [(0, .ref sb), (1, .ref (adC b 0 0)), (2, iv P), (3, iv ((t : Nat) : Int)), (5, iv RC), (8, .ref w1), (9, .ref w2), (13, iv (zcnt (fun k => C 16 (12 * 0 + k) 0 = 0) j)), (14, iv (zcnt (fun k => C 16 (12 * 0 + k) 0 = 1) j)), (15, iv (zsum (fun k => C 16 (12 * 0 + k) 4) j)), (16, iv ((j : Nat) : Int)), (17, iv (C 16 (12 * 0 + j) 0))] 495 [] := by
          refine zq_iload hC 11 rfl dL_law_495 ?_
          refine zq_if_ne hC 518 dL_law_497 (by decide) (by omega) (fun c497 => ?_) (fun c497 => ?_)
          · skip
            refine zq_widen (k := cs + 5 + 12 * j + 9) (n := ss + 50 + 72 * j + 54) (by omega) (by omega) ?_
            exact hj518
          · skip
            have t4 := s00 c497
            refine zq_aload_n hC 1 rfl dL_law_500 rfl ?_
            refine zq_iload hC 10 rfl dL_law_501 ?_
            refine zq_bipush hC dL_law_503 (by decide) ?_
            refine zq_call hC hX zlL_63 rfl (k_X8_rider l hlt D tc (adC b) (zI_adC b) C ((j : Nat) : Int) 6 hW ⟨by omega, by omega⟩ ⟨by decide, by decide⟩) (by unfold kRider; rw [if_pos ⟨by omega, by omega⟩, if_pos ⟨by decide, by decide⟩]) (r2 := (C 16 (12 * 0 + j) 3)) (by rfl) rfl rfl (Nat.le_of_ble_eq_true rfl) ⟨by decide, by decide⟩ ⟨by show _ ≤ 602799; omega, by show _ ≤ 7293227; omega⟩ dL_law_505 ?_
            refine zq_aload_n hC 1 rfl dL_law_508 rfl ?_
            refine zq_iload hC 10 rfl dL_law_509 ?_
            refine zq_iconst hC dL_law_511 ?_
            refine zq_call hC hX zlL_63 rfl (k_X8_rider l hlt D tc (adC b) (zI_adC b) C ((j : Nat) : Int) 1 hW ⟨by omega, by omega⟩ ⟨by decide, by decide⟩) (by unfold kRider; rw [if_pos ⟨by omega, by omega⟩, if_pos ⟨by decide, by decide⟩]) (r2 := (C 8 j 3)) (by rfl) rfl rfl (Nat.le_of_ble_eq_true rfl) ⟨by decide, by decide⟩ ⟨by show _ ≤ 602799; omega, by show _ ≤ 7293227; omega⟩ dL_law_512 ?_
            refine zq_icmp_ge hC 536 dL_law_515 (by decide) (by omega) (by omega) (fun c515 => ?_) (fun c515 => ?_)
            · skip
              exfalso; omega
            · skip
              refine zq_widen (k := cs + 5 + 12 * j + 9) (n := ss + 50 + 72 * j + 54) (by omega) (by omega) ?_
              exact hj518
        have hj477 : zQ p l e room_1 s m args below meth c Q D tc b A H0 23 (cs + 5 + 12 * j + 6) (ss + 50 + 72 * j + 36) C [(w2, f2), (w1, f1)] [(0, .ref sb), (1, .ref (adC b 0 0)), (2, iv P), (3, iv ((t : Nat) : Int)), (5, iv RC), (8, .ref w1), (9, .ref w2), (13, iv (zcnt (fun k => C 16 (12 * 0 + k) 0 = 0) j)), (14, iv (zcnt (fun k => C 16 (12 * 0 + k) 0 = 1) j)), (15, iv (zsum (fun k => C 16 (12 * 0 + k) 4) j)), (16, iv ((j : Nat) : Int)), (17, iv (C 16 (12 * 0 + j) 0))] 477 [] := by
          refine zq_iload hC 11 rfl dL_law_477 ?_
          refine zq_iconst hC dL_law_479 ?_
          refine zq_icmp_eq hC 495 dL_law_480 (by decide) (by omega) (by omega) (fun c480 => ?_) (fun c480 => ?_)
          · skip
            refine zq_widen (k := cs + 5 + 12 * j + 7) (n := ss + 50 + 72 * j + 42) (by omega) (by omega) ?_
            exact hj495
          · skip
            have t3 := sn2 c480
            refine zq_aload_n hC 1 rfl dL_law_483 rfl ?_
            refine zq_iload hC 10 rfl dL_law_484 ?_
            refine zq_bipush hC dL_law_486 (by decide) ?_
            refine zq_call hC hX zlL_63 rfl (k_X8_rider l hlt D tc (adC b) (zI_adC b) C ((j : Nat) : Int) 10 hW ⟨by omega, by omega⟩ ⟨by decide, by decide⟩) (by unfold kRider; rw [if_pos ⟨by omega, by omega⟩, if_pos ⟨by decide, by decide⟩]) (r2 := (C 16 (12 * 0 + j) 5)) (by rfl) rfl rfl (Nat.le_of_ble_eq_true rfl) ⟨by decide, by decide⟩ ⟨by show _ ≤ 602799; omega, by show _ ≤ 7293227; omega⟩ dL_law_488 ?_
            refine zq_iconst hC dL_law_491 ?_
            refine zq_icmp_ne hC 536 dL_law_492 (by decide) (by omega) (by omega) (fun c492 => ?_) (fun c492 => ?_)
            · skip
              exfalso; omega
            · skip
              refine zq_widen (k := cs + 5 + 12 * j + 7) (n := ss + 50 + 72 * j + 42) (by omega) (by omega) ?_
              exact hj495
        have hj427 : zQ p l e room_1 s m args below meth c Q D tc b A H0 23 (cs + 5 + 12 * j + 2) (ss + 50 + 72 * j + 12) C [(w2, f2), (w1, f1)] [(0, .ref sb), (1, .ref (adC b 0 0)), (2, iv P), (3, iv ((t : Nat) : Int)), (5, iv RC), (8, .ref w1), (9, .ref w2), (13, iv (zcnt (fun k => C 16 (12 * 0 + k) 0 = 0) j)), (14, iv (zcnt (fun k => C 16 (12 * 0 + k) 0 = 1) j)), (15, iv (zsum (fun k => C 16 (12 * 0 + k) 4) j)), (16, iv ((j : Nat) : Int)), (17, iv (C 16 (12 * 0 + j) 0))] 427 [] := by
          refine zq_aload_n hC 1 rfl dL_law_427 rfl ?_
          refine zq_iload hC 10 rfl dL_law_428 ?_
          refine zq_bipush hC dL_law_430 (by decide) ?_
          refine zq_call hC hX zlL_63 rfl (k_X8_rider l hlt D tc (adC b) (zI_adC b) C ((j : Nat) : Int) 9 hW ⟨by omega, by omega⟩ ⟨by decide, by decide⟩) (by unfold kRider; rw [if_pos ⟨by omega, by omega⟩, if_pos ⟨by decide, by decide⟩]) (r2 := (C 16 (12 * 0 + j) 4)) (by rfl) rfl rfl (Nat.le_of_ble_eq_true rfl) ⟨by decide, by decide⟩ ⟨by show _ ≤ 602799; omega, by show _ ≤ 7293227; omega⟩ dL_law_432 ?_
          refine zq_aload hC 6 rfl dL_law_435 ?_
          refine zq_iload hC 10 rfl dL_law_437 ?_
          refine zq_xload hC (f := f2) (by simp) j rfl (by omega) (x := (f2 j)) rfl dL_law_439 ?_
          refine zq_icmp_lt hC 536 dL_law_440 (by decide) (by omega) (by omega) (fun c440 => ?_) (fun c440 => ?_)
          · skip
            exfalso; omega
          · skip
            refine zq_iload hC 11 rfl dL_law_443 ?_
            refine zq_iconst hC dL_law_445 ?_
            refine zq_icmp_ne hC 477 dL_law_446 (by decide) (by omega) (by omega) (fun c446 => ?_) (fun c446 => ?_)
            · skip
              refine zq_widen (k := cs + 5 + 12 * j + 6) (n := ss + 50 + 72 * j + 36) (by omega) (by omega) ?_
              exact hj477
            · skip
              obtain ⟨t1, t2⟩ := s2 c446
              refine zq_aload_n hC 1 rfl dL_law_449 rfl ?_
              refine zq_iload hC 10 rfl dL_law_450 ?_
              refine zq_iconst hC dL_law_452 ?_
              refine zq_call hC hX zlL_63 rfl (k_X8_rider l hlt D tc (adC b) (zI_adC b) C ((j : Nat) : Int) 4 hW ⟨by omega, by omega⟩ ⟨by decide, by decide⟩) (by unfold kRider; rw [if_pos ⟨by omega, by omega⟩, if_pos ⟨by decide, by decide⟩]) (r2 := (C 16 (12 * 0 + j) 1)) (by rfl) rfl rfl (Nat.le_of_ble_eq_true rfl) ⟨by decide, by decide⟩ ⟨by show _ ≤ 602799; omega, by show _ ≤ 7293227; omega⟩ dL_law_453 ?_
              refine zq_aload_n hC 1 rfl dL_law_456 rfl ?_
              refine zq_iload hC 10 rfl dL_law_457 ?_
              refine zq_iconst hC dL_law_459 ?_
              refine zq_call hC hX zlL_63 rfl (k_X8_rider l hlt D tc (adC b) (zI_adC b) C ((j : Nat) : Int) 2 hW ⟨by omega, by omega⟩ ⟨by decide, by decide⟩) (by unfold kRider; rw [if_pos ⟨by omega, by omega⟩, if_pos ⟨by decide, by decide⟩]) (r2 := (C 8 j 1)) (by rfl) rfl rfl (Nat.le_of_ble_eq_true rfl) ⟨by decide, by decide⟩ ⟨by show _ ≤ 602799; omega, by show _ ≤ 7293227; omega⟩ dL_law_460 ?_
              refine zq_icmp_ne hC 536 dL_law_463 (by decide) (by omega) (by omega) (fun c463 => ?_) (fun c463 => ?_)
              · skip
                exfalso; omega
              · skip
                refine zq_aload_n hC 1 rfl dL_law_466 rfl ?_
                refine zq_iload hC 10 rfl dL_law_467 ?_
                refine zq_bipush hC dL_law_469 (by decide) ?_
                refine zq_call hC hX zlL_63 rfl (k_X8_rider l hlt D tc (adC b) (zI_adC b) C ((j : Nat) : Int) 10 hW ⟨by omega, by omega⟩ ⟨by decide, by decide⟩) (by unfold kRider; rw [if_pos ⟨by omega, by omega⟩, if_pos ⟨by decide, by decide⟩]) (r2 := (C 16 (12 * 0 + j) 5)) (by rfl) rfl rfl (Nat.le_of_ble_eq_true rfl) ⟨by decide, by decide⟩ ⟨by show _ ≤ 602799; omega, by show _ ≤ 7293227; omega⟩ dL_law_471 ?_
                refine zq_if_lt hC 536 dL_law_474 (by decide) (by omega) (fun c474 => ?_) (fun c474 => ?_)
                · skip
                  exfalso; omega
                · skip
                  refine zq_widen (k := cs + 5 + 12 * j + 6) (n := ss + 50 + 72 * j + 36) (by omega) (by omega) ?_
                  exact hj477
        refine zq_aload_n hC 1 rfl dL_law_399 rfl ?_
        refine zq_iload hC 10 rfl dL_law_400 ?_
        refine zq_iconst hC dL_law_402 ?_
        refine zq_call hC hX zlL_63 rfl (k_X8_rider l hlt D tc (adC b) (zI_adC b) C ((j : Nat) : Int) 3 hW ⟨by omega, by omega⟩ ⟨by decide, by decide⟩) (by unfold kRider; rw [if_pos ⟨by omega, by omega⟩, if_pos ⟨by decide, by decide⟩]) (r2 := (C 16 (12 * 0 + j) 0)) (by rfl) rfl rfl (Nat.le_of_ble_eq_true rfl) ⟨by decide, by decide⟩ ⟨by show _ ≤ 602799; omega, by show _ ≤ 7293227; omega⟩ dL_law_403 ?_
        refine zq_istore hC (L' := [(17, iv (C 16 (12 * 0 + j) 0)), (0, .ref sb), (1, .ref (adC b 0 0)), (2, iv P), (3, iv ((t : Nat) : Int)), (5, iv RC), (8, .ref w1), (9, .ref w2), (13, iv (zcnt (fun k => C 16 (12 * 0 + k) 0 = 0) j)), (14, iv (zcnt (fun k => C 16 (12 * 0 + k) 0 = 1) j)), (15, iv (zsum (fun k => C 16 (12 * 0 + k) 4) j)), (16, iv ((j : Nat) : Int))]) dL_law_406 (by decide) rfl ?_
        refine zq_aload hC 6 rfl dL_law_408 ?_
        refine zq_iload hC 11 rfl dL_law_410 ?_
        refine zq_xload hC (f := f1) (by simp) j rfl (by omega) (x := (f1 j)) rfl dL_law_412 ?_
        refine zq_iconst hC dL_law_413 ?_
        refine zq_icmp_le hC 427 dL_law_414 (by decide) (by omega) (by omega) (fun c414 => ?_) (fun c414 => ?_)
        · skip
          refine zq_perm [1, 2, 3, 4, 5, 6, 7, 8, 9, 10, 11, 0] (L' := [(0, .ref sb), (1, .ref (adC b 0 0)), (2, iv P), (3, iv ((t : Nat) : Int)), (5, iv RC), (8, .ref w1), (9, .ref w2), (13, iv (zcnt (fun k => C 16 (12 * 0 + k) 0 = 0) j)), (14, iv (zcnt (fun k => C 16 (12 * 0 + k) 0 = 1) j)), (15, iv (zsum (fun k => C 16 (12 * 0 + k) 4) j)), (16, iv ((j : Nat) : Int)), (17, iv (C 16 (12 * 0 + j) 0))]) rfl ?_
          refine zq_widen (k := cs + 5 + 12 * j + 2) (n := ss + 50 + 72 * j + 12) (by omega) (by omega) ?_
          exact hj427
        · skip
          have t6 := m1 (by omega)
          refine zq_iload hC 0 rfl dL_law_417 ?_
          refine zq_aload hC 6 rfl dL_law_419 ?_
          refine zq_iload hC 11 rfl dL_law_421 ?_
          refine zq_xload hC (f := f1) (by simp) j rfl (by omega) (x := (f1 j)) rfl dL_law_423 ?_
          refine zq_icmp_ne hC 536 dL_law_424 (by decide) (by omega) (by omega) (fun c424 => ?_) (fun c424 => ?_)
          · skip
            exfalso; omega
          · skip
            refine zq_perm [1, 2, 3, 4, 5, 6, 7, 8, 9, 10, 11, 0] (L' := [(0, .ref sb), (1, .ref (adC b 0 0)), (2, iv P), (3, iv ((t : Nat) : Int)), (5, iv RC), (8, .ref w1), (9, .ref w2), (13, iv (zcnt (fun k => C 16 (12 * 0 + k) 0 = 0) j)), (14, iv (zcnt (fun k => C 16 (12 * 0 + k) 0 = 1) j)), (15, iv (zsum (fun k => C 16 (12 * 0 + k) 4) j)), (16, iv ((j : Nat) : Int)), (17, iv (C 16 (12 * 0 + j) 0))]) rfl ?_
            refine zq_widen (k := cs + 5 + 12 * j + 2) (n := ss + 50 + 72 * j + 12) (by omega) (by omega) ?_
            exact hj427
  refine zq_iconst hC dL_law_380 ?_
  refine zq_istore hC (L' := [(13, iv 0), (0, .ref sb), (1, .ref (adC b 0 0)), (2, iv P), (3, iv ((t : Nat) : Int)), (5, iv RC), (8, .ref w1), (9, .ref w2)]) dL_law_381 (by decide) rfl ?_
  refine zq_iconst hC dL_law_383 ?_
  refine zq_istore hC (L' := [(14, iv 0), (13, iv 0), (0, .ref sb), (1, .ref (adC b 0 0)), (2, iv P), (3, iv ((t : Nat) : Int)), (5, iv RC), (8, .ref w1), (9, .ref w2)]) dL_law_384 (by decide) rfl ?_
  refine zq_iconst hC dL_law_386 ?_
  refine zq_istore hC (L' := [(15, iv 0), (14, iv 0), (13, iv 0), (0, .ref sb), (1, .ref (adC b 0 0)), (2, iv P), (3, iv ((t : Nat) : Int)), (5, iv RC), (8, .ref w1), (9, .ref w2)]) dL_law_387 (by decide) rfl ?_
  refine zq_iconst hC dL_law_389 ?_
  refine zq_istore hC (L' := [(16, iv 0), (15, iv 0), (14, iv 0), (13, iv 0), (0, .ref sb), (1, .ref (adC b 0 0)), (2, iv P), (3, iv ((t : Nat) : Int)), (5, iv RC), (8, .ref w1), (9, .ref w2)]) dL_law_390 (by decide) rfl ?_
  refine zq_perm [4, 5, 6, 7, 8, 9, 10, 3, 2, 1, 0] (L' := [(0, .ref sb), (1, .ref (adC b 0 0)), (2, iv P), (3, iv ((t : Nat) : Int)), (5, iv RC), (8, .ref w1), (9, .ref w2), (13, iv 0), (14, iv 0), (15, iv 0), (16, iv 0)]) rfl ?_
  refine zq_widen (k := cs + 5 + 12 * 0) (n := ss + 50 + 72 * 0) (by omega) (by omega) ?_
  exact zq_conv (hc392 _ 0 (by omega) rfl) (by rfl) (by rfl) (by rfl) rfl
