set_option maxHeartbeats 4000000 in
set_option maxRecDepth 100000 in
theorem k_X10_lineTold (l : Launch) (D : va_G) (tc : Nat → ClassId) (ad : Nat → Nat → Nat) (hI : zI ad okM) (M : zM) {T U : Int} (n w : Int) (hW : WTM T U M) (hn : 0 ≤ n ∧ n ≤ M 0 0 5 - 1) (hw : 0 ≤ w ∧ w ≤ 10) : zMi l yX10_lineTold cX10_lineTold 4 (some .int) 3 D (tysM tc) ad okM (tmM ad tc) [.ref (ad 0 0), iv n, iv w] M (lineToldM M n w) M 1 11 := by
  have hlc : 0 ≤ M 0 0 5 ∧ M 0 0 5 ≤ 12 := hW.1 0 0 5
  have h11 : 0 ≤ M 11 0 0 ∧ M 11 0 0 ≤ T := hW.1 11 0 0
  have hh := hW.2.2
  refine z_met hI (plainFor_of_name (by decide)) (Nat.le_of_ble_eq_true rfl) ?_
  intro p e s m args below meth c hC hret hlk
  refine z_conv (L2 := [(0, .ref (ad 0 0)), (1, iv n), (2, iv w)]) ?_ rfl rfl rfl
  refine z_bipush hC dX10_lineTold_0 (by decide) ?_
  refine z_newN hC 11 (by decide) ⟨by decide, by decide⟩ dX10_lineTold_2 (fun b9 hI9 hC9 => ?_)
  refine z_conv (L2 := [(0, .ref (adN ad b9 0 0)), (1, iv n), (2, iv w)]) (St2 := [.ref (adN ad b9 25 0)]) ?_ rfl rfl rfl
  obtain ⟨ad9, had⟩ : ∃ x, x = adN ad b9 := ⟨_, rfl⟩
  rw [← had] at hI9 hC9 ⊢
  refine z_dup hC9 dX10_lineTold_4 rfl ?_
  refine z_iconst hC9 dX10_lineTold_5 ?_
  refine z_aload_n hC9 0 rfl dX10_lineTold_6 rfl ?_
  refine z_getR hC9 zfX10_19 (tmN_0 ad9 tc _) (okN_0 (by omega)) rfl dX10_lineTold_7 ?_
  refine z_iload_n hC9 1 rfl dX10_lineTold_10 rfl ?_
  have hq1 : 0 ≤ M 4 0 ((n).toNat) ∧ M 4 0 ((n).toNat) ≤ 7 := hW.1 4 0 ((n).toNat)
  refine z_iaload hC9 0 ((n).toNat) (tmN_4 ad9 tc _) (tysN_0 tc) (okN_4 (by omega)) (by omega) (by omega) (by decide) (x := M 4 0 ((n).toNat)) (by simp [zup, z0_fr (f := 4) (by decide)]) dX10_lineTold_11 ?_
  refine z_iastore hC9 0 (0) (tmN_25 ad9 tc _) (tysN_0 tc) (okN_25 (by omega)) (rfl) (by omega) (by decide) dX10_lineTold_12 ?_
  refine z_dup hC9 dX10_lineTold_13 rfl ?_
  refine z_iconst hC9 dX10_lineTold_14 ?_
  refine z_aload_n hC9 0 rfl dX10_lineTold_15 rfl ?_
  refine z_getR hC9 zfX10_22 (tmN_0 ad9 tc _) (okN_0 (by omega)) rfl dX10_lineTold_16 ?_
  refine z_iload_n hC9 1 rfl dX10_lineTold_19 rfl ?_
  have hq2 : 0 ≤ M 5 0 ((n).toNat) ∧ M 5 0 ((n).toNat) ≤ 7 := hW.1 5 0 ((n).toNat)
  refine z_iaload hC9 0 ((n).toNat) (tmN_5 ad9 tc _) (tysN_0 tc) (okN_5 (by omega)) (by omega) (by omega) (by decide) (x := M 5 0 ((n).toNat)) (by simp [zup, z0_fr (f := 5) (by decide)]) dX10_lineTold_20 ?_
  refine z_iastore hC9 0 (1) (tmN_25 ad9 tc _) (tysN_0 tc) (okN_25 (by omega)) (rfl) (by omega) (by decide) dX10_lineTold_21 ?_
  refine z_dup hC9 dX10_lineTold_22 rfl ?_
  refine z_iconst hC9 dX10_lineTold_23 ?_
  refine z_aload_n hC9 0 rfl dX10_lineTold_24 rfl ?_
  refine z_getR hC9 zfX10_25 (tmN_0 ad9 tc _) (okN_0 (by omega)) rfl dX10_lineTold_25 ?_
  refine z_iload_n hC9 1 rfl dX10_lineTold_28 rfl ?_
  have hq3 : 0 ≤ M 6 0 ((n).toNat) ∧ M 6 0 ((n).toNat) ≤ 150 := hW.1 6 0 ((n).toNat)
  refine z_iaload hC9 0 ((n).toNat) (tmN_6 ad9 tc _) (tysN_0 tc) (okN_6 (by omega)) (by omega) (by omega) (by decide) (x := M 6 0 ((n).toNat)) (by simp [zup, z0_fr (f := 6) (by decide)]) dX10_lineTold_29 ?_
  refine z_iastore hC9 0 (2) (tmN_25 ad9 tc _) (tysN_0 tc) (okN_25 (by omega)) (rfl) (by omega) (by decide) dX10_lineTold_30 ?_
  refine z_dup hC9 dX10_lineTold_31 rfl ?_
  refine z_iconst hC9 dX10_lineTold_32 ?_
  refine z_aload_n hC9 0 rfl dX10_lineTold_33 rfl ?_
  refine z_iload_n hC9 1 rfl dX10_lineTold_34 rfl ?_
  refine z_callVi hC9 zlX10_72 (z_embi (zEmbN hI9 (fun f h => by intro q9; (repeat rw [zup_fr (okM_ne q9)]); rw [z0_fr (okM_ne q9)])) (fun _ h => h) (k_X10_lengthOf l D tc ad9 (zI_N hI9) M n hW (by omega))) (tmN_0 ad9 tc _) rfl (okN_0 (by omega)) rfl rfl (Nat.le_of_ble_eq_true rfl) ⟨by decide, by decide⟩ ⟨by decide, by decide⟩ dX10_lineTold_35 ?_
  refine z_iastore hC9 0 (3) (tmN_25 ad9 tc _) (tysN_0 tc) (okN_25 (by omega)) (rfl) (by omega) (by decide) dX10_lineTold_38 ?_
  refine z_dup hC9 dX10_lineTold_39 rfl ?_
  refine z_iconst hC9 dX10_lineTold_40 ?_
  refine z_aload_n hC9 0 rfl dX10_lineTold_41 rfl ?_
  refine z_iload_n hC9 1 rfl dX10_lineTold_42 rfl ?_
  refine z_callVi hC9 zlX10_75 (z_embi (zEmbN hI9 (fun f h => by intro q9; (repeat rw [zup_fr (okM_ne q9)]); rw [z0_fr (okM_ne q9)])) (fun _ h => h) (k_X10_dropOf l D tc ad9 (zI_N hI9) M n hW (by omega))) (tmN_0 ad9 tc _) rfl (okN_0 (by omega)) rfl rfl (Nat.le_of_ble_eq_true rfl) ⟨by decide, by decide⟩ ⟨by decide, by decide⟩ dX10_lineTold_43 ?_
  refine z_iastore hC9 0 (4) (tmN_25 ad9 tc _) (tysN_0 tc) (okN_25 (by omega)) (rfl) (by omega) (by decide) dX10_lineTold_46 ?_
  refine z_dup hC9 dX10_lineTold_47 rfl ?_
  refine z_iconst hC9 dX10_lineTold_48 ?_
  refine z_aload_n hC9 0 rfl dX10_lineTold_49 rfl ?_
  refine z_getR hC9 zfX10_45 (tmN_0 ad9 tc _) (okN_0 (by omega)) rfl dX10_lineTold_50 ?_
  refine z_getRN hC9 zfX10_89 (tmN_11 ad9 tc _) (okN_11 (by omega)) rfl dX10_lineTold_53 ?_
  refine z_iload_n hC9 1 rfl dX10_lineTold_56 rfl ?_
  have hq4 : 0 ≤ M 12 0 ((n).toNat) ∧ M 12 0 ((n).toNat) ≤ 3 := hW.1 12 0 ((n).toNat)
  refine z_iaload hC9 0 ((n).toNat) (tmN_12 ad9 tc _) (tysN_0 tc) (okN_12 (by omega)) (by omega) (by omega) (by decide) (x := M 12 0 ((n).toNat)) (by simp [zup, z0_fr (f := 12) (by decide)]) dX10_lineTold_57 ?_
  refine z_iastore hC9 0 (5) (tmN_25 ad9 tc _) (tysN_0 tc) (okN_25 (by omega)) (rfl) (by omega) (by decide) dX10_lineTold_58 ?_
  refine z_dup hC9 dX10_lineTold_59 rfl ?_
  refine z_bipush hC9 dX10_lineTold_60 (by decide) ?_
  refine z_aload_n hC9 0 rfl dX10_lineTold_62 rfl ?_
  refine z_getR hC9 zfX10_45 (tmN_0 ad9 tc _) (okN_0 (by omega)) rfl dX10_lineTold_63 ?_
  refine z_getRN hC9 zfX10_89 (tmN_11 ad9 tc _) (okN_11 (by omega)) rfl dX10_lineTold_66 ?_
  refine z_iload_n hC9 1 rfl dX10_lineTold_69 rfl ?_
  have hq5 : 0 ≤ M 12 0 ((n).toNat) ∧ M 12 0 ((n).toNat) ≤ 3 := hW.1 12 0 ((n).toNat)
  refine z_iaload hC9 0 ((n).toNat) (tmN_12 ad9 tc _) (tysN_0 tc) (okN_12 (by omega)) (by omega) (by omega) (by decide) (x := M 12 0 ((n).toNat)) (by simp [zup, z0_fr (f := 12) (by decide)]) dX10_lineTold_70 ?_
  refine z_aload_n hC9 0 rfl dX10_lineTold_71 rfl ?_
  refine z_getR hC9 zfX10_45 (tmN_0 ad9 tc _) (okN_0 (by omega)) rfl dX10_lineTold_72 ?_
  refine z_getRN hC9 zfX10_111 (tmN_11 ad9 tc _) (okN_11 (by omega)) rfl dX10_lineTold_75 ?_
  refine z_iload_n hC9 1 rfl dX10_lineTold_78 rfl ?_
  have hq6 : 0 ≤ M 13 0 ((n).toNat) ∧ M 13 0 ((n).toNat) ≤ 3 := hW.1 13 0 ((n).toNat)
  refine z_iaload hC9 0 ((n).toNat) (tmN_13 ad9 tc _) (tysN_0 tc) (okN_13 (by omega)) (by omega) (by omega) (by decide) (x := M 13 0 ((n).toNat)) (by simp [zup, z0_fr (f := 13) (by decide)]) dX10_lineTold_79 ?_
  refine z_isub hC9 dX10_lineTold_80 ?_
  refine z_iastore hC9 0 (6) (tmN_25 ad9 tc _) (tysN_0 tc) (okN_25 (by omega)) (rfl) (by omega) (by decide) dX10_lineTold_81 ?_
  refine z_dup hC9 dX10_lineTold_82 rfl ?_
  refine z_bipush hC9 dX10_lineTold_83 (by decide) ?_
  refine z_aload_n hC9 0 rfl dX10_lineTold_85 rfl ?_
  refine z_getR hC9 zfX10_45 (tmN_0 ad9 tc _) (okN_0 (by omega)) rfl dX10_lineTold_86 ?_
  refine z_iload_n hC9 1 rfl dX10_lineTold_89 rfl ?_
  refine z_callVi hC9 zlX10_114 (z_embi (zEmbN hI9 (fun f h => by intro q9; (repeat rw [zup_fr (okM_ne q9)]); rw [z0_fr (okM_ne q9)])) (fun _ h => h) (k_X9_riding l D tc ad9 (zI_N hI9) M 0 n (by omega) hW (by omega))) (tmN_11 ad9 tc _) rfl (okN_11 (by omega)) rfl rfl (Nat.le_of_ble_eq_true rfl) ⟨by decide, by decide⟩ ⟨by decide, by decide⟩ dX10_lineTold_90 ?_
  refine z_iastore hC9 0 (7) (tmN_25 ad9 tc _) (tysN_0 tc) (okN_25 (by omega)) (rfl) (by omega) (by decide) dX10_lineTold_93 ?_
  refine z_dup hC9 dX10_lineTold_94 rfl ?_
  refine z_bipush hC9 dX10_lineTold_95 (by decide) ?_
  refine z_aload_n hC9 0 rfl dX10_lineTold_97 rfl ?_
  refine z_getR hC9 zfX10_45 (tmN_0 ad9 tc _) (okN_0 (by omega)) rfl dX10_lineTold_98 ?_
  refine z_getRN hC9 zfX10_117 (tmN_11 ad9 tc _) (okN_11 (by omega)) rfl dX10_lineTold_101 ?_
  refine z_iload_n hC9 1 rfl dX10_lineTold_104 rfl ?_
  refine z_iaload hC9 0 ((n).toNat) (tmN_16 ad9 tc _) (tysN_0 tc) (okN_16 (by omega)) (by omega) (by omega) (by decide) (x := M 16 0 ((n).toNat)) (by simp [zup, z0_fr (f := 16) (by decide)]) dX10_lineTold_105 ?_
  refine z_iastore hC9 0 (8) (tmN_25 ad9 tc _) (tysN_0 tc) (okN_25 (by omega)) (rfl) (by omega) (by decide) dX10_lineTold_106 ?_
  refine z_dup hC9 dX10_lineTold_107 rfl ?_
  refine z_bipush hC9 dX10_lineTold_108 (by decide) ?_
  refine z_aload_n hC9 0 rfl dX10_lineTold_110 rfl ?_
  refine z_getR hC9 zfX10_45 (tmN_0 ad9 tc _) (okN_0 (by omega)) rfl dX10_lineTold_111 ?_
  refine z_getRN hC9 zfX10_120 (tmN_11 ad9 tc _) (okN_11 (by omega)) rfl dX10_lineTold_114 ?_
  refine z_iload_n hC9 1 rfl dX10_lineTold_117 rfl ?_
  refine z_iaload hC9 0 ((n).toNat) (tmN_17 ad9 tc _) (tysN_0 tc) (okN_17 (by omega)) (by omega) (by omega) (by decide) (x := M 17 0 ((n).toNat)) (by simp [zup, z0_fr (f := 17) (by decide)]) dX10_lineTold_118 ?_
  refine z_iastore hC9 0 (9) (tmN_25 ad9 tc _) (tysN_0 tc) (okN_25 (by omega)) (rfl) (by omega) (by decide) dX10_lineTold_119 ?_
  refine z_dup hC9 dX10_lineTold_120 rfl ?_
  refine z_bipush hC9 dX10_lineTold_121 (by decide) ?_
  refine z_aload_n hC9 0 rfl dX10_lineTold_123 rfl ?_
  refine z_iload_n hC9 1 rfl dX10_lineTold_124 rfl ?_
  refine z_aload_n hC9 0 rfl dX10_lineTold_125 rfl ?_
  refine z_getR hC9 zfX10_45 (tmN_0 ad9 tc _) (okN_0 (by omega)) rfl dX10_lineTold_126 ?_
  have hq7 : 0 ≤ M 11 0 0 ∧ M 11 0 0 ≤ T := hW.1 11 0 0
  refine z_getIN hC9 zfX10_123 (tmN_11 ad9 tc _) (okN_11 (by omega)) rfl (x := M 11 0 0) (by simp [zup, z0_fr (f := 11) (by decide)]) dX10_lineTold_129 ?_
  refine z_callVi hC9 zlX10_126 (z_embi (zEmbN hI9 (fun f h => by intro q9; (repeat rw [zup_fr (okM_ne q9)]); rw [z0_fr (okM_ne q9)])) (fun _ h => h) (k_X10_isClosed l D tc ad9 (zI_N hI9) M n (M 11 0 0) hW (by omega) (by omega))) (tmN_0 ad9 tc _) rfl (okN_0 (by omega)) rfl rfl (Nat.le_of_ble_eq_true rfl) ⟨by decide, by decide⟩ ⟨by decide, by decide⟩ dX10_lineTold_132 ?_
  refine z_if_eq_b hC9 142 dX10_lineTold_135 (by decide) (fun c135 => ?_) (fun c135 => ?_)
  · skip
    refine z_iconst hC9 dX10_lineTold_142 ?_
    refine z_iastore hC9 0 (10) (tmN_25 ad9 tc _) (tysN_0 tc) (okN_25 (by omega)) (rfl) (by omega) (by decide) dX10_lineTold_143 ?_
    refine z_astore_n hC9 (L' := [(3, .ref (ad9 25 0)), (0, .ref (ad9 0 0)), (1, iv n), (2, iv w)]) dX10_lineTold_144 rfl (by decide) rfl ?_
    refine z_aload_n hC9 0 rfl dX10_lineTold_145 rfl ?_
    refine z_iload_n hC9 3 rfl dX10_lineTold_146 rfl ?_
    refine z_iaload hC9 0 ((w).toNat) (tmN_25 ad9 tc _) (tysN_0 tc) (okN_25 (by omega)) (by omega) (by omega) (by decide) (x := (zup (zup (zup (zup (zup (zup (zup (zup (zup (zup (zup (z0 M) 25 0 0 (M 4 0 ((n).toNat))) 25 0 1 (M 5 0 ((n).toNat))) 25 0 2 (M 6 0 ((n).toNat))) 25 0 3 (lenM M n)) 25 0 4 (dropM M n)) 25 0 5 (M 12 0 ((n).toNat))) 25 0 6 ((M 12 0 ((n).toNat)) - (M 13 0 ((n).toNat)))) 25 0 7 (ridingM M 0 n)) 25 0 8 (M 16 0 ((n).toNat))) 25 0 9 (M 17 0 ((n).toNat))) 25 0 10 0) 25 0 ((w).toNat)) (rfl) dX10_lineTold_147 ?_
    exact z_iretN hC9 had hret hlk rfl (by rcases (show w = 0 ∨ w = 1 ∨ w = 2 ∨ w = 3 ∨ w = 4 ∨ w = 5 ∨ w = 6 ∨ w = 7 ∨ w = 8 ∨ w = 9 ∨ w = 10 by omega) with rfl | rfl | rfl | rfl | rfl | rfl | rfl | rfl | rfl | rfl | rfl <;> first | rfl | exact (if_pos (by assumption)).symm | exact (if_neg (by assumption)).symm) (fun f h => by intro q9; (repeat rw [zup_fr (okM_ne q9)]); rw [z0_fr (okM_ne q9)]) ⟨by decide, by decide⟩ dX10_lineTold_148
  · skip
    refine z_iconst hC9 dX10_lineTold_138 ?_
    refine z_goto hC9 143 dX10_lineTold_139 (by decide) ?_
    refine z_iastore hC9 0 (10) (tmN_25 ad9 tc _) (tysN_0 tc) (okN_25 (by omega)) (rfl) (by omega) (by decide) dX10_lineTold_143 ?_
    refine z_astore_n hC9 (L' := [(3, .ref (ad9 25 0)), (0, .ref (ad9 0 0)), (1, iv n), (2, iv w)]) dX10_lineTold_144 rfl (by decide) rfl ?_
    refine z_aload_n hC9 0 rfl dX10_lineTold_145 rfl ?_
    refine z_iload_n hC9 3 rfl dX10_lineTold_146 rfl ?_
    refine z_iaload hC9 0 ((w).toNat) (tmN_25 ad9 tc _) (tysN_0 tc) (okN_25 (by omega)) (by omega) (by omega) (by decide) (x := (zup (zup (zup (zup (zup (zup (zup (zup (zup (zup (zup (z0 M) 25 0 0 (M 4 0 ((n).toNat))) 25 0 1 (M 5 0 ((n).toNat))) 25 0 2 (M 6 0 ((n).toNat))) 25 0 3 (lenM M n)) 25 0 4 (dropM M n)) 25 0 5 (M 12 0 ((n).toNat))) 25 0 6 ((M 12 0 ((n).toNat)) - (M 13 0 ((n).toNat)))) 25 0 7 (ridingM M 0 n)) 25 0 8 (M 16 0 ((n).toNat))) 25 0 9 (M 17 0 ((n).toNat))) 25 0 10 1) 25 0 ((w).toNat)) (rfl) dX10_lineTold_147 ?_
    exact z_iretN hC9 had hret hlk rfl (by rcases (show w = 0 ∨ w = 1 ∨ w = 2 ∨ w = 3 ∨ w = 4 ∨ w = 5 ∨ w = 6 ∨ w = 7 ∨ w = 8 ∨ w = 9 ∨ w = 10 by omega) with rfl | rfl | rfl | rfl | rfl | rfl | rfl | rfl | rfl | rfl | rfl <;> first | rfl | exact (if_pos (by assumption)).symm | exact (if_neg (by assumption)).symm) (fun f h => by intro q9; (repeat rw [zup_fr (okM_ne q9)]); rw [z0_fr (okM_ne q9)]) ⟨by decide, by decide⟩ dX10_lineTold_148
