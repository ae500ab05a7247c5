set_option maxHeartbeats 4000000 in
set_option maxRecDepth 100000 in
theorem k_X8_mean (l : Launch) (D : va_G) (tc : Nat → ClassId) (ad : Nat → Nat → Nat) (hI : zI ad okC) (M : zM) {T U : Int}  (hW : WTC T U M) (hF : zNoNaN) : zMd l yX8_mean cX8_mean 4 (some .double) 0 D (tysC tc) ad okC (tmC ad tc) [.ref (ad 0 0)] M (meanC M) M 0 0 := by
  have hrc : 0 ≤ M 1 0 6 ∧ M 1 0 6 ≤ 12 := hW.1 1 0 6
  refine z_met hI (plainFor_of_name (by decide)) (Nat.le_of_ble_eq_true rfl) ?_
  intro p e s m args below meth c hC hret hlk
  refine z_conv (L2 := [(0, .ref (ad 0 0))]) ?_ rfl rfl rfl
  have hc6 : ∀ (d6 : Nat) (j : Nat) (hj : j ≤ (M 1 0 6).toNat), (M 1 0 6).toNat - j = d6 → zV p l e (zrm 0 0 0) s m args below meth c (MQ below (zQd D ad okC (tmC ad tc) (meanC M) M (zA ad okC s.heap.size)) args s 0 0 (zA ad okC s.heap.size)) D ad okC (tmC ad tc) (zA ad okC s.heap.size) s.heap 4 0 0 M [(0, .ref (ad 0 0)), (1, iv (zcnt (fun x9 => M 16 (12 * 0 + x9) 0 = 2) j)), (2, iv (meanS M j)), (3, iv ((j : Nat) : Int))] 6 [] := by
    intro d6
    induction d6 using Nat.strongRecOn with
    | _ d6 ih6 =>
      intro j hj hd6
      refine z_iload_n hC 3 rfl dX8_mean_6 rfl ?_
      refine z_aload_n hC 0 rfl dX8_mean_7 rfl ?_
      refine z_getR hC zfX8_10 (tmC_0 ad tc _) (okC_0 (by omega)) rfl dX8_mean_8 ?_
      have hq1 : 0 ≤ M 1 0 6 ∧ M 1 0 6 ≤ 12 := hW.1 1 0 6
      refine z_getI hC zfX8_150 (tmC_1 ad tc _) (okC_1 (by omega)) rfl (x := M 1 0 6) (rfl) dX8_mean_11 ?_
      refine z_icmp_ge hC 57 dX8_mean_14 (by decide) (by omega) (by omega) (fun c14 => ?_) (fun c14 => ?_)
      · skip
        have he : j = (M 1 0 6).toNat := by omega
        subst he
        have hcb := zcnt_le (fun x9 => M 16 (12 * 0 + x9) 0 = 2) (M 1 0 6).toNat
        refine z_iload_n hC 1 rfl dX8_mean_57 rfl ?_
        refine z_if_ne hC 65 dX8_mean_58 (by decide) (by omega) (fun c58 => ?_) (fun c58 => ?_)
        · skip
          refine z_iload_n hC 2 rfl dX8_mean_65 rfl ?_
          refine z_i2d hC dX8_mean_66 ?_
          refine z_iload_n hC 1 rfl dX8_mean_67 rfl ?_
          refine z_i2d hC dX8_mean_68 ?_
          refine z_ddiv hC dX8_mean_69 (hF _ _ (zi_ne0 ⟨by omega, by omega⟩)) ?_
          exact z_dret hC hret hlk (by show _ = meanV (meanS M (M 1 0 6).toNat) (zcnt (fun x9 => M 16 (12 * 0 + x9) 0 = 2) (M 1 0 6).toNat); simp only [meanV]; first | exact (if_pos (by omega)).symm | exact (if_neg (by omega)).symm) (by rfl) dX8_mean_70
        · skip
          refine z_dconst0 hC dX8_mean_61 ?_
          refine z_goto hC 70 dX8_mean_62 (by decide) ?_
          exact z_dret hC hret hlk (by show _ = meanV (meanS M (M 1 0 6).toNat) (zcnt (fun x9 => M 16 (12 * 0 + x9) 0 = 2) (M 1 0 6).toNat); simp only [meanV]; first | exact (if_pos (by omega)).symm | exact (if_neg (by omega)).symm) (by rfl) dX8_mean_70
      · skip
        refine z_aload_n hC 0 rfl dX8_mean_17 rfl ?_
        refine z_getR hC zfX8_21 (tmC_0 ad tc _) (okC_0 (by omega)) rfl dX8_mean_18 ?_
        refine z_getR hC zfX8_200 (tmC_12 ad tc _) (okC_12 (by omega)) rfl dX8_mean_21 ?_
        refine z_iload_n hC 3 rfl dX8_mean_24 rfl ?_
        refine z_aaload hC 4 (j) (ad 16 (12 * 0 + j)) (tmC_13 ad tc _) (tysC_4 tc) (okC_13 (by omega)) (rfl) (by omega) (by decide) rfl dX8_mean_25 ?_
        have hq2 : 0 ≤ M 16 (12 * 0 + j) 0 ∧ M 16 (12 * 0 + j) 0 ≤ 3 := hW.1 16 (12 * 0 + j) 0
        refine z_getI hC zfX8_221 (tmC_16 ad tc _) (okC_16 (by omega)) rfl (x := M 16 (12 * 0 + j) 0) (rfl) dX8_mean_26 ?_
        refine z_iconst hC dX8_mean_29 ?_
        refine z_icmp_ne hC 51 dX8_mean_30 (by decide) (by omega) (by omega) (fun c30 => ?_) (fun c30 => ?_)
        · skip
          refine z_iinc hC 3 (L' := [(3, iv (((j : Nat) : Int) + 1)), (0, .ref (ad 0 0)), (1, iv (zcnt (fun x9 => M 16 (12 * 0 + x9) 0 = 2) j)), (2, iv (meanS M j))]) dX8_mean_51 rfl (by decide) rfl ?_
          refine z_goto hC 6 dX8_mean_54 (by decide) ?_
          refine z_perm [1, 2, 3, 0] (L' := [(0, .ref (ad 0 0)), (1, iv (zcnt (fun x9 => M 16 (12 * 0 + x9) 0 = 2) j)), (2, iv (meanS M j)), (3, iv (((j : Nat) : Int) + 1))]) rfl ?_
          exact z_conv (ih6 _ (by omega) (j + 1) (by omega) rfl) (by rfl) (by simp only [zcnt, meanS, zsum]; first | (rw [if_pos (by assumption), if_pos (by assumption)]; rfl) | (rw [if_neg (by assumption), if_neg (by assumption)]; simp only [Int.add_zero]; rfl)) (by rfl)
        · skip
          refine z_iinc hC 1 (L' := [(1, iv (zcnt (fun x9 => M 16 (12 * 0 + x9) 0 = 2) j + 1)), (0, .ref (ad 0 0)), (2, iv (meanS M j)), (3, iv ((j : Nat) : Int))]) dX8_mean_33 rfl (by decide) rfl ?_
          refine z_iload_n hC 2 rfl dX8_mean_36 rfl ?_
          refine z_aload_n hC 1 rfl dX8_mean_37 rfl ?_
          refine z_getR hC zfX8_21 (tmC_0 ad tc _) (okC_0 (by omega)) rfl dX8_mean_38 ?_
          refine z_getR hC zfX8_200 (tmC_12 ad tc _) (okC_12 (by omega)) rfl dX8_mean_41 ?_
          refine z_iload_n hC 3 rfl dX8_mean_44 rfl ?_
          refine z_aaload hC 4 (j) (ad 16 (12 * 0 + j)) (tmC_13 ad tc _) (tysC_4 tc) (okC_13 (by omega)) (rfl) (by omega) (by decide) rfl dX8_mean_45 ?_
          refine z_getI hC zfX8_213 (tmC_16 ad tc _) (okC_16 (by omega)) rfl (x := M 16 (12 * 0 + j) 5) (rfl) dX8_mean_46 ?_
          refine z_iadd hC dX8_mean_49 ?_
          refine z_istore_n hC (L' := [(2, iv ((meanS M j) + (M 16 (12 * 0 + j) 5))), (1, iv (zcnt (fun x9 => M 16 (12 * 0 + x9) 0 = 2) j + 1)), (0, .ref (ad 0 0)), (3, iv ((j : Nat) : Int))]) dX8_mean_50 rfl (by decide) rfl ?_
          refine z_iinc hC 3 (L' := [(3, iv (((j : Nat) : Int) + 1)), (2, iv ((meanS M j) + (M 16 (12 * 0 + j) 5))), (1, iv (zcnt (fun x9 => M 16 (12 * 0 + x9) 0 = 2) j + 1)), (0, .ref (ad 0 0))]) dX8_mean_51 rfl (by decide) rfl ?_
          refine z_goto hC 6 dX8_mean_54 (by decide) ?_
          refine z_perm [3, 2, 1, 0] (L' := [(0, .ref (ad 0 0)), (1, iv (zcnt (fun x9 => M 16 (12 * 0 + x9) 0 = 2) j + 1)), (2, iv ((meanS M j) + (M 16 (12 * 0 + j) 5))), (3, iv (((j : Nat) : Int) + 1))]) rfl ?_
          exact z_conv (ih6 _ (by omega) (j + 1) (by omega) rfl) (by rfl) (by simp only [zcnt, meanS, zsum]; first | (rw [if_pos (by assumption), if_pos (by assumption)]; rfl) | (rw [if_neg (by assumption), if_neg (by assumption)]; simp only [Int.add_zero]; rfl)) (by rfl)
  refine z_iconst hC dX8_mean_0 ?_
  refine z_istore_n hC (L' := [(1, iv 0), (0, .ref (ad 0 0))]) dX8_mean_1 rfl (by decide) rfl ?_
  refine z_iconst hC dX8_mean_2 ?_
  refine z_istore_n hC (L' := [(2, iv 0), (1, iv 0), (0, .ref (ad 0 0))]) dX8_mean_3 rfl (by decide) rfl ?_
  refine z_iconst hC dX8_mean_4 ?_
  refine z_istore_n hC (L' := [(3, iv 0), (2, iv 0), (1, iv 0), (0, .ref (ad 0 0))]) dX8_mean_5 rfl (by decide) rfl ?_
  refine z_perm [3, 2, 1, 0] (L' := [(0, .ref (ad 0 0)), (1, iv 0), (2, iv 0), (3, iv 0)]) rfl ?_
  exact z_conv (hc6 _ 0 (by omega) rfl) (by rfl) (by rfl) (by rfl)
set_option maxHeartbeats 4000000 in
set_option maxRecDepth 100000 in
theorem k_X10_mean (l : Launch) (D : va_G) (tc : Nat → ClassId) (ad : Nat → Nat → Nat) (hI : zI ad okM) (M : zM) {T U : Int}  (hW : WTM T U M) (hF : zNoNaN) : zMd l yX10_mean cX10_mean 3 (some .double) 1 D (tysM tc) ad okM (tmM ad tc) [.ref (ad 0 0)] M (meanM (zup M 0 0 0 0)) (zup M 0 0 0 0) 0 0 := by
  have hrc : 0 ≤ M 0 0 10 ∧ M 0 0 10 ≤ 12 := hW.1 0 0 10
  have hW1 : WTM T U (zup M 0 0 0 0) := hW.thr ⟨by omega, by omega⟩
  have hmb := manyM_bd hW1 0 2
  refine z_met hI (plainFor_of_name (by decide)) (Nat.le_of_ble_eq_true rfl) ?_
  intro p e s m args below meth c hC hret hlk
  refine z_conv (L2 := [(0, .ref (ad 0 0))]) ?_ rfl rfl rfl
  have hc9 : ∀ (d9 : Nat) (j : Nat) (hj : j ≤ (M 0 0 10).toNat), (M 0 0 10).toNat - j = d9 → zV p l e (zrm 1 0 0) s m args below meth c (MQ below (zQd D ad okM (tmM ad tc) (meanM (zup M 0 0 0 0)) (zup M 0 0 0 0) (zA ad okM s.heap.size)) args s 0 0 (zA ad okM s.heap.size)) D ad okM (tmM ad tc) (zA ad okM s.heap.size) s.heap 3 0 0 (zup M 0 0 0 0) [(0, .ref (ad 0 0)), (1, iv (meanSM (zup M 0 0 0 0) j)), (2, iv ((j : Nat) : Int))] 9 [] := by
    intro d9
    induction d9 using Nat.strongRecOn with
    | _ d9 ih9 =>
      intro j hj hd9
      refine z_iload_n hC 2 rfl dX10_mean_9 rfl ?_
      refine z_aload_n hC 0 rfl dX10_mean_10 rfl ?_
      have hq1 : 0 ≤ M 0 0 10 ∧ M 0 0 10 ≤ 12 := hW.1 0 0 10
      refine z_getI hC zfX10_95 (tmM_0 ad tc _) (okM_0 (by omega)) rfl (x := M 0 0 10) (by simp [zup]) dX10_mean_11 ?_
      refine z_icmp_ge hC 52 dX10_mean_14 (by decide) (by omega) (by omega) (fun c14 => ?_) (fun c14 => ?_)
      · skip
        have he : j = (M 0 0 10).toNat := by omega
        subst he
        refine z_aload_n hC 0 rfl dX10_mean_52 rfl ?_
        refine z_getR hC zfX10_45 (tmM_0 ad tc _) (okM_0 (by omega)) rfl dX10_mean_53 ?_
        refine z_iconst hC dX10_mean_56 ?_
        refine z_callVi hC zlX10_168 (k_X9_many l D tc ad hI (zup M 0 0 0 0) 0 2 (by omega) hW1 (by omega)) (tmM_11 ad tc _) rfl (okM_11 (by omega)) rfl rfl (Nat.le_of_ble_eq_true rfl) ⟨by decide, by decide⟩ ⟨by decide, by decide⟩ dX10_mean_57 ?_
        refine z_if_ne hC 67 dX10_mean_60 (by decide) (by omega) (fun c60 => ?_) (fun c60 => ?_)
        · skip
          refine z_iload_n hC 1 rfl dX10_mean_67 rfl ?_
          refine z_i2d hC dX10_mean_68 ?_
          refine z_aload_n hC 0 rfl dX10_mean_69 rfl ?_
          refine z_getR hC zfX10_45 (tmM_0 ad tc _) (okM_0 (by omega)) rfl dX10_mean_70 ?_
          refine z_iconst hC dX10_mean_73 ?_
          refine z_callVi hC zlX10_168 (k_X9_many l D tc ad hI (zup M 0 0 0 0) 0 2 (by omega) hW1 (by omega)) (tmM_11 ad tc _) rfl (okM_11 (by omega)) rfl rfl (Nat.le_of_ble_eq_true rfl) ⟨by decide, by decide⟩ ⟨by decide, by decide⟩ dX10_mean_74 ?_
          refine z_i2d hC dX10_mean_77 ?_
          refine z_ddiv hC dX10_mean_78 (hF _ _ (zi_ne0 ⟨by omega, by omega⟩)) ?_
          exact z_dret hC hret hlk (by show _ = meanV (meanSM (zup M 0 0 0 0) (M 0 0 10).toNat) (manyM (zup M 0 0 0 0) 0 2); simp only [meanV]; first | exact (if_pos (by omega)).symm | exact (if_neg (by omega)).symm) (by rfl) dX10_mean_79
        · skip
          refine z_dconst0 hC dX10_mean_63 ?_
          refine z_goto hC 79 dX10_mean_64 (by decide) ?_
          exact z_dret hC hret hlk (by show _ = meanV (meanSM (zup M 0 0 0 0) (M 0 0 10).toNat) (manyM (zup M 0 0 0 0) 0 2); simp only [meanV]; first | exact (if_pos (by omega)).symm | exact (if_neg (by omega)).symm) (by rfl) dX10_mean_79
      · skip
        refine z_iload_n hC 1 rfl dX10_mean_17 rfl ?_
        refine z_aload_n hC 0 rfl dX10_mean_18 rfl ?_
        refine z_getR hC zfX10_45 (tmM_0 ad tc _) (okM_0 (by omega)) rfl dX10_mean_19 ?_
        refine z_getRN hC zfX10_98 (tmM_11 ad tc _) (okM_11 (by omega)) rfl dX10_mean_22 ?_
        refine z_iload_n hC 2 rfl dX10_mean_25 rfl ?_
        have hq2 : 0 ≤ M 20 0 j ∧ M 20 0 j ≤ 3 := hW.1 20 0 j
        refine z_iaload hC 0 (j) (tmM_20 ad tc _) (tysM_0 tc) (okM_20 (by omega)) (rfl) (by omega) (by decide) (x := M 20 0 j) (by simp [zup]) dX10_mean_26 ?_
        refine z_iconst hC dX10_mean_27 ?_
        refine z_icmp_ne hC 43 dX10_mean_28 (by decide) (by omega) (by omega) (fun c28 => ?_) (fun c28 => ?_)
        · skip
          refine z_iconst hC dX10_mean_43 ?_
          refine z_iadd hC dX10_mean_44 ?_
          refine z_istore_n hC (L' := [(1, iv ((meanSM (zup M 0 0 0 0) j) + 0)), (0, .ref (ad 0 0)), (2, iv ((j : Nat) : Int))]) dX10_mean_45 rfl (by decide) rfl ?_
          refine z_iinc hC 2 (L' := [(2, iv (((j : Nat) : Int) + 1)), (1, iv ((meanSM (zup M 0 0 0 0) j) + 0)), (0, .ref (ad 0 0))]) dX10_mean_46 rfl (by decide) rfl ?_
          refine z_goto hC 9 dX10_mean_49 (by decide) ?_
          refine z_perm [2, 1, 0] (L' := [(0, .ref (ad 0 0)), (1, iv ((meanSM (zup M 0 0 0 0) j) + 0)), (2, iv (((j : Nat) : Int) + 1))]) rfl ?_
          exact z_conv (ih9 _ (by omega) (j + 1) (by omega) rfl) (by rfl) (by simp only [meanSM, zsum]; rw [zup_fr (show 20 ≠ 0 by decide), zup_fr (show 24 ≠ 0 by decide)]; simp [*]) (by rfl)
        · skip
          refine z_aload_n hC 0 rfl dX10_mean_31 rfl ?_
          refine z_getR hC zfX10_45 (tmM_0 ad tc _) (okM_0 (by omega)) rfl dX10_mean_32 ?_
          refine z_getRN hC zfX10_136 (tmM_11 ad tc _) (okM_11 (by omega)) rfl dX10_mean_35 ?_
          refine z_iload_n hC 2 rfl dX10_mean_38 rfl ?_
          refine z_iaload hC 0 (j) (tmM_24 ad tc _) (tysM_0 tc) (okM_24 (by omega)) (rfl) (by omega) (by decide) (x := M 24 0 j) (by simp [zup]) dX10_mean_39 ?_
          refine z_goto hC 44 dX10_mean_40 (by decide) ?_
          refine z_iadd hC dX10_mean_44 ?_
          refine z_istore_n hC (L' := [(1, iv ((meanSM (zup M 0 0 0 0) j) + (M 24 0 j))), (0, .ref (ad 0 0)), (2, iv ((j : Nat) : Int))]) dX10_mean_45 rfl (by decide) rfl ?_
          refine z_iinc hC 2 (L' := [(2, iv (((j : Nat) : Int) + 1)), (1, iv ((meanSM (zup M 0 0 0 0) j) + (M 24 0 j))), (0, .ref (ad 0 0))]) dX10_mean_46 rfl (by decide) rfl ?_
          refine z_goto hC 9 dX10_mean_49 (by decide) ?_
          refine z_perm [2, 1, 0] (L' := [(0, .ref (ad 0 0)), (1, iv ((meanSM (zup M 0 0 0 0) j) + (M 24 0 j))), (2, iv (((j : Nat) : Int) + 1))]) rfl ?_
          exact z_conv (ih9 _ (by omega) (j + 1) (by omega) rfl) (by rfl) (by simp only [meanSM, zsum]; rw [zup_fr (show 20 ≠ 0 by decide), zup_fr (show 24 ≠ 0 by decide)]; simp [*]) (by rfl)
  refine z_aload_n hC 0 rfl dX10_mean_0 rfl ?_
  refine z_iconst hC dX10_mean_1 ?_
  refine z_put hC zgX10_52 (tmM_0 ad tc _) (okM_0 (by omega)) rfl dX10_mean_2 ?_
  have hW1 : WTM T U (zup M 0 0 0 0) := hW.thr ⟨by omega, by omega⟩
  refine z_iconst hC dX10_mean_5 ?_
  refine z_istore_n hC (L' := [(1, iv 0), (0, .ref (ad 0 0))]) dX10_mean_6 rfl (by decide) rfl ?_
  refine z_iconst hC dX10_mean_7 ?_
  refine z_istore_n hC (L' := [(2, iv 0), (1, iv 0), (0, .ref (ad 0 0))]) dX10_mean_8 rfl (by decide) rfl ?_
  refine z_perm [2, 1, 0] (L' := [(0, .ref (ad 0 0)), (1, iv 0), (2, iv 0)]) rfl ?_
  exact z_conv (hc9 _ 0 (by omega) rfl) (by rfl) (by rfl) (by rfl)
