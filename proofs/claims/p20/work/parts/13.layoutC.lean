set_option maxHeartbeats 4000000 in
set_option maxRecDepth 100000 in
theorem k_X8_within (l : Launch) (D : va_G) (tc : Nat → ClassId) (ad : Nat → Nat → Nat) (hI : zI ad okC) (M : zM) (a lo hi : Int) (ha : -2147483648 ≤ a ∧ a < 2147483648) (hb : -2147483648 ≤ lo ∧ lo < 2147483648) (hc : -2147483648 ≤ hi ∧ hi < 2147483648) : zMi l yX8_within cX8_within 3 (some .boolean) 0 D (tysC tc) ad okC (tmC ad tc) [iv a, iv lo, iv hi] M (if lo ≤ a ∧ a ≤ hi then 1 else 0) M 0 0 := by
  refine z_met hI (plainFor_of_name (by decide)) (Nat.le_of_ble_eq_true rfl) ?_
  intro p e s m args below meth c hC hret hlk
  refine z_conv (L2 := [(0, iv a), (1, iv lo), (2, iv hi)]) ?_ rfl rfl rfl
  refine z_iload_n hC 0 rfl dX8_within_0 rfl ?_
  refine z_iload_n hC 1 rfl dX8_within_1 rfl ?_
  refine z_icmp_lt hC 14 dX8_within_2 (by decide) (by omega) (by omega) (fun c2 => ?_) (fun c2 => ?_)
  · skip
    refine z_iconst hC dX8_within_14 ?_
    exact z_iret hC hret hlk (by decide) (by first | rw [if_pos (by omega)] | rw [if_neg (by omega)]) (by rfl) dX8_within_15
  · skip
    refine z_iload_n hC 0 rfl dX8_within_5 rfl ?_
    refine z_iload_n hC 2 rfl dX8_within_6 rfl ?_
    refine z_icmp_gt hC 14 dX8_within_7 (by decide) (by omega) (by omega) (fun c7 => ?_) (fun c7 => ?_)
    · skip
      refine z_iconst hC dX8_within_14 ?_
      exact z_iret hC hret hlk (by decide) (by first | rw [if_pos (by omega)] | rw [if_neg (by omega)]) (by rfl) dX8_within_15
    · skip
      refine z_iconst hC dX8_within_10 ?_
      refine z_goto hC 15 dX8_within_11 (by decide) ?_
      exact z_iret hC hret hlk (by decide) (by first | rw [if_pos (by omega)] | rw [if_neg (by omega)]) (by rfl) dX8_within_15
set_option maxHeartbeats 4000000 in
set_option maxRecDepth 100000 in
theorem k_X4_linesFrom (l : Launch) (D : va_G) (tc : Nat → ClassId) (ad : Nat → Nat → Nat) (hI : zI ad okC) (M : zM) (i : Nat) (q : Int) (hi : i < 13) (hq : -2147483648 ≤ q ∧ q < 2147483648) : zMi l yX4_linesFrom cX4_linesFrom 2 (some .int) 1 D (tysC tc) ad okC (tmC ad tc) [.ref (ad 9 i), iv q] M (linesFromC M i q) M 0 0 := by
  refine z_met hI (plainFor_of_name (by decide)) (Nat.le_of_ble_eq_true rfl) ?_
  intro p e s m args below meth c hC hret hlk
  refine z_conv (L2 := [(0, .ref (ad 9 i)), (1, iv q)]) ?_ rfl rfl rfl
  refine z_iload_n hC 1 rfl dX4_linesFrom_0 rfl ?_
  refine z_iconst hC dX4_linesFrom_1 ?_
  refine z_bipush hC dX4_linesFrom_2 (by decide) ?_
  refine z_callSiN hC zlX4_39 (k_X8_within l D tc ad hI M q 0 7 (by omega) (by omega) (by omega)) rfl rfl (Nat.le_of_ble_eq_true rfl) ⟨by decide, by decide⟩ ⟨by decide, by decide⟩ dX4_linesFrom_4 ?_
  refine z_if_eq_b hC 19 dX4_linesFrom_7 (by decide) (fun c7 => ?_) (fun c7 => ?_)
  · skip
    refine z_iconst hC dX4_linesFrom_19 ?_
    exact z_iret hC hret hlk rfl (by simp only [linesFromC]; first | rw [if_pos (by omega)] | rw [if_neg (by omega)]) (by rfl) dX4_linesFrom_20
  · skip
    refine z_aload_n hC 0 rfl dX4_linesFrom_10 rfl ?_
    refine z_getR hC zfX4_9 (tmC_9 ad tc _) (okC_9 (by omega)) rfl dX4_linesFrom_11 ?_
    refine z_iload_n hC 1 rfl dX4_linesFrom_14 rfl ?_
    refine z_iaload hC 0 ((q).toNat) (tmC_10 ad tc _) (tysC_0 tc) (okC_10 (by omega)) (by omega) (by omega) (by decide) (x := M 10 i ((q).toNat)) (rfl) dX4_linesFrom_15 ?_
    refine z_goto hC 20 dX4_linesFrom_16 (by decide) ?_
    exact z_iret hC hret hlk rfl (by simp only [linesFromC]; first | rw [if_pos (by omega)] | rw [if_neg (by omega)]) (by rfl) dX4_linesFrom_20
set_option maxHeartbeats 4000000 in
set_option maxRecDepth 100000 in
theorem k_X4_firstFrom (l : Launch) (D : va_G) (tc : Nat → ClassId) (ad : Nat → Nat → Nat) (hI : zI ad okC) (M : zM) (i : Nat) (q : Int) (hi : i < 13) (hq : -2147483648 ≤ q ∧ q < 2147483648) : zMi l yX4_firstFrom cX4_firstFrom 2 (some .int) 1 D (tysC tc) ad okC (tmC ad tc) [.ref (ad 9 i), iv q] M (firstFromC M i q) M 0 0 := by
  refine z_met hI (plainFor_of_name (by decide)) (Nat.le_of_ble_eq_true rfl) ?_
  intro p e s m args below meth c hC hret hlk
  refine z_conv (L2 := [(0, .ref (ad 9 i)), (1, iv q)]) ?_ rfl rfl rfl
  refine z_iload_n hC 1 rfl dX4_firstFrom_0 rfl ?_
  refine z_iconst hC dX4_firstFrom_1 ?_
  refine z_bipush hC dX4_firstFrom_2 (by decide) ?_
  refine z_callSiN hC zlX4_39 (k_X8_within l D tc ad hI M q 0 7 (by omega) (by omega) (by omega)) rfl rfl (Nat.le_of_ble_eq_true rfl) ⟨by decide, by decide⟩ ⟨by decide, by decide⟩ dX4_firstFrom_4 ?_
  refine z_if_eq_b hC 19 dX4_firstFrom_7 (by decide) (fun c7 => ?_) (fun c7 => ?_)
  · skip
    refine z_iconst hC dX4_firstFrom_19 ?_
    exact z_iret hC hret hlk rfl (by simp only [firstFromC]; first | rw [if_pos (by omega)] | rw [if_neg (by omega)]) (by rfl) dX4_firstFrom_20
  · skip
    refine z_aload_n hC 0 rfl dX4_firstFrom_10 rfl ?_
    refine z_getR hC zfX4_15 (tmC_9 ad tc _) (okC_9 (by omega)) rfl dX4_firstFrom_11 ?_
    refine z_iload_n hC 1 rfl dX4_firstFrom_14 rfl ?_
    refine z_iaload hC 0 ((q).toNat) (tmC_11 ad tc _) (tysC_0 tc) (okC_11 (by omega)) (by omega) (by omega) (by decide) (x := M 11 i ((q).toNat)) (rfl) dX4_firstFrom_15 ?_
    refine z_goto hC 20 dX4_firstFrom_16 (by decide) ?_
    exact z_iret hC hret hlk rfl (by simp only [firstFromC]; first | rw [if_pos (by omega)] | rw [if_neg (by omega)]) (by rfl) dX4_firstFrom_20
set_option maxHeartbeats 4000000 in
set_option maxRecDepth 100000 in
theorem k_X4_extend (l : Launch) (D : va_G) (tc : Nat → ClassId) (ad : Nat → Nat → Nat) (hI : zI ad okC) (M : zM) {T U : Int} (i : Nat) (ln : Nat) (n far w : Int) (hi : i < 13) (hln : ln < 12) (hW : WTC T U M) (hn : -2147483648 ≤ n ∧ n < 2147483648) (hf : -1000 ≤ far ∧ far ≤ 1000) (hw : -2147483648 ≤ w ∧ w < 2147483648) : zMv l yX4_extend cX4_extend 6 none 2 D (tysC tc) ad okC (tmC ad tc) [.ref (ad 9 i), .ref (ad 7 ln), iv n, iv far, iv w] M (extendC M i ln n far w) 0 0 := by
  refine z_met hI (plainFor_of_name (by decide)) (Nat.le_of_ble_eq_true rfl) ?_
  intro p e s m args below meth c hC hret hlk
  refine z_conv (L2 := [(0, .ref (ad 9 i)), (1, .ref (ad 7 ln)), (2, iv n), (3, iv far), (4, iv w)]) ?_ rfl rfl rfl
  refine z_aload_n hC 1 rfl dX4_extend_0 rfl ?_
  have hq1 : 0 ≤ M 7 ln 0 ∧ M 7 ln 0 ≤ 7 := hW.1 7 ln 0
  refine z_getI hC zfX4_34 (tmC_7 ad tc _) (okC_7 (by omega)) rfl (x := M 7 ln 0) (rfl) dX4_extend_1 ?_
  refine z_istore hC (L' := [(5, iv (M 7 ln 0)), (0, .ref (ad 9 i)), (1, .ref (ad 7 ln)), (2, iv n), (3, iv far), (4, iv w)]) dX4_extend_4 (by decide) rfl ?_
  refine z_iload hC 0 rfl dX4_extend_6 ?_
  refine z_iconst hC dX4_extend_8 ?_
  refine z_bipush hC dX4_extend_9 (by decide) ?_
  refine z_callSiN hC zlX4_39 (k_X8_within l D tc ad hI M (M 7 ln 0) 0 7 (by omega) (by omega) (by omega)) rfl rfl (Nat.le_of_ble_eq_true rfl) ⟨by decide, by decide⟩ ⟨by decide, by decide⟩ dX4_extend_11 ?_
  refine z_if_eq_b hC 28 dX4_extend_14 (by decide) (fun c14 => ?_) (fun c14 => ?_)
  · skip
    exact z_vret hC hret hlk (by first | (exfalso; omega) | (simp only [extendC]; simp only [*, and_self, if_true, if_false, ne_eq, not_true_eq_false, not_false_eq_true]; done)) dX4_extend_28
  · skip
    refine z_aload_n hC 1 rfl dX4_extend_17 rfl ?_
    refine z_getR hC zfX4_9 (tmC_9 ad tc _) (okC_9 (by omega)) rfl dX4_extend_18 ?_
    refine z_iload hC 0 rfl dX4_extend_21 ?_
    have hq2 : -1 ≤ M 10 i ((M 7 ln 0).toNat) ∧ M 10 i ((M 7 ln 0).toNat) ≤ 8 := hW.1 10 i ((M 7 ln 0).toNat)
    refine z_iaload hC 0 ((M 7 ln 0).toNat) (tmC_10 ad tc _) (tysC_0 tc) (okC_10 (by omega)) (by omega) (by omega) (by decide) (x := M 10 i ((M 7 ln 0).toNat)) (rfl) dX4_extend_23 ?_
    refine z_iconst hC dX4_extend_24 ?_
    refine z_icmp_eq hC 29 dX4_extend_25 (by decide) (by omega) (by omega) (fun c25 => ?_) (fun c25 => ?_)
    · skip
      refine z_aload_n hC 2 rfl dX4_extend_29 rfl ?_
      refine z_iload hC 5 rfl dX4_extend_30 ?_
      refine z_callVi hC zlX4_43 (k_X1_carries l D tc ad hI M ln w (by omega) (by omega) (by have z0 : 0 ≤ M 7 ln 2 ∧ M 7 ln 2 ≤ 150 := hW.1 7 ln 2; have z1 : 0 ≤ M 7 ln 2 ∧ M 7 ln 2 ≤ 150 := hW.1 7 ln 2; omega)) (tmC_7 ad tc _) rfl (okC_7 (by omega)) rfl rfl (Nat.le_of_ble_eq_true rfl) ⟨by decide, by decide⟩ ⟨by decide, by decide⟩ dX4_extend_32 ?_
      refine z_if_eq_b hC 68 dX4_extend_35 (by decide) (fun c35 => ?_) (fun c35 => ?_)
      · skip
        exact z_vret hC hret hlk (by first | (exfalso; omega) | (simp only [extendC]; simp only [*, and_self, if_true, if_false, ne_eq, not_true_eq_false, not_false_eq_true]; done)) dX4_extend_68
      · skip
        refine z_aload_n hC 1 rfl dX4_extend_38 rfl ?_
        refine z_aload_n hC 2 rfl dX4_extend_39 rfl ?_
        have hq3 : 0 ≤ M 7 ln 1 ∧ M 7 ln 1 ≤ 7 := hW.1 7 ln 1
        refine z_getI hC zfX4_47 (tmC_7 ad tc _) (okC_7 (by omega)) rfl (x := M 7 ln 1) (rfl) dX4_extend_40 ?_
        refine z_callVi hC zlX4_50 (k_X4_linesFrom l D tc ad hI M i (M 7 ln 1) (by omega) (by omega)) (tmC_9 ad tc _) rfl (okC_9 (by omega)) rfl rfl (Nat.le_of_ble_eq_true rfl) ⟨by decide, by decide⟩ ⟨by decide, by decide⟩ dX4_extend_43 ?_
        have hlf := linesFromC_bd hW i (M 7 ln 1)
        refine z_iload_n hC 4 rfl dX4_extend_46 rfl ?_
        refine z_iconst hC dX4_extend_47 ?_
        refine z_isub hC dX4_extend_48 ?_
        refine z_icmp_ne hC 68 dX4_extend_49 (by decide) (by omega) (by omega) (fun c49 => ?_) (fun c49 => ?_)
        · skip
          exact z_vret hC hret hlk (by first | (exfalso; omega) | (simp only [extendC]; simp only [*, and_self, if_true, if_false, ne_eq, not_true_eq_false, not_false_eq_true]; done)) dX4_extend_68
        · skip
          refine z_aload_n hC 1 rfl dX4_extend_52 rfl ?_
          refine z_getR hC zfX4_9 (tmC_9 ad tc _) (okC_9 (by omega)) rfl dX4_extend_53 ?_
          refine z_iload hC 0 rfl dX4_extend_56 ?_
          refine z_iload_n hC 4 rfl dX4_extend_58 rfl ?_
          refine z_iastore hC 0 ((M 7 ln 0).toNat) (tmC_10 ad tc _) (tysC_0 tc) (okC_10 (by omega)) (by omega) (by omega) (by decide) dX4_extend_59 ?_
          refine z_aload_n hC 1 rfl dX4_extend_60 rfl ?_
          refine z_getR hC zfX4_15 (tmC_9 ad tc _) (okC_9 (by omega)) rfl dX4_extend_61 ?_
          refine z_iload hC 0 rfl dX4_extend_64 ?_
          refine z_iload_n hC 3 rfl dX4_extend_66 rfl ?_
          refine z_iastore hC 0 ((M 7 ln 0).toNat) (tmC_11 ad tc _) (tysC_0 tc) (okC_11 (by omega)) (by omega) (by omega) (by decide) dX4_extend_67 ?_
          exact z_vret hC hret hlk (by first | (exfalso; omega) | (simp only [extendC]; simp only [*, and_self, if_true, if_false, ne_eq, not_true_eq_false, not_false_eq_true]; done)) dX4_extend_68
    · skip
      exact z_vret hC hret hlk (by first | (exfalso; omega) | (simp only [extendC]; simp only [*, and_self, if_true, if_false, ne_eq, not_true_eq_false, not_false_eq_true]; done)) dX4_extend_28
set_option maxHeartbeats 4000000 in
set_option maxRecDepth 100000 in
theorem k_X4_plan (l : Launch) (D : va_G) (tc : Nat → ClassId) (ad : Nat → Nat → Nat) (hI : zI ad okC) (M : zM) {T U : Int} (i : Nat) (g w : Int) (hi : i < 13) (hW : WTC T U M) (hg : -2147483648 ≤ g ∧ g < 2147483648) (hw : -2147483648 ≤ w ∧ w < 2147483648) : zMv l yX4_plan cX4_plan 6 none 3 D (tysC tc) ad okC (tmC ad tc) [.ref (ad 9 i), .ref (ad 1 0), iv g, iv w] M (planC M i g w) 0 0 := by
  have hpc : 0 ≤ M 1 0 4 ∧ M 1 0 4 ≤ 8 := hW.1 1 0 4
  have hlc : 0 ≤ M 1 0 5 ∧ M 1 0 5 ≤ 12 := hW.1 1 0 5
  refine z_met hI (plainFor_of_name (by decide)) (Nat.le_of_ble_eq_true rfl) ?_
  intro p e s m args below meth c hC hret hlk
  refine z_conv (L2 := [(0, .ref (ad 9 i)), (1, .ref (ad 1 0)), (2, iv g), (3, iv w)]) ?_ rfl rfl rfl
  have hc45 : ∀ (d45 : Nat) (k : Nat) (hk : k ≤ ((M 1 0 4) - 1).toNat), ((M 1 0 4) - 1).toNat - k = d45 → zV p l e (zrm 3 0 0) s m args below meth c (MQ below (zQv D ad okC (tmC ad tc) (planC M i g w) (zA ad okC s.heap.size)) args s 0 0 (zA ad okC s.heap.size)) D ad okC (tmC ad tc) (zA ad okC s.heap.size) s.heap 6 0 0 (planF (planI M i g 8) i w (M 1 0 5).toNat k) [(0, .ref (ad 9 i)), (1, .ref (ad 1 0)), (2, iv g), (3, iv w), (4, iv ((k : Int) + 1))] 45 [] := by
    intro d45
    induction d45 using Nat.strongRecOn with
    | _ d45 ih45 =>
      intro k hk hd45
      have hWk : WTC T U (planF (planI M i g 8) i w (M 1 0 5).toNat k) := planF_wt (planI_wt hW) (by omega) (by omega)
      have hc57 : ∀ (d57 : Nat) (j : Nat) (hj : j ≤ (M 1 0 5).toNat) (hk2 : (k : Int) + 1 < M 1 0 4), (M 1 0 5).toNat - j = d57 → zV p l e (zrm 3 0 0) s m args below meth c (MQ below (zQv D ad okC (tmC ad tc) (planC M i g w) (zA ad okC s.heap.size)) args s 0 0 (zA ad okC s.heap.size)) D ad okC (tmC ad tc) (zA ad okC s.heap.size) s.heap 6 0 0 (planL (planF (planI M i g 8) i w (M 1 0 5).toNat k) i ((k : Int) + 1) w j) [(0, .ref (ad 9 i)), (1, .ref (ad 1 0)), (2, iv g), (3, iv w), (4, iv ((k : Int) + 1)), (5, iv ((j : Nat) : Int))] 57 [] := by
        intro d57
        induction d57 using Nat.strongRecOn with
        | _ d57 ih57 =>
          intro j hj hk2 hd57
          have hWk : WTC T U (planL (planF (planI M i g 8) i w (M 1 0 5).toNat k) i ((k : Int) + 1) w j) := planL_wt (planF_wt (planI_wt hW) (by omega) (by omega)) ⟨by omega, by omega⟩ (by omega)
          refine z_iload hC 5 rfl dX4_plan_57 ?_
          refine z_aload_n hC 1 rfl dX4_plan_59 rfl ?_
          have hq1 : 0 ≤ M 1 0 5 ∧ M 1 0 5 ≤ 12 := hW.1 1 0 5
          refine z_getI hC zfX4_24 (tmC_1 ad tc _) (okC_1 (by omega)) rfl (x := M 1 0 5) (by simp [zup, planL_fr (f := 1) (by decide), planF_fr (f := 1) (by decide), planI_fr (f := 1) (by decide)]) dX4_plan_60 ?_
          refine z_icmp_ge hC 88 dX4_plan_63 (by decide) (by omega) (by omega) (fun c63 => ?_) (fun c63 => ?_)
          · skip
            have he : j = (M 1 0 5).toNat := by omega
            subst he
            refine z_iinc hC 4 (L' := [(4, iv ((k : Int) + 1 + 1)), (0, .ref (ad 9 i)), (1, .ref (ad 1 0)), (2, iv g), (3, iv w), (5, iv ((((M 1 0 5).toNat) : Nat) : Int))]) dX4_plan_88 rfl (by decide) rfl ?_
            refine z_goto hC 45 dX4_plan_91 (by decide) ?_
            refine z_perm [1, 2, 3, 4, 0] (L' := [(0, .ref (ad 9 i)), (1, .ref (ad 1 0)), (2, iv g), (3, iv w), (4, iv ((k : Int) + 1 + 1))]) rfl ?_
            exact z_conv (ih45 _ (by omega) (k + 1) (by omega) rfl) (by rfl) (by rfl) (by rfl)
          · skip
            refine z_aload_n hC 0 rfl dX4_plan_66 rfl ?_
            refine z_aload_n hC 1 rfl dX4_plan_67 rfl ?_
            refine z_getR hC zfX4_27 (tmC_1 ad tc _) (okC_1 (by omega)) rfl dX4_plan_68 ?_
            refine z_iload hC 5 rfl dX4_plan_71 ?_
            refine z_aaload hC 2 (j) (ad 7 (j)) (tmC_3 ad tc _) (tysC_2 tc) (okC_3 (by omega)) (rfl) (by omega) (by decide) rfl dX4_plan_73 ?_
            refine z_iload hC 5 rfl dX4_plan_74 ?_
            refine z_iload hC 4 rfl dX4_plan_76 ?_
            refine z_iload_n hC 3 rfl dX4_plan_78 rfl ?_
            refine z_callVv hC zlX4_30 (k_X4_extend l D tc ad hI (planL (planF (planI M i g 8) i w (M 1 0 5).toNat k) i ((k : Int) + 1) w j) i j ((j : Nat) : Int) ((k : Int) + 1) w (by omega) (by omega) hWk (by omega) (by omega) (by omega)) (tmC_9 ad tc _) rfl (okC_9 (by omega)) rfl rfl (Nat.le_of_ble_eq_true rfl) ⟨by decide, by decide⟩ ⟨by decide, by decide⟩ dX4_plan_79 ?_
            refine z_iinc hC 5 (L' := [(5, iv (((j : Nat) : Int) + 1)), (0, .ref (ad 9 i)), (1, .ref (ad 1 0)), (2, iv g), (3, iv w), (4, iv ((k : Int) + 1))]) dX4_plan_82 rfl (by decide) rfl ?_
            refine z_goto hC 57 dX4_plan_85 (by decide) ?_
            refine z_perm [1, 2, 3, 4, 5, 0] (L' := [(0, .ref (ad 9 i)), (1, .ref (ad 1 0)), (2, iv g), (3, iv w), (4, iv ((k : Int) + 1)), (5, iv (((j : Nat) : Int) + 1))]) rfl ?_
            exact z_conv (ih57 _ (by omega) (j + 1) (by omega) (by omega) rfl) (by rfl) (by rfl) (by rfl)
      refine z_iload hC 4 rfl dX4_plan_45 ?_
      refine z_aload_n hC 1 rfl dX4_plan_47 rfl ?_
      have hq2 : 0 ≤ M 1 0 4 ∧ M 1 0 4 ≤ 8 := hW.1 1 0 4
      refine z_getI hC zfX4_18 (tmC_1 ad tc _) (okC_1 (by omega)) rfl (x := M 1 0 4) (by simp [zup, planF_fr (f := 1) (by decide), planI_fr (f := 1) (by decide)]) dX4_plan_48 ?_
      refine z_icmp_ge hC 94 dX4_plan_51 (by decide) (by omega) (by omega) (fun c51 => ?_) (fun c51 => ?_)
      · skip
        have he : k = ((M 1 0 4) - 1).toNat := by omega
        subst he
        exact z_vret hC hret hlk (by rfl) dX4_plan_94
      · skip
        refine z_iconst hC dX4_plan_54 ?_
        refine z_istore hC (L' := [(5, iv 0), (0, .ref (ad 9 i)), (1, .ref (ad 1 0)), (2, iv g), (3, iv w), (4, iv ((k : Int) + 1))]) dX4_plan_55 (by decide) rfl ?_
        refine z_perm [1, 2, 3, 4, 5, 0] (L' := [(0, .ref (ad 9 i)), (1, .ref (ad 1 0)), (2, iv g), (3, iv w), (4, iv ((k : Int) + 1)), (5, iv 0)]) rfl ?_
        exact z_conv (hc57 _ 0 (by omega) (by omega) rfl) (by rfl) (by rfl) (by rfl)
  have hc3 : ∀ (d3 : Nat) (j : Nat) (hj : j ≤ 8), 8 - j = d3 → zV p l e (zrm 3 0 0) s m args below meth c (MQ below (zQv D ad okC (tmC ad tc) (planC M i g w) (zA ad okC s.heap.size)) args s 0 0 (zA ad okC s.heap.size)) D ad okC (tmC ad tc) (zA ad okC s.heap.size) s.heap 6 0 0 (planI M i g j) [(0, .ref (ad 9 i)), (1, .ref (ad 1 0)), (2, iv g), (3, iv w), (4, iv ((j : Nat) : Int))] 3 [] := by
    intro d3
    induction d3 using Nat.strongRecOn with
    | _ d3 ih3 =>
      intro j hj hd3
      refine z_iload hC 4 rfl dX4_plan_3 ?_
      refine z_bipush hC dX4_plan_5 (by decide) ?_
      refine z_icmp_ge hC 42 dX4_plan_7 (by decide) (by omega) (by omega) (fun c7 => ?_) (fun c7 => ?_)
      · skip
        have he : j = 8 := by omega
        subst he
        refine z_iconst hC dX4_plan_42 ?_
        refine z_istore hC (L' := [(4, iv 1), (0, .ref (ad 9 i)), (1, .ref (ad 1 0)), (2, iv g), (3, iv w)]) dX4_plan_43 (by decide) rfl ?_
        refine z_perm [1, 2, 3, 4, 0] (L' := [(0, .ref (ad 9 i)), (1, .ref (ad 1 0)), (2, iv g), (3, iv w), (4, iv 1)]) rfl ?_
        exact z_conv (hc45 _ 0 (by omega) rfl) (by rfl) (by rfl) (by rfl)
      · skip
        refine z_aload_n hC 0 rfl dX4_plan_10 rfl ?_
        refine z_getR hC zfX4_9 (tmC_9 ad tc _) (okC_9 (by omega)) rfl dX4_plan_11 ?_
        refine z_iload hC 4 rfl dX4_plan_14 ?_
        refine z_iload hC 4 rfl dX4_plan_16 ?_
        refine z_iload_n hC 2 rfl dX4_plan_18 rfl ?_
        refine z_icmp_ne hC 26 dX4_plan_19 (by decide) (by omega) (by omega) (fun c19 => ?_) (fun c19 => ?_)
        · skip
          refine z_iconst hC dX4_plan_26 ?_
          refine z_iastore hC 0 (j) (tmC_10 ad tc _) (tysC_0 tc) (okC_10 (by omega)) (rfl) (by omega) (by decide) dX4_plan_27 ?_
          refine z_aload_n hC 0 rfl dX4_plan_28 rfl ?_
          refine z_getR hC zfX4_15 (tmC_9 ad tc _) (okC_9 (by omega)) rfl dX4_plan_29 ?_
          refine z_iload hC 4 rfl dX4_plan_32 ?_
          refine z_iconst hC dX4_plan_34 ?_
          refine z_iastore hC 0 (j) (tmC_11 ad tc _) (tysC_0 tc) (okC_11 (by omega)) (rfl) (by omega) (by decide) dX4_plan_35 ?_
          refine z_iinc hC 4 (L' := [(4, iv (((j : Nat) : Int) + 1)), (0, .ref (ad 9 i)), (1, .ref (ad 1 0)), (2, iv g), (3, iv w)]) dX4_plan_36 rfl (by decide) rfl ?_
          refine z_goto hC 3 dX4_plan_39 (by decide) ?_
          refine z_perm [1, 2, 3, 4, 0] (L' := [(0, .ref (ad 9 i)), (1, .ref (ad 1 0)), (2, iv g), (3, iv w), (4, iv (((j : Nat) : Int) + 1))]) rfl ?_
          exact z_conv (ih3 _ (by omega) (j + 1) (by omega) rfl) (by first | exact (congrArg (fun x => zup (zup (planI M i g j) 10 i j x) 11 i j (-1)) (if_pos (by assumption)).symm) | exact (congrArg (fun x => zup (zup (planI M i g j) 10 i j x) 11 i j (-1)) (if_neg (by assumption)).symm)) (by rfl) (by rfl)
        · skip
          refine z_iconst hC dX4_plan_22 ?_
          refine z_goto hC 27 dX4_plan_23 (by decide) ?_
          refine z_iastore hC 0 (j) (tmC_10 ad tc _) (tysC_0 tc) (okC_10 (by omega)) (rfl) (by omega) (by decide) dX4_plan_27 ?_
          refine z_aload_n hC 0 rfl dX4_plan_28 rfl ?_
          refine z_getR hC zfX4_15 (tmC_9 ad tc _) (okC_9 (by omega)) rfl dX4_plan_29 ?_
          refine z_iload hC 4 rfl dX4_plan_32 ?_
          refine z_iconst hC dX4_plan_34 ?_
          refine z_iastore hC 0 (j) (tmC_11 ad tc _) (tysC_0 tc) (okC_11 (by omega)) (rfl) (by omega) (by decide) dX4_plan_35 ?_
          refine z_iinc hC 4 (L' := [(4, iv (((j : Nat) : Int) + 1)), (0, .ref (ad 9 i)), (1, .ref (ad 1 0)), (2, iv g), (3, iv w)]) dX4_plan_36 rfl (by decide) rfl ?_
          refine z_goto hC 3 dX4_plan_39 (by decide) ?_
          refine z_perm [1, 2, 3, 4, 0] (L' := [(0, .ref (ad 9 i)), (1, .ref (ad 1 0)), (2, iv g), (3, iv w), (4, iv (((j : Nat) : Int) + 1))]) rfl ?_
          exact z_conv (ih3 _ (by omega) (j + 1) (by omega) rfl) (by first | exact (congrArg (fun x => zup (zup (planI M i g j) 10 i j x) 11 i j (-1)) (if_pos (by assumption)).symm) | exact (congrArg (fun x => zup (zup (planI M i g j) 10 i j x) 11 i j (-1)) (if_neg (by assumption)).symm)) (by rfl) (by rfl)
  refine z_iconst hC dX4_plan_0 ?_
  refine z_istore hC (L' := [(4, iv 0), (0, .ref (ad 9 i)), (1, .ref (ad 1 0)), (2, iv g), (3, iv w)]) dX4_plan_1 (by decide) rfl ?_
  refine z_perm [1, 2, 3, 4, 0] (L' := [(0, .ref (ad 9 i)), (1, .ref (ad 1 0)), (2, iv g), (3, iv w), (4, iv 0)]) rfl ?_
  exact z_conv (hc3 _ 0 (by omega) rfl) (by rfl) (by rfl) (by rfl)
set_option maxHeartbeats 4000000 in
set_option maxRecDepth 100000 in
theorem k_X3_planRoute (l : Launch) (D : va_G) (tc : Nat → ClassId) (ad : Nat → Nat → Nat) (hI : zI ad okC) (M : zM) {T U : Int} (i : Nat) (hi : i < 12) (hW : WTC T U M) : zMv l yX3_planRoute cX3_planRoute 2 none 4 D (tysC tc) ad okC (tmC ad tc) [.ref (ad 8 i), .ref (ad 1 0)] M (planC M i (M 8 i 1) (M 8 i 2)) 0 0 := by
  refine z_met hI (plainFor_of_name (by decide)) (Nat.le_of_ble_eq_true rfl) ?_
  intro p e s m args below meth c hC hret hlk
  refine z_conv (L2 := [(0, .ref (ad 8 i)), (1, .ref (ad 1 0))]) ?_ rfl rfl rfl
  refine z_aload_n hC 0 rfl dX3_planRoute_0 rfl ?_
  refine z_getR hC zfX3_10 (tmC_8 ad tc _) (okC_8 (by omega)) rfl dX3_planRoute_1 ?_
  refine z_aload_n hC 1 rfl dX3_planRoute_4 rfl ?_
  refine z_aload_n hC 0 rfl dX3_planRoute_5 rfl ?_
  have hq1 : 0 ≤ M 8 i 1 ∧ M 8 i 1 ≤ 7 := hW.1 8 i 1
  refine z_getI hC zfX3_16 (tmC_8 ad tc _) (okC_8 (by omega)) rfl (x := M 8 i 1) (rfl) dX3_planRoute_6 ?_
  refine z_aload_n hC 0 rfl dX3_planRoute_9 rfl ?_
  have hq2 : 0 ≤ M 8 i 2 ∧ M 8 i 2 ≤ 120 := hW.1 8 i 2
  refine z_getI hC zfX3_20 (tmC_8 ad tc _) (okC_8 (by omega)) rfl (x := M 8 i 2) (rfl) dX3_planRoute_10 ?_
  refine z_callVv hC zlX3_23 (k_X4_plan l D tc ad hI M i (M 8 i 1) (M 8 i 2) (by omega) hW (by omega) (by omega)) (tmC_9 ad tc _) rfl (okC_9 (by omega)) rfl rfl (Nat.le_of_ble_eq_true rfl) ⟨by decide, by decide⟩ ⟨by decide, by decide⟩ dX3_planRoute_13 ?_
  exact z_vret hC hret hlk (by rfl) dX3_planRoute_16
set_option maxHeartbeats 4000000 in
set_option maxRecDepth 100000 in
theorem k_X0_hasPlatformAt (l : Launch) (D : va_G) (tc : Nat → ClassId) (ad : Nat → Nat → Nat) (hI : zI ad okC) (M : zM) {T U : Int} (x y : Int) (hW : WTC T U M) (hx : -2147483648 ≤ x ∧ x < 2147483648) (hy : -2147483648 ≤ y ∧ y < 2147483648) : zMi l yX0_hasPlatformAt cX0_hasPlatformAt 4 (some .boolean) 0 D (tysC tc) ad okC (tmC ad tc) [.ref (ad 1 0), iv x, iv y] M (if zcnt (fun j => M 6 j 0 = x ∧ M 6 j 1 = y) (M 1 0 4).toNat ≠ 0 then 1 else 0) M 0 0 := by
  have hpc : 0 ≤ M 1 0 4 ∧ M 1 0 4 ≤ 8 := hW.1 1 0 4
  refine z_met hI (plainFor_of_name (by decide)) (Nat.le_of_ble_eq_true rfl) ?_
  intro p e s m args below meth c hC hret hlk
  refine z_conv (L2 := [(0, .ref (ad 1 0)), (1, iv x), (2, iv y)]) ?_ rfl rfl rfl
  have hc2 : ∀ (d2 : Nat) (j : Nat) (hj : j ≤ (M 1 0 4).toNat) (hz : zcnt (fun j => M 6 j 0 = x ∧ M 6 j 1 = y) j = 0), (M 1 0 4).toNat - j = d2 → zV p l e (zrm 0 0 0) s m args below meth c (MQ below (zQi D ad okC (tmC ad tc) (if zcnt (fun j => M 6 j 0 = x ∧ M 6 j 1 = y) (M 1 0 4).toNat ≠ 0 then 1 else 0) M (zA ad okC s.heap.size)) args s 0 0 (zA ad okC s.heap.size)) D ad okC (tmC ad tc) (zA ad okC s.heap.size) s.heap 4 0 0 M [(0, .ref (ad 1 0)), (1, iv x), (2, iv y), (3, iv ((j : Nat) : Int))] 2 [] := by
    intro d2
    induction d2 using Nat.strongRecOn with
    | _ d2 ih2 =>
      intro j hj hz hd2
      refine z_iload_n hC 3 rfl dX0_hasPlatformAt_2 rfl ?_
      refine z_aload_n hC 0 rfl dX0_hasPlatformAt_3 rfl ?_
      have hq1 : 0 ≤ M 1 0 4 ∧ M 1 0 4 ≤ 8 := hW.1 1 0 4
      refine z_getI hC zfX0_36 (tmC_1 ad tc _) (okC_1 (by omega)) rfl (x := M 1 0 4) (rfl) dX0_hasPlatformAt_4 ?_
      refine z_icmp_ge hC 44 dX0_hasPlatformAt_7 (by decide) (by omega) (by omega) (fun c7 => ?_) (fun c7 => ?_)
      · skip
        have he : j = (M 1 0 4).toNat := by omega
        subst he
        refine z_iconst hC dX0_hasPlatformAt_44 ?_
        exact z_iret hC hret hlk (by decide) (by first | (rw [if_neg (by omega)]; done) | (have h1 := zcnt_mono (fun j => M 6 j 0 = x ∧ M 6 j 1 = y) (show j + 1 ≤ (M 1 0 4).toNat by omega); simp only [zcnt] at h1; rw [if_pos (show _ ∧ _ from ⟨by omega, by omega⟩)] at h1; rw [if_pos (by omega)])) (by rfl) dX0_hasPlatformAt_45
      · skip
        refine z_aload_n hC 0 rfl dX0_hasPlatformAt_10 rfl ?_
        refine z_getR hC zfX0_11 (tmC_1 ad tc _) (okC_1 (by omega)) rfl dX0_hasPlatformAt_11 ?_
        refine z_iload_n hC 3 rfl dX0_hasPlatformAt_14 rfl ?_
        refine z_aaload hC 1 (j) (ad 6 (j)) (tmC_2 ad tc _) (tysC_1 tc) (okC_2 (by omega)) (rfl) (by omega) (by decide) rfl dX0_hasPlatformAt_15 ?_
        have hq2 : 0 ≤ M 6 j 0 ∧ M 6 j 0 ≤ 40 := hW.1 6 j 0
        refine z_getI hC zfX0_40 (tmC_6 ad tc _) (okC_6 (by omega)) rfl (x := M 6 j 0) (rfl) dX0_hasPlatformAt_16 ?_
        refine z_iload_n hC 1 rfl dX0_hasPlatformAt_19 rfl ?_
        refine z_icmp_ne hC 38 dX0_hasPlatformAt_20 (by decide) (by omega) (by omega) (fun c20 => ?_) (fun c20 => ?_)
        · skip
          refine z_iinc hC 3 (L' := [(3, iv (((j : Nat) : Int) + 1)), (0, .ref (ad 1 0)), (1, iv x), (2, iv y)]) dX0_hasPlatformAt_38 rfl (by decide) rfl ?_
          refine z_goto hC 2 dX0_hasPlatformAt_41 (by decide) ?_
          refine z_perm [1, 2, 3, 0] (L' := [(0, .ref (ad 1 0)), (1, iv x), (2, iv y), (3, iv (((j : Nat) : Int) + 1))]) rfl ?_
          exact z_conv (ih2 _ (by omega) (j + 1) (by omega) (by simp only [zcnt, hz]; rw [if_neg (by omega)]; rfl) rfl) (by rfl) (by rfl) (by rfl)
        · skip
          refine z_aload_n hC 0 rfl dX0_hasPlatformAt_23 rfl ?_
          refine z_getR hC zfX0_11 (tmC_1 ad tc _) (okC_1 (by omega)) rfl dX0_hasPlatformAt_24 ?_
          refine z_iload_n hC 3 rfl dX0_hasPlatformAt_27 rfl ?_
          refine z_aaload hC 1 (j) (ad 6 (j)) (tmC_2 ad tc _) (tysC_1 tc) (okC_2 (by omega)) (rfl) (by omega) (by decide) rfl dX0_hasPlatformAt_28 ?_
          have hq3 : 0 ≤ M 6 j 1 ∧ M 6 j 1 ≤ 40 := hW.1 6 j 1
          refine z_getI hC zfX0_43 (tmC_6 ad tc _) (okC_6 (by omega)) rfl (x := M 6 j 1) (rfl) dX0_hasPlatformAt_29 ?_
          refine z_iload_n hC 2 rfl dX0_hasPlatformAt_32 rfl ?_
          refine z_icmp_ne hC 38 dX0_hasPlatformAt_33 (by decide) (by omega) (by omega) (fun c33 => ?_) (fun c33 => ?_)
          · skip
            refine z_iinc hC 3 (L' := [(3, iv (((j : Nat) : Int) + 1)), (0, .ref (ad 1 0)), (1, iv x), (2, iv y)]) dX0_hasPlatformAt_38 rfl (by decide) rfl ?_
            refine z_goto hC 2 dX0_hasPlatformAt_41 (by decide) ?_
            refine z_perm [1, 2, 3, 0] (L' := [(0, .ref (ad 1 0)), (1, iv x), (2, iv y), (3, iv (((j : Nat) : Int) + 1))]) rfl ?_
            exact z_conv (ih2 _ (by omega) (j + 1) (by omega) (by simp only [zcnt, hz]; rw [if_neg (by omega)]; rfl) rfl) (by rfl) (by rfl) (by rfl)
          · skip
            refine z_iconst hC dX0_hasPlatformAt_36 ?_
            exact z_iret hC hret hlk (by decide) (by first | (rw [if_neg (by omega)]; done) | (have h1 := zcnt_mono (fun j => M 6 j 0 = x ∧ M 6 j 1 = y) (show j + 1 ≤ (M 1 0 4).toNat by omega); simp only [zcnt] at h1; rw [if_pos (show _ ∧ _ from ⟨by omega, by omega⟩)] at h1; rw [if_pos (by omega)])) (by rfl) dX0_hasPlatformAt_37
  refine z_iconst hC dX0_hasPlatformAt_0 ?_
  refine z_istore_n hC (L' := [(3, iv 0), (0, .ref (ad 1 0)), (1, iv x), (2, iv y)]) dX0_hasPlatformAt_1 rfl (by decide) rfl ?_
  refine z_perm [1, 2, 3, 0] (L' := [(0, .ref (ad 1 0)), (1, iv x), (2, iv y), (3, iv 0)]) rfl ?_
  exact z_conv (hc2 _ 0 (by omega) rfl rfl) (by rfl) (by rfl) (by rfl)
set_option maxHeartbeats 4000000 in
set_option maxRecDepth 100000 in
theorem k_X0_isLower (l : Launch) (D : va_G) (tc : Nat → ClassId) (ad : Nat → Nat → Nat) (hI : zI ad okC) (M : zM) {T U : Int} (a b : Int) (hW : WTC T U M) (ha : 0 ≤ a ∧ a ≤ 7) (hb : 0 ≤ b ∧ b ≤ 7) : zMi l yX0_isLower cX0_isLower 3 (some .boolean) 0 D (tysC tc) ad okC (tmC ad tc) [.ref (ad 1 0), iv a, iv b] M (if M 6 a.toNat 2 < M 6 b.toNat 2 then 1 else 0) M 0 0 := by
  refine z_met hI (plainFor_of_name (by decide)) (Nat.le_of_ble_eq_true rfl) ?_
  intro p e s m args below meth c hC hret hlk
  refine z_conv (L2 := [(0, .ref (ad 1 0)), (1, iv a), (2, iv b)]) ?_ rfl rfl rfl
  refine z_aload_n hC 0 rfl dX0_isLower_0 rfl ?_
  refine z_getR hC zfX0_11 (tmC_1 ad tc _) (okC_1 (by omega)) rfl dX0_isLower_1 ?_
  refine z_iload_n hC 1 rfl dX0_isLower_4 rfl ?_
  refine z_aaload hC 1 ((a).toNat) (ad 6 (((a).toNat))) (tmC_2 ad tc _) (tysC_1 tc) (okC_2 (by omega)) (by omega) (by omega) (by decide) rfl dX0_isLower_5 ?_
  have hq1 : 0 ≤ M 6 ((a).toNat) 2 ∧ M 6 ((a).toNat) 2 ≤ 60 := hW.1 6 ((a).toNat) 2
  refine z_getI hC zfX0_46 (tmC_6 ad tc _) (okC_6 (by omega)) rfl (x := M 6 ((a).toNat) 2) (rfl) dX0_isLower_6 ?_
  refine z_aload_n hC 0 rfl dX0_isLower_9 rfl ?_
  refine z_getR hC zfX0_11 (tmC_1 ad tc _) (okC_1 (by omega)) rfl dX0_isLower_10 ?_
  refine z_iload_n hC 2 rfl dX0_isLower_13 rfl ?_
  refine z_aaload hC 1 ((b).toNat) (ad 6 (((b).toNat))) (tmC_2 ad tc _) (tysC_1 tc) (okC_2 (by omega)) (by omega) (by omega) (by decide) rfl dX0_isLower_14 ?_
  have hq2 : 0 ≤ M 6 ((b).toNat) 2 ∧ M 6 ((b).toNat) 2 ≤ 60 := hW.1 6 ((b).toNat) 2
  refine z_getI hC zfX0_46 (tmC_6 ad tc _) (okC_6 (by omega)) rfl (x := M 6 ((b).toNat) 2) (rfl) dX0_isLower_15 ?_
  refine z_icmp_ge hC 25 dX0_isLower_18 (by decide) (by omega) (by omega) (fun c18 => ?_) (fun c18 => ?_)
  · skip
    refine z_iconst hC dX0_isLower_25 ?_
    exact z_iret hC hret hlk (by decide) (by first | rw [if_pos (by omega)] | rw [if_neg (by omega)]) (by rfl) dX0_isLower_26
  · skip
    refine z_iconst hC dX0_isLower_21 ?_
    refine z_goto hC 26 dX0_isLower_22 (by decide) ?_
    exact z_iret hC hret hlk (by decide) (by first | rw [if_pos (by omega)] | rw [if_neg (by omega)]) (by rfl) dX0_isLower_26
set_option maxHeartbeats 4000000 in
set_option maxRecDepth 100000 in
theorem k_X0_addPlatform (l : Launch) (D : va_G) (tc : Nat → ClassId) (ad : Nat → Nat → Nat) (hI : zI ad okC) (M : zM) {T U : Int} (x y q : Int) (hW : WTC T U M) (hc : M 1 0 4 < 8) : zMi l yX0_addPlatform cX0_addPlatform 5 (some .int) 0 D (tysC tc) ad okC (tmC ad tc) [.ref (ad 1 0), iv x, iv y, iv q] M (M 1 0 4) (addPlatformC M x y q) 0 0 := by
  refine z_met hI (plainFor_of_name (by decide)) (Nat.le_of_ble_eq_true rfl) ?_
  intro p e s m args below meth c hC hret hlk
  refine z_conv (L2 := [(0, .ref (ad 1 0)), (1, iv x), (2, iv y), (3, iv q)]) ?_ rfl rfl rfl
  refine z_aload_n hC 0 rfl dX0_addPlatform_0 rfl ?_
  have hq1 : 0 ≤ M 1 0 4 ∧ M 1 0 4 ≤ 8 := hW.1 1 0 4
  refine z_getI hC zfX0_36 (tmC_1 ad tc _) (okC_1 (by omega)) rfl (x := M 1 0 4) (rfl) dX0_addPlatform_1 ?_
  refine z_istore hC (L' := [(4, iv (M 1 0 4)), (0, .ref (ad 1 0)), (1, iv x), (2, iv y), (3, iv q)]) dX0_addPlatform_4 (by decide) rfl ?_
  refine z_aload_n hC 1 rfl dX0_addPlatform_6 rfl ?_
  refine z_getR hC zfX0_11 (tmC_1 ad tc _) (okC_1 (by omega)) rfl dX0_addPlatform_7 ?_
  refine z_iload hC 0 rfl dX0_addPlatform_10 ?_
  refine z_aaload hC 1 ((M 1 0 4).toNat) (ad 6 (((M 1 0 4).toNat))) (tmC_2 ad tc _) (tysC_1 tc) (okC_2 (by omega)) (by omega) (by omega) (by decide) rfl dX0_addPlatform_12 ?_
  refine z_iload_n hC 2 rfl dX0_addPlatform_13 rfl ?_
  refine z_put hC zgX0_40 (tmC_6 ad tc _) (okC_6 (by omega)) rfl dX0_addPlatform_14 ?_
  refine z_aload_n hC 1 rfl dX0_addPlatform_17 rfl ?_
  refine z_getR hC zfX0_11 (tmC_1 ad tc _) (okC_1 (by omega)) rfl dX0_addPlatform_18 ?_
  refine z_iload hC 0 rfl dX0_addPlatform_21 ?_
  refine z_aaload hC 1 ((M 1 0 4).toNat) (ad 6 (((M 1 0 4).toNat))) (tmC_2 ad tc _) (tysC_1 tc) (okC_2 (by omega)) (by omega) (by omega) (by decide) rfl dX0_addPlatform_23 ?_
  refine z_iload_n hC 3 rfl dX0_addPlatform_24 rfl ?_
  refine z_put hC zgX0_43 (tmC_6 ad tc _) (okC_6 (by omega)) rfl dX0_addPlatform_25 ?_
  refine z_aload_n hC 1 rfl dX0_addPlatform_28 rfl ?_
  refine z_getR hC zfX0_11 (tmC_1 ad tc _) (okC_1 (by omega)) rfl dX0_addPlatform_29 ?_
  refine z_iload hC 0 rfl dX0_addPlatform_32 ?_
  refine z_aaload hC 1 ((M 1 0 4).toNat) (ad 6 (((M 1 0 4).toNat))) (tmC_2 ad tc _) (tysC_1 tc) (okC_2 (by omega)) (by omega) (by omega) (by decide) rfl dX0_addPlatform_34 ?_
  refine z_iload_n hC 4 rfl dX0_addPlatform_35 rfl ?_
  refine z_put hC zgX0_46 (tmC_6 ad tc _) (okC_6 (by omega)) rfl dX0_addPlatform_36 ?_
  refine z_aload_n hC 1 rfl dX0_addPlatform_39 rfl ?_
  refine z_dup hC dX0_addPlatform_40 rfl ?_
  have hq2 : 0 ≤ M 1 0 4 ∧ M 1 0 4 ≤ 8 := hW.1 1 0 4
  refine z_getI hC zfX0_36 (tmC_1 ad tc _) (okC_1 (by omega)) rfl (x := M 1 0 4) (by simp [zup]) dX0_addPlatform_41 ?_
  refine z_iconst hC dX0_addPlatform_44 ?_
  refine z_iadd hC dX0_addPlatform_45 ?_
  refine z_put hC zgX0_36 (tmC_1 ad tc _) (okC_1 (by omega)) rfl dX0_addPlatform_46 ?_
  refine z_iload hC 0 rfl dX0_addPlatform_49 ?_
  exact z_iret hC hret hlk rfl (by rfl) (by rfl) dX0_addPlatform_51
set_option maxHeartbeats 4000000 in
set_option maxRecDepth 100000 in
theorem k_X0_addLine (l : Launch) (D : va_G) (tc : Nat → ClassId) (ad : Nat → Nat → Nat) (hI : zI ad okC) (M : zM) {T U : Int} (t b mo : Int) (hW : WTC T U M) (ht : 0 ≤ t ∧ t ≤ 7) (hb : 0 ≤ b ∧ b ≤ 7) (hm : 0 ≤ mo ∧ mo ≤ 150) (hl : M 6 b.toNat 2 ≤ M 6 t.toNat 2) (hc : M 1 0 5 < 12) : zMi l yX0_addLine cX0_addLine 7 (some .int) 5 D (tysC tc) ad okC (tmC ad tc) [.ref (ad 1 0), iv t, iv b, iv mo] M (M 1 0 5) (addLineC M t b mo) 0 0 := by
  have hrc : 0 ≤ M 1 0 6 ∧ M 1 0 6 ≤ 12 := hW.1 1 0 6
  have hlc : 0 ≤ M 1 0 5 ∧ M 1 0 5 ≤ 12 := hW.1 1 0 5
  have hW1 := addLine0_wt hW ht hb hm hl hc
  have ha1 : (addLine0 M t b mo) 1 0 6 = M 1 0 6 := by simp [addLine0, zup]
  refine z_met hI (plainFor_of_name (by decide)) (Nat.le_of_ble_eq_true rfl) ?_
  intro p e s m args below meth c hC hret hlk
  refine z_conv (L2 := [(0, .ref (ad 1 0)), (1, iv t), (2, iv b), (3, iv mo)]) ?_ rfl rfl rfl
  have hc90 : ∀ (d90 : Nat) (j : Nat) (hj : j ≤ (M 1 0 6).toNat), (M 1 0 6).toNat - j = d90 → zV p l e (zrm 5 0 0) s m args below meth c (MQ below (zQi D ad okC (tmC ad tc) (M 1 0 5) (addLineC M t b mo) (zA ad okC s.heap.size)) args s 0 0 (zA ad okC s.heap.size)) D ad okC (tmC ad tc) (zA ad okC s.heap.size) s.heap 7 0 0 (planAll (addLine0 M t b mo) j) [(0, .ref (ad 1 0)), (4, iv (M 1 0 5)), (6, iv ((j : Nat) : Int))] 90 [] := by
    intro d90
    induction d90 using Nat.strongRecOn with
    | _ d90 ih90 =>
      intro j hj hd90
      have hWk : WTC T U (planAll (addLine0 M t b mo) j) := planAll_wt hW1
      refine z_iload hC 2 rfl dX0_addLine_90 ?_
      refine z_aload_n hC 0 rfl dX0_addLine_92 rfl ?_
      refine z_getI hC zfX0_71 (tmC_1 ad tc _) (okC_1 (by omega)) rfl (x := (addLine0 M t b mo) 1 0 6) (by simp [zup, planAll_fr (f := 1) (by decide)]) dX0_addLine_93 ?_
      refine z_icmp_ge hC 116 dX0_addLine_96 (by decide) (by omega) (by omega) (fun c96 => ?_) (fun c96 => ?_)
      · skip
        have he : j = (M 1 0 6).toNat := by omega
        subst he
        refine z_iload hC 1 rfl dX0_addLine_116 ?_
        exact z_iret hC hret hlk rfl (by rfl) (by rfl) dX0_addLine_118
      · skip
        refine z_aload_n hC 0 rfl dX0_addLine_99 rfl ?_
        refine z_getR hC zfX0_25 (tmC_1 ad tc _) (okC_1 (by omega)) rfl dX0_addLine_100 ?_
        refine z_iload hC 2 rfl dX0_addLine_103 ?_
        refine z_aaload hC 3 (j) (ad 8 (j)) (tmC_4 ad tc _) (tysC_3 tc) (okC_4 (by omega)) (rfl) (by omega) (by decide) rfl dX0_addLine_105 ?_
        refine z_aload_n hC 0 rfl dX0_addLine_106 rfl ?_
        refine z_callVv hC zlX0_74 (k_X3_planRoute l D tc ad hI (planAll (addLine0 M t b mo) j) j (by omega) hWk) (tmC_8 ad tc _) rfl (okC_8 (by omega)) rfl rfl (Nat.le_of_ble_eq_true rfl) ⟨by decide, by decide⟩ ⟨by decide, by decide⟩ dX0_addLine_107 ?_
        refine z_iinc hC 2 (L' := [(6, iv (((j : Nat) : Int) + 1)), (0, .ref (ad 1 0)), (4, iv (M 1 0 5))]) dX0_addLine_110 rfl (by decide) rfl ?_
        refine z_goto hC 90 dX0_addLine_113 (by decide) ?_
        refine z_perm [1, 2, 0] (L' := [(0, .ref (ad 1 0)), (4, iv (M 1 0 5)), (6, iv (((j : Nat) : Int) + 1))]) rfl ?_
        exact z_conv (ih90 _ (by omega) (j + 1) (by omega) rfl) (by rfl) (by rfl) (by rfl)
  refine z_aload_n hC 0 rfl dX0_addLine_0 rfl ?_
  have hq1 : 0 ≤ M 1 0 5 ∧ M 1 0 5 ≤ 12 := hW.1 1 0 5
  refine z_getI hC zfX0_49 (tmC_1 ad tc _) (okC_1 (by omega)) rfl (x := M 1 0 5) (rfl) dX0_addLine_1 ?_
  refine z_istore hC (L' := [(4, iv (M 1 0 5)), (0, .ref (ad 1 0)), (1, iv t), (2, iv b), (3, iv mo)]) dX0_addLine_4 (by decide) rfl ?_
  refine z_aload_n hC 1 rfl dX0_addLine_6 rfl ?_
  refine z_getR hC zfX0_19 (tmC_1 ad tc _) (okC_1 (by omega)) rfl dX0_addLine_7 ?_
  refine z_iload hC 0 rfl dX0_addLine_10 ?_
  refine z_aaload hC 2 ((M 1 0 5).toNat) (ad 7 (((M 1 0 5).toNat))) (tmC_3 ad tc _) (tysC_2 tc) (okC_3 (by omega)) (by omega) (by omega) (by decide) rfl dX0_addLine_12 ?_
  refine z_astore hC (L' := [(5, .ref (ad 7 ((M 1 0 5).toNat))), (4, iv (M 1 0 5)), (0, .ref (ad 1 0)), (1, iv t), (2, iv b), (3, iv mo)]) dX0_addLine_13 (by decide) rfl ?_
  refine z_aload hC 0 rfl dX0_addLine_15 ?_
  refine z_iload_n hC 3 rfl dX0_addLine_17 rfl ?_
  refine z_put hC zgX0_52 (tmC_7 ad tc _) (okC_7 (by omega)) rfl dX0_addLine_18 ?_
  refine z_aload hC 0 rfl dX0_addLine_21 ?_
  refine z_iload_n hC 4 rfl dX0_addLine_23 rfl ?_
  refine z_put hC zgX0_55 (tmC_7 ad tc _) (okC_7 (by omega)) rfl dX0_addLine_24 ?_
  refine z_aload hC 0 rfl dX0_addLine_27 ?_
  refine z_iload_n hC 5 rfl dX0_addLine_29 rfl ?_
  refine z_put hC zgX0_58 (tmC_7 ad tc _) (okC_7 (by omega)) rfl dX0_addLine_30 ?_
  refine z_aload hC 0 rfl dX0_addLine_33 ?_
  refine z_aload_n hC 2 rfl dX0_addLine_35 rfl ?_
  refine z_getR hC zfX0_11 (tmC_1 ad tc _) (okC_1 (by omega)) rfl dX0_addLine_36 ?_
  refine z_iload_n hC 3 rfl dX0_addLine_39 rfl ?_
  refine z_aaload hC 1 ((t).toNat) (ad 6 (((t).toNat))) (tmC_2 ad tc _) (tysC_1 tc) (okC_2 (by omega)) (by omega) (by omega) (by decide) rfl dX0_addLine_40 ?_
  refine z_aload_n hC 2 rfl dX0_addLine_41 rfl ?_
  refine z_getR hC zfX0_11 (tmC_1 ad tc _) (okC_1 (by omega)) rfl dX0_addLine_42 ?_
  refine z_iload_n hC 4 rfl dX0_addLine_45 rfl ?_
  refine z_aaload hC 1 ((b).toNat) (ad 6 (((b).toNat))) (tmC_2 ad tc _) (tysC_1 tc) (okC_2 (by omega)) (by omega) (by omega) (by decide) rfl dX0_addLine_46 ?_
  refine z_callVi hC zlX0_61 (k_X2_distanceTo l D tc ad hI (zup (zup (zup M 7 ((M 1 0 5).toNat) 0 t) 7 ((M 1 0 5).toNat) 1 b) 7 ((M 1 0 5).toNat) 2 mo) ((t).toNat) ((b).toNat) (by omega) (by omega) (by have y0 : (zup (zup (zup M 7 ((M 1 0 5).toNat) 0 t) 7 ((M 1 0 5).toNat) 1 b) 7 ((M 1 0 5).toNat) 2 mo) 6 ((t).toNat) 0 = M 6 ((t).toNat) 0 := (by simp [zup]); have z1 : 0 ≤ M 6 ((t).toNat) 0 ∧ M 6 ((t).toNat) 0 ≤ 40 := hW.1 6 ((t).toNat) 0; have y2 : (zup (zup (zup M 7 ((M 1 0 5).toNat) 0 t) 7 ((M 1 0 5).toNat) 1 b) 7 ((M 1 0 5).toNat) 2 mo) 6 ((t).toNat) 0 = M 6 ((t).toNat) 0 := (by simp [zup]); have z3 : 0 ≤ M 6 ((t).toNat) 0 ∧ M 6 ((t).toNat) 0 ≤ 40 := hW.1 6 ((t).toNat) 0; omega) (by have y0 : (zup (zup (zup M 7 ((M 1 0 5).toNat) 0 t) 7 ((M 1 0 5).toNat) 1 b) 7 ((M 1 0 5).toNat) 2 mo) 6 ((t).toNat) 1 = M 6 ((t).toNat) 1 := (by simp [zup]); have z1 : 0 ≤ M 6 ((t).toNat) 1 ∧ M 6 ((t).toNat) 1 ≤ 40 := hW.1 6 ((t).toNat) 1; have y2 : (zup (zup (zup M 7 ((M 1 0 5).toNat) 0 t) 7 ((M 1 0 5).toNat) 1 b) 7 ((M 1 0 5).toNat) 2 mo) 6 ((t).toNat) 1 = M 6 ((t).toNat) 1 := (by simp [zup]); have z3 : 0 ≤ M 6 ((t).toNat) 1 ∧ M 6 ((t).toNat) 1 ≤ 40 := hW.1 6 ((t).toNat) 1; omega) (by have y0 : (zup (zup (zup M 7 ((M 1 0 5).toNat) 0 t) 7 ((M 1 0 5).toNat) 1 b) 7 ((M 1 0 5).toNat) 2 mo) 6 ((b).toNat) 0 = M 6 ((b).toNat) 0 := (by simp [zup]); have z1 : 0 ≤ M 6 ((b).toNat) 0 ∧ M 6 ((b).toNat) 0 ≤ 40 := hW.1 6 ((b).toNat) 0; have y2 : (zup (zup (zup M 7 ((M 1 0 5).toNat) 0 t) 7 ((M 1 0 5).toNat) 1 b) 7 ((M 1 0 5).toNat) 2 mo) 6 ((b).toNat) 0 = M 6 ((b).toNat) 0 := (by simp [zup]); have z3 : 0 ≤ M 6 ((b).toNat) 0 ∧ M 6 ((b).toNat) 0 ≤ 40 := hW.1 6 ((b).toNat) 0; omega) (by have y0 : (zup (zup (zup M 7 ((M 1 0 5).toNat) 0 t) 7 ((M 1 0 5).toNat) 1 b) 7 ((M 1 0 5).toNat) 2 mo) 6 ((b).toNat) 1 = M 6 ((b).toNat) 1 := (by simp [zup]); have z1 : 0 ≤ M 6 ((b).toNat) 1 ∧ M 6 ((b).toNat) 1 ≤ 40 := hW.1 6 ((b).toNat) 1; have y2 : (zup (zup (zup M 7 ((M 1 0 5).toNat) 0 t) 7 ((M 1 0 5).toNat) 1 b) 7 ((M 1 0 5).toNat) 2 mo) 6 ((b).toNat) 1 = M 6 ((b).toNat) 1 := (by simp [zup]); have z3 : 0 ≤ M 6 ((b).toNat) 1 ∧ M 6 ((b).toNat) 1 ≤ 40 := hW.1 6 ((b).toNat) 1; omega)) (tmC_6 ad tc _) rfl (okC_6 (by omega)) rfl rfl (Nat.le_of_ble_eq_true rfl) ⟨by decide, by decide⟩ ⟨by decide, by decide⟩ dX0_addLine_47 ?_
  refine z_conv (St2 := [iv (absC ((M 6 ((t).toNat) 0) - (M 6 ((b).toNat) 0)) + absC ((M 6 ((t).toNat) 1) - (M 6 ((b).toNat) 1))), .ref (ad 7 ((M 1 0 5).toNat))]) ?_ rfl rfl (by simp [zup])
  refine z_put hC zgX0_65 (tmC_7 ad tc _) (okC_7 (by omega)) rfl dX0_addLine_50 ?_
  refine z_aload hC 0 rfl dX0_addLine_53 ?_
  refine z_aload_n hC 2 rfl dX0_addLine_55 rfl ?_
  refine z_getR hC zfX0_11 (tmC_1 ad tc _) (okC_1 (by omega)) rfl dX0_addLine_56 ?_
  refine z_iload_n hC 3 rfl dX0_addLine_59 rfl ?_
  refine z_aaload hC 1 ((t).toNat) (ad 6 (((t).toNat))) (tmC_2 ad tc _) (tysC_1 tc) (okC_2 (by omega)) (by omega) (by omega) (by decide) rfl dX0_addLine_60 ?_
  have hq2 : 0 ≤ M 6 ((t).toNat) 2 ∧ M 6 ((t).toNat) 2 ≤ 60 := hW.1 6 ((t).toNat) 2
  refine z_getI hC zfX0_46 (tmC_6 ad tc _) (okC_6 (by omega)) rfl (x := M 6 ((t).toNat) 2) (by simp [zup]) dX0_addLine_61 ?_
  refine z_aload_n hC 2 rfl dX0_addLine_64 rfl ?_
  refine z_getR hC zfX0_11 (tmC_1 ad tc _) (okC_1 (by omega)) rfl dX0_addLine_65 ?_
  refine z_iload_n hC 4 rfl dX0_addLine_68 rfl ?_
  refine z_aaload hC 1 ((b).toNat) (ad 6 (((b).toNat))) (tmC_2 ad tc _) (tysC_1 tc) (okC_2 (by omega)) (by omega) (by omega) (by decide) rfl dX0_addLine_69 ?_
  have hq3 : 0 ≤ M 6 ((b).toNat) 2 ∧ M 6 ((b).toNat) 2 ≤ 60 := hW.1 6 ((b).toNat) 2
  refine z_getI hC zfX0_46 (tmC_6 ad tc _) (okC_6 (by omega)) rfl (x := M 6 ((b).toNat) 2) (by simp [zup]) dX0_addLine_70 ?_
  refine z_isub hC dX0_addLine_73 ?_
  refine z_put hC zgX0_68 (tmC_7 ad tc _) (okC_7 (by omega)) rfl dX0_addLine_74 ?_
  refine z_aload_n hC 2 rfl dX0_addLine_77 rfl ?_
  refine z_dup hC dX0_addLine_78 rfl ?_
  have hq4 : 0 ≤ M 1 0 5 ∧ M 1 0 5 ≤ 12 := hW.1 1 0 5
  refine z_getI hC zfX0_49 (tmC_1 ad tc _) (okC_1 (by omega)) rfl (x := M 1 0 5) (by simp [zup]) dX0_addLine_79 ?_
  refine z_iconst hC dX0_addLine_82 ?_
  refine z_iadd hC dX0_addLine_83 ?_
  refine z_put hC zgX0_49 (tmC_1 ad tc _) (okC_1 (by omega)) rfl dX0_addLine_84 ?_
  refine z_iconst hC dX0_addLine_87 ?_
  refine z_istore hC (L' := [(6, iv 0), (5, .ref (ad 7 ((M 1 0 5).toNat))), (4, iv (M 1 0 5)), (0, .ref (ad 1 0)), (1, iv t), (2, iv b), (3, iv mo)]) dX0_addLine_88 (by decide) rfl ?_
  refine z_perm [3, 2, 0] (L' := [(0, .ref (ad 1 0)), (4, iv (M 1 0 5)), (6, iv 0)]) rfl ?_
  exact z_conv (hc90 _ 0 (by omega) rfl) (by rfl) (by rfl) (by rfl)
set_option maxHeartbeats 4000000 in
set_option maxRecDepth 100000 in
theorem k_X0_addRider (l : Launch) (D : va_G) (tc : Nat → ClassId) (ad : Nat → Nat → Nat) (hI : zI ad okC) (M : zM) {T U : Int} (g w pa : Int) (hW : WTC T U M) (hg : 0 ≤ g ∧ g ≤ 7) (hw : 0 ≤ w ∧ w ≤ 120) (hp : 0 ≤ pa ∧ pa ≤ 60) (hc : M 1 0 6 < 12) : zMi l yX0_addRider cX0_addRider 6 (some .int) 5 D (tysC tc) ad okC (tmC ad tc) [.ref (ad 1 0), iv g, iv w, iv pa] M (M 1 0 6) (addRiderC M g w pa) 0 0 := by
  have hrc : 0 ≤ M 1 0 6 ∧ M 1 0 6 ≤ 12 := hW.1 1 0 6
  refine z_met hI (plainFor_of_name (by decide)) (Nat.le_of_ble_eq_true rfl) ?_
  intro p e s m args below meth c hC hret hlk
  refine z_conv (L2 := [(0, .ref (ad 1 0)), (1, iv g), (2, iv w), (3, iv pa)]) ?_ rfl rfl rfl
  refine z_aload_n hC 0 rfl dX0_addRider_0 rfl ?_
  have hq1 : 0 ≤ M 1 0 6 ∧ M 1 0 6 ≤ 12 := hW.1 1 0 6
  refine z_getI hC zfX0_71 (tmC_1 ad tc _) (okC_1 (by omega)) rfl (x := M 1 0 6) (rfl) dX0_addRider_1 ?_
  refine z_istore hC (L' := [(4, iv (M 1 0 6)), (0, .ref (ad 1 0)), (1, iv g), (2, iv w), (3, iv pa)]) dX0_addRider_4 (by decide) rfl ?_
  refine z_aload_n hC 1 rfl dX0_addRider_6 rfl ?_
  refine z_getR hC zfX0_25 (tmC_1 ad tc _) (okC_1 (by omega)) rfl dX0_addRider_7 ?_
  refine z_iload hC 0 rfl dX0_addRider_10 ?_
  refine z_aaload hC 3 ((M 1 0 6).toNat) (ad 8 (((M 1 0 6).toNat))) (tmC_4 ad tc _) (tysC_3 tc) (okC_4 (by omega)) (by omega) (by omega) (by decide) rfl dX0_addRider_12 ?_
  refine z_astore hC (L' := [(5, .ref (ad 8 ((M 1 0 6).toNat))), (4, iv (M 1 0 6)), (0, .ref (ad 1 0)), (1, iv g), (2, iv w), (3, iv pa)]) dX0_addRider_13 (by decide) rfl ?_
  refine z_aload hC 0 rfl dX0_addRider_15 ?_
  refine z_iload_n hC 3 rfl dX0_addRider_17 rfl ?_
  refine z_put hC zgX0_78 (tmC_8 ad tc _) (okC_8 (by omega)) rfl dX0_addRider_18 ?_
  refine z_aload hC 0 rfl dX0_addRider_21 ?_
  refine z_iload_n hC 4 rfl dX0_addRider_23 rfl ?_
  refine z_put hC zgX0_81 (tmC_8 ad tc _) (okC_8 (by omega)) rfl dX0_addRider_24 ?_
  refine z_aload hC 0 rfl dX0_addRider_27 ?_
  refine z_iload_n hC 5 rfl dX0_addRider_29 rfl ?_
  refine z_put hC zgX0_84 (tmC_8 ad tc _) (okC_8 (by omega)) rfl dX0_addRider_30 ?_
  refine z_aload hC 0 rfl dX0_addRider_33 ?_
  refine z_aload_n hC 2 rfl dX0_addRider_35 rfl ?_
  have hW1 : WTC T U (zup (zup (zup M 8 ((M 1 0 6).toNat) 1 g) 8 ((M 1 0 6).toNat) 2 w) 8 ((M 1 0 6).toNat) 3 pa) := ((hW.up (f := 8) (k := 1) (by decide) hg).up (f := 8) (k := 2) (by decide) hw).up (f := 8) (k := 3) (by decide) hp
  refine z_callVv hC zlX0_74 (k_X3_planRoute l D tc ad hI (zup (zup (zup M 8 ((M 1 0 6).toNat) 1 g) 8 ((M 1 0 6).toNat) 2 w) 8 ((M 1 0 6).toNat) 3 pa) ((M 1 0 6).toNat) (by omega) hW1) (tmC_8 ad tc _) rfl (okC_8 (by omega)) rfl rfl (Nat.le_of_ble_eq_true rfl) ⟨by decide, by decide⟩ ⟨by decide, by decide⟩ dX0_addRider_36 ?_
  refine z_aload_n hC 2 rfl dX0_addRider_39 rfl ?_
  refine z_dup hC dX0_addRider_40 rfl ?_
  have hq2 : 0 ≤ M 1 0 6 ∧ M 1 0 6 ≤ 12 := hW.1 1 0 6
  refine z_getI hC zfX0_71 (tmC_1 ad tc _) (okC_1 (by omega)) rfl (x := M 1 0 6) (by simp [zup, planC_fr (f := 1) (by decide)]) dX0_addRider_41 ?_
  refine z_iconst hC dX0_addRider_44 ?_
  refine z_iadd hC dX0_addRider_45 ?_
  refine z_put hC zgX0_71 (tmC_1 ad tc _) (okC_1 (by omega)) rfl dX0_addRider_46 ?_
  refine z_iload hC 1 rfl dX0_addRider_49 ?_
  exact z_iret hC hret hlk rfl (by rfl) (by rfl) dX0_addRider_51
set_option maxHeartbeats 4000000 in
set_option maxRecDepth 100000 in
theorem k_X0_linesWithTop (l : Launch) (D : va_G) (tc : Nat → ClassId) (ad : Nat → Nat → Nat) (hI : zI ad okC) (M : zM) {T U : Int} (q : Int) (hW : WTC T U M) (hq : -2147483648 ≤ q ∧ q < 2147483648) : zMi l yX0_linesWithTop cX0_linesWithTop 4 (some .int) 0 D (tysC tc) ad okC (tmC ad tc) [.ref (ad 1 0), iv q] M (zcnt (fun j => M 7 j 0 = q) (M 1 0 5).toNat) M 0 0 := by
  have hlc : 0 ≤ M 1 0 5 ∧ M 1 0 5 ≤ 12 := hW.1 1 0 5
  refine z_met hI (plainFor_of_name (by decide)) (Nat.le_of_ble_eq_true rfl) ?_
  intro p e s m args below meth c hC hret hlk
  refine z_conv (L2 := [(0, .ref (ad 1 0)), (1, iv q)]) ?_ rfl rfl rfl
  have hc4 : ∀ (d4 : Nat) (j : Nat) (hj : j ≤ (M 1 0 5).toNat), (M 1 0 5).toNat - j = d4 → zV p l e (zrm 0 0 0) s m args below meth c (MQ below (zQi D ad okC (tmC ad tc) (zcnt (fun j => M 7 j 0 = q) (M 1 0 5).toNat) M (zA ad okC s.heap.size)) args s 0 0 (zA ad okC s.heap.size)) D ad okC (tmC ad tc) (zA ad okC s.heap.size) s.heap 4 0 0 M [(0, .ref (ad 1 0)), (1, iv q), (2, iv (zcnt (fun j => M 7 j 0 = q) j)), (3, iv ((j : Nat) : Int))] 4 [] := by
    intro d4
    induction d4 using Nat.strongRecOn with
    | _ d4 ih4 =>
      intro j hj hd4
      refine z_iload_n hC 3 rfl dX0_linesWithTop_4 rfl ?_
      refine z_aload_n hC 0 rfl dX0_linesWithTop_5 rfl ?_
      have hq1 : 0 ≤ M 1 0 5 ∧ M 1 0 5 ≤ 12 := hW.1 1 0 5
      refine z_getI hC zfX0_49 (tmC_1 ad tc _) (okC_1 (by omega)) rfl (x := M 1 0 5) (rfl) dX0_linesWithTop_6 ?_
      refine z_icmp_ge hC 34 dX0_linesWithTop_9 (by decide) (by omega) (by omega) (fun c9 => ?_) (fun c9 => ?_)
      · skip
        refine z_iload_n hC 2 rfl dX0_linesWithTop_34 rfl ?_
        have he : j = (M 1 0 5).toNat := by omega
        subst he
        exact z_iret hC hret hlk rfl (by rfl) (by rfl) dX0_linesWithTop_35
      · skip
        refine z_aload_n hC 0 rfl dX0_linesWithTop_12 rfl ?_
        refine z_getR hC zfX0_19 (tmC_1 ad tc _) (okC_1 (by omega)) rfl dX0_linesWithTop_13 ?_
        refine z_iload_n hC 3 rfl dX0_linesWithTop_16 rfl ?_
        refine z_aaload hC 2 (j) (ad 7 (j)) (tmC_3 ad tc _) (tysC_2 tc) (okC_3 (by omega)) (rfl) (by omega) (by decide) rfl dX0_linesWithTop_17 ?_
        have hq2 : 0 ≤ M 7 j 0 ∧ M 7 j 0 ≤ 7 := hW.1 7 j 0
        refine z_getI hC zfX0_52 (tmC_7 ad tc _) (okC_7 (by omega)) rfl (x := M 7 j 0) (rfl) dX0_linesWithTop_18 ?_
        refine z_iload_n hC 1 rfl dX0_linesWithTop_21 rfl ?_
        refine z_icmp_ne hC 28 dX0_linesWithTop_22 (by decide) (by omega) (by omega) (fun c22 => ?_) (fun c22 => ?_)
        · skip
          refine z_iinc hC 3 (L' := [(3, iv (((j : Nat) : Int) + 1)), (0, .ref (ad 1 0)), (1, iv q), (2, iv (zcnt (fun j => M 7 j 0 = q) j))]) dX0_linesWithTop_28 rfl (by decide) rfl ?_
          refine z_goto hC 4 dX0_linesWithTop_31 (by decide) ?_
          refine z_perm [1, 2, 3, 0] (L' := [(0, .ref (ad 1 0)), (1, iv q), (2, iv (zcnt (fun j => M 7 j 0 = q) j)), (3, iv (((j : Nat) : Int) + 1))]) rfl ?_
          exact z_conv (ih4 _ (by omega) (j + 1) (by omega) rfl) (by rfl) (by simp only [zcnt]; simp [*]) (by rfl)
        · skip
          refine z_iinc hC 2 (L' := [(2, iv (zcnt (fun j => M 7 j 0 = q) j + 1)), (0, .ref (ad 1 0)), (1, iv q), (3, iv ((j : Nat) : Int))]) dX0_linesWithTop_25 rfl (by decide) rfl ?_
          refine z_iinc hC 3 (L' := [(3, iv (((j : Nat) : Int) + 1)), (2, iv (zcnt (fun j => M 7 j 0 = q) j + 1)), (0, .ref (ad 1 0)), (1, iv q)]) dX0_linesWithTop_28 rfl (by decide) rfl ?_
          refine z_goto hC 4 dX0_linesWithTop_31 (by decide) ?_
          refine z_perm [2, 3, 1, 0] (L' := [(0, .ref (ad 1 0)), (1, iv q), (2, iv (zcnt (fun j => M 7 j 0 = q) j + 1)), (3, iv (((j : Nat) : Int) + 1))]) rfl ?_
          exact z_conv (ih4 _ (by omega) (j + 1) (by omega) rfl) (by rfl) (by simp only [zcnt]; simp [*]) (by rfl)
  refine z_iconst hC dX0_linesWithTop_0 ?_
  refine z_istore_n hC (L' := [(2, iv 0), (0, .ref (ad 1 0)), (1, iv q)]) dX0_linesWithTop_1 rfl (by decide) rfl ?_
  refine z_iconst hC dX0_linesWithTop_2 ?_
  refine z_istore_n hC (L' := [(3, iv 0), (2, iv 0), (0, .ref (ad 1 0)), (1, iv q)]) dX0_linesWithTop_3 rfl (by decide) rfl ?_
  refine z_perm [2, 3, 1, 0] (L' := [(0, .ref (ad 1 0)), (1, iv q), (2, iv 0), (3, iv 0)]) rfl ?_
  exact z_conv (hc4 _ 0 (by omega) rfl) (by rfl) (by rfl) (by rfl)
set_option maxHeartbeats 4000000 in
set_option maxRecDepth 100000 in
theorem k_X0_linesWithBottom (l : Launch) (D : va_G) (tc : Nat → ClassId) (ad : Nat → Nat → Nat) (hI : zI ad okC) (M : zM) {T U : Int} (q : Int) (hW : WTC T U M) (hq : -2147483648 ≤ q ∧ q < 2147483648) : zMi l yX0_linesWithBottom cX0_linesWithBottom 4 (some .int) 0 D (tysC tc) ad okC (tmC ad tc) [.ref (ad 1 0), iv q] M (zcnt (fun j => M 7 j 1 = q) (M 1 0 5).toNat) M 0 0 := by
  have hlc : 0 ≤ M 1 0 5 ∧ M 1 0 5 ≤ 12 := hW.1 1 0 5
  refine z_met hI (plainFor_of_name (by decide)) (Nat.le_of_ble_eq_true rfl) ?_
  intro p e s m args below meth c hC hret hlk
  refine z_conv (L2 := [(0, .ref (ad 1 0)), (1, iv q)]) ?_ rfl rfl rfl
  have hc4 : ∀ (d4 : Nat) (j : Nat) (hj : j ≤ (M 1 0 5).toNat), (M 1 0 5).toNat - j = d4 → zV p l e (zrm 0 0 0) s m args below meth c (MQ below (zQi D ad okC (tmC ad tc) (zcnt (fun j => M 7 j 1 = q) (M 1 0 5).toNat) M (zA ad okC s.heap.size)) args s 0 0 (zA ad okC s.heap.size)) D ad okC (tmC ad tc) (zA ad okC s.heap.size) s.heap 4 0 0 M [(0, .ref (ad 1 0)), (1, iv q), (2, iv (zcnt (fun j => M 7 j 1 = q) j)), (3, iv ((j : Nat) : Int))] 4 [] := by
    intro d4
    induction d4 using Nat.strongRecOn with
    | _ d4 ih4 =>
      intro j hj hd4
      refine z_iload_n hC 3 rfl dX0_linesWithBottom_4 rfl ?_
      refine z_aload_n hC 0 rfl dX0_linesWithBottom_5 rfl ?_
      have hq1 : 0 ≤ M 1 0 5 ∧ M 1 0 5 ≤ 12 := hW.1 1 0 5
      refine z_getI hC zfX0_49 (tmC_1 ad tc _) (okC_1 (by omega)) rfl (x := M 1 0 5) (rfl) dX0_linesWithBottom_6 ?_
      refine z_icmp_ge hC 34 dX0_linesWithBottom_9 (by decide) (by omega) (by omega) (fun c9 => ?_) (fun c9 => ?_)
      · skip
        refine z_iload_n hC 2 rfl dX0_linesWithBottom_34 rfl ?_
        have he : j = (M 1 0 5).toNat := by omega
        subst he
        exact z_iret hC hret hlk rfl (by rfl) (by rfl) dX0_linesWithBottom_35
      · skip
        refine z_aload_n hC 0 rfl dX0_linesWithBottom_12 rfl ?_
        refine z_getR hC zfX0_19 (tmC_1 ad tc _) (okC_1 (by omega)) rfl dX0_linesWithBottom_13 ?_
        refine z_iload_n hC 3 rfl dX0_linesWithBottom_16 rfl ?_
        refine z_aaload hC 2 (j) (ad 7 (j)) (tmC_3 ad tc _) (tysC_2 tc) (okC_3 (by omega)) (rfl) (by omega) (by decide) rfl dX0_linesWithBottom_17 ?_
        have hq2 : 0 ≤ M 7 j 1 ∧ M 7 j 1 ≤ 7 := hW.1 7 j 1
        refine z_getI hC zfX0_55 (tmC_7 ad tc _) (okC_7 (by omega)) rfl (x := M 7 j 1) (rfl) dX0_linesWithBottom_18 ?_
        refine z_iload_n hC 1 rfl dX0_linesWithBottom_21 rfl ?_
        refine z_icmp_ne hC 28 dX0_linesWithBottom_22 (by decide) (by omega) (by omega) (fun c22 => ?_) (fun c22 => ?_)
        · skip
          refine z_iinc hC 3 (L' := [(3, iv (((j : Nat) : Int) + 1)), (0, .ref (ad 1 0)), (1, iv q), (2, iv (zcnt (fun j => M 7 j 1 = q) j))]) dX0_linesWithBottom_28 rfl (by decide) rfl ?_
          refine z_goto hC 4 dX0_linesWithBottom_31 (by decide) ?_
          refine z_perm [1, 2, 3, 0] (L' := [(0, .ref (ad 1 0)), (1, iv q), (2, iv (zcnt (fun j => M 7 j 1 = q) j)), (3, iv (((j : Nat) : Int) + 1))]) rfl ?_
          exact z_conv (ih4 _ (by omega) (j + 1) (by omega) rfl) (by rfl) (by simp only [zcnt]; simp [*]) (by rfl)
        · skip
          refine z_iinc hC 2 (L' := [(2, iv (zcnt (fun j => M 7 j 1 = q) j + 1)), (0, .ref (ad 1 0)), (1, iv q), (3, iv ((j : Nat) : Int))]) dX0_linesWithBottom_25 rfl (by decide) rfl ?_
          refine z_iinc hC 3 (L' := [(3, iv (((j : Nat) : Int) + 1)), (2, iv (zcnt (fun j => M 7 j 1 = q) j + 1)), (0, .ref (ad 1 0)), (1, iv q)]) dX0_linesWithBottom_28 rfl (by decide) rfl ?_
          refine z_goto hC 4 dX0_linesWithBottom_31 (by decide) ?_
          refine z_perm [2, 3, 1, 0] (L' := [(0, .ref (ad 1 0)), (1, iv q), (2, iv (zcnt (fun j => M 7 j 1 = q) j + 1)), (3, iv (((j : Nat) : Int) + 1))]) rfl ?_
          exact z_conv (ih4 _ (by omega) (j + 1) (by omega) rfl) (by rfl) (by simp only [zcnt]; simp [*]) (by rfl)
  refine z_iconst hC dX0_linesWithBottom_0 ?_
  refine z_istore_n hC (L' := [(2, iv 0), (0, .ref (ad 1 0)), (1, iv q)]) dX0_linesWithBottom_1 rfl (by decide) rfl ?_
  refine z_iconst hC dX0_linesWithBottom_2 ?_
  refine z_istore_n hC (L' := [(3, iv 0), (2, iv 0), (0, .ref (ad 1 0)), (1, iv q)]) dX0_linesWithBottom_3 rfl (by decide) rfl ?_
  refine z_perm [2, 3, 1, 0] (L' := [(0, .ref (ad 1 0)), (1, iv q), (2, iv 0), (3, iv 0)]) rfl ?_
  exact z_conv (hc4 _ 0 (by omega) rfl) (by rfl) (by rfl) (by rfl)
set_option maxHeartbeats 4000000 in
set_option maxRecDepth 100000 in
theorem k_X0_isClosed (l : Launch) (D : va_G) (tc : Nat → ClassId) (ad : Nat → Nat → Nat) (hI : zI ad okC) (M : zM) {T U : Int} (ln : Nat) (mi : Int) (hln : ln < 12) (hW : WTC T U M) (hm : 0 ≤ mi ∧ mi < 2147483648) : zMi l yX0_isClosed cX0_isClosed 4 (some .boolean) 1 D (tysC tc) ad okC (tmC ad tc) [.ref (ad 1 0), .ref (ad 7 ln), iv mi] M (if 80 - 8 * M 5 0 (mi % 12).toNat < M 7 ln 3 then 1 else 0) M 0 0 := by
  have hm1 := Int.emod_nonneg mi (show (12:Int) ≠ 0 by decide)
  have hm2 := Int.emod_lt_of_pos mi (show (0:Int) < 12 by decide)
  have hm3 : 0 ≤ M 5 0 (mi % 12).toNat ∧ M 5 0 (mi % 12).toNat ≤ 9 := hW.1 5 0 _
  have hm4 : 0 ≤ M 7 ln 3 ∧ M 7 ln 3 ≤ 80 := hW.1 7 ln 3
  refine z_met hI (plainFor_of_name (by decide)) (Nat.le_of_ble_eq_true rfl) ?_
  intro p e s m args below meth c hC hret hlk
  refine z_conv (L2 := [(0, .ref (ad 1 0)), (1, .ref (ad 7 ln)), (2, iv mi)]) ?_ rfl rfl rfl
  refine z_aload_n hC 0 rfl dX0_isClosed_0 rfl ?_
  refine z_getR hC zfX0_29 (tmC_1 ad tc _) (okC_1 (by omega)) rfl dX0_isClosed_1 ?_
  refine z_iload_n hC 2 rfl dX0_isClosed_4 rfl ?_
  refine z_bipush hC dX0_isClosed_5 (by decide) ?_
  refine z_callSi hC zlX0_87 (k_J9_floorMod_7cf53 l D tc ad hI M mi 12 (by omega) (by omega)) rfl rfl (Nat.le_of_ble_eq_true rfl) ⟨by decide, by decide⟩ ⟨by decide, by decide⟩ dX0_isClosed_7 ?_
  have hq1 : 0 ≤ M 5 0 ((mi % 12).toNat) ∧ M 5 0 ((mi % 12).toNat) ≤ 9 := hW.1 5 0 ((mi % 12).toNat)
  refine z_iaload hC 0 ((mi % 12).toNat) (tmC_5 ad tc _) (tysC_0 tc) (okC_5 (by omega)) (by omega) (by omega) (by decide) (x := M 5 0 ((mi % 12).toNat)) (rfl) dX0_isClosed_10 ?_
  refine z_istore_n hC (L' := [(3, iv (M 5 0 ((mi % 12).toNat))), (0, .ref (ad 1 0)), (1, .ref (ad 7 ln)), (2, iv mi)]) dX0_isClosed_11 rfl (by decide) rfl ?_
  refine z_aload_n hC 2 rfl dX0_isClosed_12 rfl ?_
  have hq2 : 0 ≤ M 7 ln 3 ∧ M 7 ln 3 ≤ 80 := hW.1 7 ln 3
  refine z_getI hC zfX0_65 (tmC_7 ad tc _) (okC_7 (by omega)) rfl (x := M 7 ln 3) (rfl) dX0_isClosed_13 ?_
  refine z_bipush hC dX0_isClosed_16 (by decide) ?_
  refine z_bipush hC dX0_isClosed_18 (by decide) ?_
  refine z_iload_n hC 0 rfl dX0_isClosed_20 rfl ?_
  refine z_imul hC dX0_isClosed_21 ?_
  refine z_isub hC dX0_isClosed_22 ?_
  refine z_icmp_le hC 30 dX0_isClosed_23 (by decide) (by omega) (by omega) (fun c23 => ?_) (fun c23 => ?_)
  · skip
    refine z_iconst hC dX0_isClosed_30 ?_
    exact z_iret hC hret hlk (by decide) (by first | rw [if_pos (by omega)] | rw [if_neg (by omega)]) (by rfl) dX0_isClosed_31
  · skip
    refine z_iconst hC dX0_isClosed_26 ?_
    refine z_goto hC 31 dX0_isClosed_27 (by decide) ?_
    exact z_iret hC hret hlk (by decide) (by first | rw [if_pos (by omega)] | rw [if_neg (by omega)]) (by rfl) dX0_isClosed_31
