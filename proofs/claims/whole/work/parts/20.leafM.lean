set_option maxHeartbeats 4000000 in
set_option maxRecDepth 100000 in
theorem m_J9_abs_0f7a4 (l : Launch) (D : va_G) (tc : Nat → ClassId) (ad : Nat → Nat → Nat) (hI : zI ad okM) (M : zM) (a : Int) (ha : -2147483648 ≤ a ∧ a < 2147483648) : zMi l yJ9_abs_0f7a4 cJ9_abs_0f7a4 1 (some .int) 0 D (tysM tc) ad okM (tmM ad tc) [iv a] M (absC a) M 0 0 := by
  refine z_met hI (by decide +kernel) (Nat.le_of_ble_eq_true rfl) ?_
  intro p e s m args below meth c hC hret hlk
  refine z_conv (L2 := [(0, iv a)]) ?_ rfl rfl rfl
  refine z_iload_n hC 0 rfl dJ9_abs_0f7a4_0 rfl ?_
  refine z_if_ge hC 9 dJ9_abs_0f7a4_1 (by decide) (by omega) (fun c1 => ?_) (fun c1 => ?_)
  · skip
    refine z_iload_n hC 0 rfl dJ9_abs_0f7a4_9 rfl ?_
    exact z_iret hC hret hlk rfl (by simp only [absC]; split <;> omega) (by rfl) dJ9_abs_0f7a4_10
  · skip
    refine z_iload_n hC 0 rfl dJ9_abs_0f7a4_4 rfl ?_
    refine z_ineg hC dJ9_abs_0f7a4_5 ?_
    refine z_goto hC 10 dJ9_abs_0f7a4_6 (by decide) ?_
    exact z_iret hC hret hlk rfl (by simp only [absC]; split <;> omega) (by rfl) dJ9_abs_0f7a4_10
set_option maxHeartbeats 4000000 in
set_option maxRecDepth 100000 in
theorem m_J9_max_7cf53 (l : Launch) (D : va_G) (tc : Nat → ClassId) (ad : Nat → Nat → Nat) (hI : zI ad okM) (M : zM) (a b : Int) (ha : -2147483648 ≤ a ∧ a < 2147483648) (hb : -2147483648 ≤ b ∧ b < 2147483648) : zMi l yJ9_max_7cf53 cJ9_max_7cf53 2 (some .int) 0 D (tysM tc) ad okM (tmM ad tc) [iv a, iv b] M (if a < b then b else a) M 0 0 := by
  refine z_met hI (by decide +kernel) (Nat.le_of_ble_eq_true rfl) ?_
  intro p e s m args below meth c hC hret hlk
  refine z_conv (L2 := [(0, iv a), (1, iv b)]) ?_ rfl rfl rfl
  refine z_iload_n hC 0 rfl dJ9_max_7cf53_0 rfl ?_
  refine z_iload_n hC 1 rfl dJ9_max_7cf53_1 rfl ?_
  refine z_icmp_lt hC 9 dJ9_max_7cf53_2 (by decide) (by omega) (by omega) (fun c2 => ?_) (fun c2 => ?_)
  · skip
    refine z_iload_n hC 1 rfl dJ9_max_7cf53_9 rfl ?_
    exact z_iret hC hret hlk rfl (by first | rw [if_pos (by omega)] | rw [if_neg (by omega)]) (by rfl) dJ9_max_7cf53_10
  · skip
    refine z_iload_n hC 0 rfl dJ9_max_7cf53_5 rfl ?_
    refine z_goto hC 10 dJ9_max_7cf53_6 (by decide) ?_
    exact z_iret hC hret hlk rfl (by first | rw [if_pos (by omega)] | rw [if_neg (by omega)]) (by rfl) dJ9_max_7cf53_10
set_option maxHeartbeats 4000000 in
set_option maxRecDepth 100000 in
theorem k_X10_isIn (l : Launch) (D : va_G) (tc : Nat → ClassId) (ad : Nat → Nat → Nat) (hI : zI ad okM) (M : zM) (a lo hi : Int) (ha : -2147483648 ≤ a ∧ a < 2147483648) (hb : -2147483648 ≤ lo ∧ lo < 2147483648) (hc : -2147483648 ≤ hi ∧ hi < 2147483648) : zMi l yX10_isIn cX10_isIn 3 (some .boolean) 0 D (tysM tc) ad okM (tmM ad tc) [iv a, iv lo, iv hi] M (if lo ≤ a ∧ a ≤ hi then 1 else 0) M 0 0 := by
  refine z_met hI (plainFor_of_name (by decide)) (Nat.le_of_ble_eq_true rfl) ?_
  intro p e s m args below meth c hC hret hlk
  refine z_conv (L2 := [(0, iv a), (1, iv lo), (2, iv hi)]) ?_ rfl rfl rfl
  refine z_iload_n hC 0 rfl dX10_isIn_0 rfl ?_
  refine z_iload_n hC 1 rfl dX10_isIn_1 rfl ?_
  refine z_icmp_lt hC 14 dX10_isIn_2 (by decide) (by omega) (by omega) (fun c2 => ?_) (fun c2 => ?_)
  · skip
    refine z_iconst hC dX10_isIn_14 ?_
    exact z_iret hC hret hlk (by decide) (by first | rw [if_pos (by omega)] | rw [if_neg (by omega)]) (by rfl) dX10_isIn_15
  · skip
    refine z_iload_n hC 0 rfl dX10_isIn_5 rfl ?_
    refine z_iload_n hC 2 rfl dX10_isIn_6 rfl ?_
    refine z_icmp_gt hC 14 dX10_isIn_7 (by decide) (by omega) (by omega) (fun c7 => ?_) (fun c7 => ?_)
    · skip
      refine z_iconst hC dX10_isIn_14 ?_
      exact z_iret hC hret hlk (by decide) (by first | rw [if_pos (by omega)] | rw [if_neg (by omega)]) (by rfl) dX10_isIn_15
    · skip
      refine z_iconst hC dX10_isIn_10 ?_
      refine z_goto hC 15 dX10_isIn_11 (by decide) ?_
      exact z_iret hC hret hlk (by decide) (by first | rw [if_pos (by omega)] | rw [if_neg (by omega)]) (by rfl) dX10_isIn_15
set_option maxHeartbeats 4000000 in
set_option maxRecDepth 100000 in
theorem k_X10_isPlatform (l : Launch) (D : va_G) (tc : Nat → ClassId) (ad : Nat → Nat → Nat) (hI : zI ad okM) (M : zM) {T U : Int} (n : Int) (hW : WTM T U M) (hn : -2147483648 ≤ n ∧ n < 2147483648) : zMi l yX10_isPlatform cX10_isPlatform 2 (some .boolean) 1 D (tysM tc) ad okM (tmM ad tc) [.ref (ad 0 0), iv n] M (if 0 ≤ n ∧ n ≤ M 0 0 1 - 1 then 1 else 0) M 0 0 := by
  refine z_met hI (plainFor_of_name (by decide)) (Nat.le_of_ble_eq_true rfl) ?_
  intro p e s m args below meth c hC hret hlk
  refine z_conv (L2 := [(0, .ref (ad 0 0)), (1, iv n)]) ?_ rfl rfl rfl
  refine z_iload_n hC 1 rfl dX10_isPlatform_0 rfl ?_
  refine z_iconst hC dX10_isPlatform_1 ?_
  refine z_aload_n hC 0 rfl dX10_isPlatform_2 rfl ?_
  have hq1 : 0 ≤ M 0 0 1 ∧ M 0 0 1 ≤ 8 := hW.1 0 0 1
  refine z_getI hC zfX10_56 (tmM_0 ad tc _) (okM_0 (by omega)) rfl (x := M 0 0 1) (rfl) dX10_isPlatform_3 ?_
  refine z_iconst hC dX10_isPlatform_6 ?_
  refine z_isub hC dX10_isPlatform_7 ?_
  refine z_callSi hC zlX10_59 (k_X10_isIn l D tc ad hI M n 0 ((M 0 0 1) - 1) (by omega) (by omega) (by omega)) rfl rfl (Nat.le_of_ble_eq_true rfl) ⟨by decide, by decide⟩ ⟨by decide, by decide⟩ dX10_isPlatform_8 ?_
  exact z_iret hC hret hlk (by split <;> rfl) (by rfl) (by rfl) dX10_isPlatform_11
set_option maxHeartbeats 4000000 in
set_option maxRecDepth 100000 in
theorem k_X10_isLine (l : Launch) (D : va_G) (tc : Nat → ClassId) (ad : Nat → Nat → Nat) (hI : zI ad okM) (M : zM) {T U : Int} (n : Int) (hW : WTM T U M) (hn : -2147483648 ≤ n ∧ n < 2147483648) : zMi l yX10_isLine cX10_isLine 2 (some .boolean) 1 D (tysM tc) ad okM (tmM ad tc) [.ref (ad 0 0), iv n] M (if 0 ≤ n ∧ n ≤ M 0 0 5 - 1 then 1 else 0) M 0 0 := by
  refine z_met hI (plainFor_of_name (by decide)) (Nat.le_of_ble_eq_true rfl) ?_
  intro p e s m args below meth c hC hret hlk
  refine z_conv (L2 := [(0, .ref (ad 0 0)), (1, iv n)]) ?_ rfl rfl rfl
  refine z_iload_n hC 1 rfl dX10_isLine_0 rfl ?_
  refine z_iconst hC dX10_isLine_1 ?_
  refine z_aload_n hC 0 rfl dX10_isLine_2 rfl ?_
  have hq1 : 0 ≤ M 0 0 5 ∧ M 0 0 5 ≤ 12 := hW.1 0 0 5
  refine z_getI hC zfX10_63 (tmM_0 ad tc _) (okM_0 (by omega)) rfl (x := M 0 0 5) (rfl) dX10_isLine_3 ?_
  refine z_iconst hC dX10_isLine_6 ?_
  refine z_isub hC dX10_isLine_7 ?_
  refine z_callSi hC zlX10_59 (k_X10_isIn l D tc ad hI M n 0 ((M 0 0 5) - 1) (by omega) (by omega) (by omega)) rfl rfl (Nat.le_of_ble_eq_true rfl) ⟨by decide, by decide⟩ ⟨by decide, by decide⟩ dX10_isLine_8 ?_
  exact z_iret hC hret hlk (by split <;> rfl) (by rfl) (by rfl) dX10_isLine_11
set_option maxHeartbeats 4000000 in
set_option maxRecDepth 100000 in
theorem k_X10_no (l : Launch) (D : va_G) (tc : Nat → ClassId) (ad : Nat → Nat → Nat) (hI : zI ad okM) (M : zM) (n : Int)  : zMi l yX10_no cX10_no 2 (some .int) 0 D (tysM tc) ad okM (tmM ad tc) [.ref (ad 0 0), iv n] M 0 (zup M 0 0 0 n) 0 0 := by
  refine z_met hI (plainFor_of_name (by decide)) (Nat.le_of_ble_eq_true rfl) ?_
  intro p e s m args below meth c hC hret hlk
  refine z_conv (L2 := [(0, .ref (ad 0 0)), (1, iv n)]) ?_ rfl rfl rfl
  refine z_aload_n hC 0 rfl dX10_no_0 rfl ?_
  refine z_iload_n hC 1 rfl dX10_no_1 rfl ?_
  refine z_put hC zgX10_52 (tmM_0 ad tc _) (okM_0 (by omega)) rfl dX10_no_2 ?_
  refine z_iconst hC dX10_no_5 ?_
  exact z_iret hC hret hlk rfl (by rfl) (by rfl) dX10_no_6
set_option maxHeartbeats 4000000 in
set_option maxRecDepth 100000 in
theorem k_X10_thrown (l : Launch) (D : va_G) (tc : Nat → ClassId) (ad : Nat → Nat → Nat) (hI : zI ad okM) (M : zM)   : zMi l yX10_thrown cX10_thrown 1 (some .int) 0 D (tysM tc) ad okM (tmM ad tc) [.ref (ad 0 0)] M (M 0 0 0) M 0 0 := by
  refine z_met hI (plainFor_of_name (by decide)) (Nat.le_of_ble_eq_true rfl) ?_
  intro p e s m args below meth c hC hret hlk
  refine z_conv (L2 := [(0, .ref (ad 0 0))]) ?_ rfl rfl rfl
  refine z_aload_n hC 0 rfl dX10_thrown_0 rfl ?_
  refine z_getI hC zfX10_52 (tmM_0 ad tc _) (okM_0 (by omega)) rfl (x := M 0 0 0) (rfl) dX10_thrown_1 ?_
  exact z_iret hC hret hlk rfl (by rfl) (by rfl) dX10_thrown_4
set_option maxHeartbeats 4000000 in
set_option maxRecDepth 100000 in
theorem k_X10_lengthOf (l : Launch) (D : va_G) (tc : Nat → ClassId) (ad : Nat → Nat → Nat) (hI : zI ad okM) (M : zM) {T U : Int} (q : Int) (hW : WTM T U M) (hl : 0 ≤ q ∧ q ≤ 11) : zMi l yX10_lengthOf cX10_lengthOf 2 (some .int) 1 D (tysM tc) ad okM (tmM ad tc) [.ref (ad 0 0), iv q] M (lenM M q) M 0 0 := by
  refine z_met hI (plainFor_of_name (by decide)) (Nat.le_of_ble_eq_true rfl) ?_
  intro p e s m args below meth c hC hret hlk
  refine z_conv (L2 := [(0, .ref (ad 0 0)), (1, iv q)]) ?_ rfl rfl rfl
  refine z_aload_n hC 0 rfl dX10_lengthOf_0 rfl ?_
  refine z_getR hC zfX10_9 (tmM_0 ad tc _) (okM_0 (by omega)) rfl dX10_lengthOf_1 ?_
  refine z_aload_n hC 0 rfl dX10_lengthOf_4 rfl ?_
  refine z_getR hC zfX10_19 (tmM_0 ad tc _) (okM_0 (by omega)) rfl dX10_lengthOf_5 ?_
  refine z_iload_n hC 1 rfl dX10_lengthOf_8 rfl ?_
  have hq1 : 0 ≤ M 4 0 ((q).toNat) ∧ M 4 0 ((q).toNat) ≤ 7 := hW.1 4 0 ((q).toNat)
  refine z_iaload hC 0 ((q).toNat) (tmM_4 ad tc _) (tysM_0 tc) (okM_4 (by omega)) (by omega) (by omega) (by decide) (x := M 4 0 ((q).toNat)) (rfl) dX10_lengthOf_9 ?_
  have hq2 : 0 ≤ M 1 0 ((M 4 0 ((q).toNat)).toNat) ∧ M 1 0 ((M 4 0 ((q).toNat)).toNat) ≤ 40 := hW.1 1 0 ((M 4 0 ((q).toNat)).toNat)
  refine z_iaload hC 0 ((M 4 0 ((q).toNat)).toNat) (tmM_1 ad tc _) (tysM_0 tc) (okM_1 (by omega)) (by omega) (by omega) (by decide) (x := M 1 0 ((M 4 0 ((q).toNat)).toNat)) (rfl) dX10_lengthOf_10 ?_
  refine z_aload_n hC 0 rfl dX10_lengthOf_11 rfl ?_
  refine z_getR hC zfX10_9 (tmM_0 ad tc _) (okM_0 (by omega)) rfl dX10_lengthOf_12 ?_
  refine z_aload_n hC 0 rfl dX10_lengthOf_15 rfl ?_
  refine z_getR hC zfX10_22 (tmM_0 ad tc _) (okM_0 (by omega)) rfl dX10_lengthOf_16 ?_
  refine z_iload_n hC 1 rfl dX10_lengthOf_19 rfl ?_
  have hq3 : 0 ≤ M 5 0 ((q).toNat) ∧ M 5 0 ((q).toNat) ≤ 7 := hW.1 5 0 ((q).toNat)
  refine z_iaload hC 0 ((q).toNat) (tmM_5 ad tc _) (tysM_0 tc) (okM_5 (by omega)) (by omega) (by omega) (by decide) (x := M 5 0 ((q).toNat)) (rfl) dX10_lengthOf_20 ?_
  have hq4 : 0 ≤ M 1 0 ((M 5 0 ((q).toNat)).toNat) ∧ M 1 0 ((M 5 0 ((q).toNat)).toNat) ≤ 40 := hW.1 1 0 ((M 5 0 ((q).toNat)).toNat)
  refine z_iaload hC 0 ((M 5 0 ((q).toNat)).toNat) (tmM_1 ad tc _) (tysM_0 tc) (okM_1 (by omega)) (by omega) (by omega) (by decide) (x := M 1 0 ((M 5 0 ((q).toNat)).toNat)) (rfl) dX10_lengthOf_21 ?_
  refine z_isub hC dX10_lengthOf_22 ?_
  refine z_callSi hC zlX10_66 (m_J9_abs_0f7a4 l D tc ad hI M ((M 1 0 ((M 4 0 ((q).toNat)).toNat)) - (M 1 0 ((M 5 0 ((q).toNat)).toNat))) (by omega)) rfl rfl (Nat.le_of_ble_eq_true rfl) ⟨by decide, by decide⟩ ⟨by decide, by decide⟩ dX10_lengthOf_23 ?_
  refine z_aload_n hC 0 rfl dX10_lengthOf_26 rfl ?_
  refine z_getR hC zfX10_13 (tmM_0 ad tc _) (okM_0 (by omega)) rfl dX10_lengthOf_27 ?_
  refine z_aload_n hC 0 rfl dX10_lengthOf_30 rfl ?_
  refine z_getR hC zfX10_19 (tmM_0 ad tc _) (okM_0 (by omega)) rfl dX10_lengthOf_31 ?_
  refine z_iload_n hC 1 rfl dX10_lengthOf_34 rfl ?_
  have hq5 : 0 ≤ M 4 0 ((q).toNat) ∧ M 4 0 ((q).toNat) ≤ 7 := hW.1 4 0 ((q).toNat)
  refine z_iaload hC 0 ((q).toNat) (tmM_4 ad tc _) (tysM_0 tc) (okM_4 (by omega)) (by omega) (by omega) (by decide) (x := M 4 0 ((q).toNat)) (rfl) dX10_lengthOf_35 ?_
  have hq6 : 0 ≤ M 2 0 ((M 4 0 ((q).toNat)).toNat) ∧ M 2 0 ((M 4 0 ((q).toNat)).toNat) ≤ 40 := hW.1 2 0 ((M 4 0 ((q).toNat)).toNat)
  refine z_iaload hC 0 ((M 4 0 ((q).toNat)).toNat) (tmM_2 ad tc _) (tysM_0 tc) (okM_2 (by omega)) (by omega) (by omega) (by decide) (x := M 2 0 ((M 4 0 ((q).toNat)).toNat)) (rfl) dX10_lengthOf_36 ?_
  refine z_aload_n hC 0 rfl dX10_lengthOf_37 rfl ?_
  refine z_getR hC zfX10_13 (tmM_0 ad tc _) (okM_0 (by omega)) rfl dX10_lengthOf_38 ?_
  refine z_aload_n hC 0 rfl dX10_lengthOf_41 rfl ?_
  refine z_getR hC zfX10_22 (tmM_0 ad tc _) (okM_0 (by omega)) rfl dX10_lengthOf_42 ?_
  refine z_iload_n hC 1 rfl dX10_lengthOf_45 rfl ?_
  have hq7 : 0 ≤ M 5 0 ((q).toNat) ∧ M 5 0 ((q).toNat) ≤ 7 := hW.1 5 0 ((q).toNat)
  refine z_iaload hC 0 ((q).toNat) (tmM_5 ad tc _) (tysM_0 tc) (okM_5 (by omega)) (by omega) (by omega) (by decide) (x := M 5 0 ((q).toNat)) (rfl) dX10_lengthOf_46 ?_
  have hq8 : 0 ≤ M 2 0 ((M 5 0 ((q).toNat)).toNat) ∧ M 2 0 ((M 5 0 ((q).toNat)).toNat) ≤ 40 := hW.1 2 0 ((M 5 0 ((q).toNat)).toNat)
  refine z_iaload hC 0 ((M 5 0 ((q).toNat)).toNat) (tmM_2 ad tc _) (tysM_0 tc) (okM_2 (by omega)) (by omega) (by omega) (by decide) (x := M 2 0 ((M 5 0 ((q).toNat)).toNat)) (rfl) dX10_lengthOf_47 ?_
  refine z_isub hC dX10_lengthOf_48 ?_
  refine z_callSi hC zlX10_66 (m_J9_abs_0f7a4 l D tc ad hI M ((M 2 0 ((M 4 0 ((q).toNat)).toNat)) - (M 2 0 ((M 5 0 ((q).toNat)).toNat))) (by omega)) rfl rfl (Nat.le_of_ble_eq_true rfl) ⟨by decide, by decide⟩ ⟨by decide, by decide⟩ dX10_lengthOf_49 ?_
  refine z_iadd hC dX10_lengthOf_52 ?_
  exact z_iret hC hret hlk rfl (by rfl) (by rfl) dX10_lengthOf_53
set_option maxHeartbeats 4000000 in
set_option maxRecDepth 100000 in
theorem k_X10_dropOf (l : Launch) (D : va_G) (tc : Nat → ClassId) (ad : Nat → Nat → Nat) (hI : zI ad okM) (M : zM) {T U : Int} (q : Int) (hW : WTM T U M) (hl : 0 ≤ q ∧ q ≤ 11) : zMi l yX10_dropOf cX10_dropOf 2 (some .int) 0 D (tysM tc) ad okM (tmM ad tc) [.ref (ad 0 0), iv q] M (dropM M q) M 0 0 := by
  refine z_met hI (plainFor_of_name (by decide)) (Nat.le_of_ble_eq_true rfl) ?_
  intro p e s m args below meth c hC hret hlk
  refine z_conv (L2 := [(0, .ref (ad 0 0)), (1, iv q)]) ?_ rfl rfl rfl
  refine z_aload_n hC 0 rfl dX10_dropOf_0 rfl ?_
  refine z_getR hC zfX10_16 (tmM_0 ad tc _) (okM_0 (by omega)) rfl dX10_dropOf_1 ?_
  refine z_aload_n hC 0 rfl dX10_dropOf_4 rfl ?_
  refine z_getR hC zfX10_19 (tmM_0 ad tc _) (okM_0 (by omega)) rfl dX10_dropOf_5 ?_
  refine z_iload_n hC 1 rfl dX10_dropOf_8 rfl ?_
  have hq1 : 0 ≤ M 4 0 ((q).toNat) ∧ M 4 0 ((q).toNat) ≤ 7 := hW.1 4 0 ((q).toNat)
  refine z_iaload hC 0 ((q).toNat) (tmM_4 ad tc _) (tysM_0 tc) (okM_4 (by omega)) (by omega) (by omega) (by decide) (x := M 4 0 ((q).toNat)) (rfl) dX10_dropOf_9 ?_
  have hq2 : 0 ≤ M 3 0 ((M 4 0 ((q).toNat)).toNat) ∧ M 3 0 ((M 4 0 ((q).toNat)).toNat) ≤ 60 := hW.1 3 0 ((M 4 0 ((q).toNat)).toNat)
  refine z_iaload hC 0 ((M 4 0 ((q).toNat)).toNat) (tmM_3 ad tc _) (tysM_0 tc) (okM_3 (by omega)) (by omega) (by omega) (by decide) (x := M 3 0 ((M 4 0 ((q).toNat)).toNat)) (rfl) dX10_dropOf_10 ?_
  refine z_aload_n hC 0 rfl dX10_dropOf_11 rfl ?_
  refine z_getR hC zfX10_16 (tmM_0 ad tc _) (okM_0 (by omega)) rfl dX10_dropOf_12 ?_
  refine z_aload_n hC 0 rfl dX10_dropOf_15 rfl ?_
  refine z_getR hC zfX10_22 (tmM_0 ad tc _) (okM_0 (by omega)) rfl dX10_dropOf_16 ?_
  refine z_iload_n hC 1 rfl dX10_dropOf_19 rfl ?_
  have hq3 : 0 ≤ M 5 0 ((q).toNat) ∧ M 5 0 ((q).toNat) ≤ 7 := hW.1 5 0 ((q).toNat)
  refine z_iaload hC 0 ((q).toNat) (tmM_5 ad tc _) (tysM_0 tc) (okM_5 (by omega)) (by omega) (by omega) (by decide) (x := M 5 0 ((q).toNat)) (rfl) dX10_dropOf_20 ?_
  have hq4 : 0 ≤ M 3 0 ((M 5 0 ((q).toNat)).toNat) ∧ M 3 0 ((M 5 0 ((q).toNat)).toNat) ≤ 60 := hW.1 3 0 ((M 5 0 ((q).toNat)).toNat)
  refine z_iaload hC 0 ((M 5 0 ((q).toNat)).toNat) (tmM_3 ad tc _) (tysM_0 tc) (okM_3 (by omega)) (by omega) (by omega) (by decide) (x := M 3 0 ((M 5 0 ((q).toNat)).toNat)) (rfl) dX10_dropOf_21 ?_
  refine z_isub hC dX10_dropOf_22 ?_
  exact z_iret hC hret hlk rfl (by rfl) (by rfl) dX10_dropOf_23
set_option maxHeartbeats 4000000 in
set_option maxRecDepth 100000 in
theorem k_X10_isClosed (l : Launch) (D : va_G) (tc : Nat → ClassId) (ad : Nat → Nat → Nat) (hI : zI ad okM) (M : zM) {T U : Int} (q mi : Int) (hW : WTM T U M) (hl : 0 ≤ q ∧ q ≤ 11) (hm : 0 ≤ mi ∧ mi < 2147483648) : zMi l yX10_isClosed cX10_isClosed 3 (some .boolean) 2 D (tysM tc) ad okM (tmM ad tc) [.ref (ad 0 0), iv q, iv mi] M (if closedM M q mi then 1 else 0) M 0 0 := by
  have hm1 := Int.emod_nonneg mi (show (12:Int) ≠ 0 by decide)
  have hm2 := Int.emod_lt_of_pos mi (show (0:Int) < 12 by decide)
  have hlb := lenM_bd hW q
  refine z_met hI (plainFor_of_name (by decide)) (Nat.le_of_ble_eq_true rfl) ?_
  intro p e s m args below meth c hC hret hlk
  refine z_conv (L2 := [(0, .ref (ad 0 0)), (1, iv q), (2, iv mi)]) ?_ rfl rfl rfl
  refine z_aload_n hC 0 rfl dX10_isClosed_0 rfl ?_
  refine z_iload_n hC 1 rfl dX10_isClosed_1 rfl ?_
  refine z_callVi hC zlX10_72 (k_X10_lengthOf l D tc ad hI M q hW (by omega)) (tmM_0 ad tc _) rfl (okM_0 (by omega)) rfl rfl (Nat.le_of_ble_eq_true rfl) ⟨by decide, by decide⟩ ⟨by decide, by decide⟩ dX10_isClosed_2 ?_
  refine z_bipush hC dX10_isClosed_5 (by decide) ?_
  refine z_bipush hC dX10_isClosed_7 (by decide) ?_
  refine z_aload_n hC 0 rfl dX10_isClosed_9 rfl ?_
  refine z_getR hC zfX10_28 (tmM_0 ad tc _) (okM_0 (by omega)) rfl dX10_isClosed_10 ?_
  refine z_iload_n hC 2 rfl dX10_isClosed_13 rfl ?_
  refine z_bipush hC dX10_isClosed_14 (by decide) ?_
  refine z_irem hC dX10_isClosed_16 (by omega) (by omega) ?_
  have hq1 : 0 ≤ M 7 0 ((mi % 12).toNat) ∧ M 7 0 ((mi % 12).toNat) ≤ 9 := hW.1 7 0 ((mi % 12).toNat)
  refine z_iaload hC 0 ((mi % 12).toNat) (tmM_7 ad tc _) (tysM_0 tc) (okM_7 (by omega)) (by omega) (by omega) (by decide) (x := M 7 0 ((mi % 12).toNat)) (rfl) dX10_isClosed_17 ?_
  refine z_imul hC dX10_isClosed_18 ?_
  refine z_isub hC dX10_isClosed_19 ?_
  refine z_icmp_le hC 27 dX10_isClosed_20 (by decide) (by omega) (by omega) (fun c20 => ?_) (fun c20 => ?_)
  · skip
    refine z_iconst hC dX10_isClosed_27 ?_
    exact z_iret hC hret hlk (by decide) (by first | rw [if_pos (by omega)] | rw [if_neg (by omega)]) (by rfl) dX10_isClosed_28
  · skip
    refine z_iconst hC dX10_isClosed_23 ?_
    refine z_goto hC 28 dX10_isClosed_24 (by decide) ?_
    exact z_iret hC hret hlk (by decide) (by first | rw [if_pos (by omega)] | rw [if_neg (by omega)]) (by rfl) dX10_isClosed_28
set_option maxHeartbeats 4000000 in
set_option maxRecDepth 100000 in
theorem k_X10_rideOf (l : Launch) (D : va_G) (tc : Nat → ClassId) (ad : Nat → Nat → Nat) (hI : zI ad okM) (M : zM) {T U : Int} (q w : Int) (hW : WTM T U M) (hl : 0 ≤ q ∧ q < M 0 0 5) (hw : 20 ≤ w ∧ w ≤ 120) : zMi l yX10_rideOf cX10_rideOf 5 (some .int) 2 D (tysM tc) ad okM (tmM ad tc) [.ref (ad 0 0), iv q, iv w] M (rideM M q w) M 0 0 := by
  have hlc : 0 ≤ M 0 0 5 ∧ M 0 0 5 ≤ 12 := hW.1 0 0 5
  have hlb := lenM_bd hW q
  have hdb := dropM_bd hW hl
  have hp1 := Int.mul_nonneg (show 0 ≤ w by omega) (show 0 ≤ dropM M q by omega)
  have hp2 : w * dropM M q ≤ 120 * 60 := Int.mul_le_mul hw.2 hdb.2 (by omega) (by decide)
  refine z_met hI (plainFor_of_name (by decide)) (Nat.le_of_ble_eq_true rfl) ?_
  intro p e s m args below meth c hC hret hlk
  refine z_conv (L2 := [(0, .ref (ad 0 0)), (1, iv q), (2, iv w)]) ?_ rfl rfl rfl
  refine z_aload_n hC 0 rfl dX10_rideOf_0 rfl ?_
  refine z_iload_n hC 1 rfl dX10_rideOf_1 rfl ?_
  refine z_callVi hC zlX10_75 (k_X10_dropOf l D tc ad hI M q hW (by omega)) (tmM_0 ad tc _) rfl (okM_0 (by omega)) rfl rfl (Nat.le_of_ble_eq_true rfl) ⟨by decide, by decide⟩ ⟨by decide, by decide⟩ dX10_rideOf_2 ?_
  refine z_iload_n hC 2 rfl dX10_rideOf_5 rfl ?_
  refine z_bipush hC dX10_rideOf_6 (by decide) ?_
  refine z_idiv hC dX10_rideOf_8 (by omega) (by omega) ?_
  refine z_iadd hC dX10_rideOf_9 ?_
  refine z_istore_n hC (L' := [(3, iv ((dropM M q) + (w / 10))), (0, .ref (ad 0 0)), (1, iv q), (2, iv w)]) dX10_rideOf_10 rfl (by decide) rfl ?_
  refine z_iconst hC dX10_rideOf_11 ?_
  refine z_aload_n hC 1 rfl dX10_rideOf_12 rfl ?_
  refine z_iload_n hC 2 rfl dX10_rideOf_13 rfl ?_
  refine z_callVi hC zlX10_72 (k_X10_lengthOf l D tc ad hI M q hW (by omega)) (tmM_0 ad tc _) rfl (okM_0 (by omega)) rfl rfl (Nat.le_of_ble_eq_true rfl) ⟨by decide, by decide⟩ ⟨by decide, by decide⟩ dX10_rideOf_14 ?_
  refine z_imul hC dX10_rideOf_17 ?_
  refine z_iload_n hC 0 rfl dX10_rideOf_18 rfl ?_
  refine z_iadd hC dX10_rideOf_19 ?_
  refine z_iconst hC dX10_rideOf_20 ?_
  refine z_isub hC dX10_rideOf_21 ?_
  refine z_iload_n hC 0 rfl dX10_rideOf_22 rfl ?_
  refine z_idiv hC dX10_rideOf_23 (by omega) (by omega) ?_
  refine z_istore hC (L' := [(4, iv ((((2 * (lenM M q)) + ((dropM M q) + (w / 10))) - 1) / ((dropM M q) + (w / 10)))), (3, iv ((dropM M q) + (w / 10))), (0, .ref (ad 0 0)), (1, iv q), (2, iv w)]) dX10_rideOf_24 (by decide) rfl ?_
  refine z_iload_n hC 4 rfl dX10_rideOf_26 rfl ?_
  refine z_aload_n hC 2 rfl dX10_rideOf_27 rfl ?_
  refine z_iload_n hC 3 rfl dX10_rideOf_28 rfl ?_
  refine z_callVi hC zlX10_75 (k_X10_dropOf l D tc ad hI M q hW (by omega)) (tmM_0 ad tc _) rfl (okM_0 (by omega)) rfl rfl (Nat.le_of_ble_eq_true rfl) ⟨by decide, by decide⟩ ⟨by decide, by decide⟩ dX10_rideOf_29 ?_
  refine z_imul hC dX10_rideOf_32 ?_
  refine z_bipush hC dX10_rideOf_33 (by decide) ?_
  refine z_aload_n hC 2 rfl dX10_rideOf_35 rfl ?_
  refine z_iload_n hC 3 rfl dX10_rideOf_36 rfl ?_
  refine z_callVi hC zlX10_72 (k_X10_lengthOf l D tc ad hI M q hW (by omega)) (tmM_0 ad tc _) rfl (okM_0 (by omega)) rfl rfl (Nat.le_of_ble_eq_true rfl) ⟨by decide, by decide⟩ ⟨by decide, by decide⟩ dX10_rideOf_37 ?_
  refine z_imul hC dX10_rideOf_40 ?_
  refine z_icmp_ge hC 52 dX10_rideOf_41 (by decide) (by omega) (by omega) (fun c41 => ?_) (fun c41 => ?_)
  · skip
    refine z_iload hC 0 rfl dX10_rideOf_52 ?_
    exact z_iret hC hret hlk rfl (by simp only [rideM]; first | rw [if_pos (by assumption)] | rw [if_neg (by omega)]) (by rfl) dX10_rideOf_54
  · skip
    refine z_bipush hC dX10_rideOf_44 (by decide) ?_
    refine z_iload hC 0 rfl dX10_rideOf_46 ?_
    refine z_imul hC dX10_rideOf_48 ?_
    refine z_goto hC 54 dX10_rideOf_49 (by decide) ?_
    exact z_iret hC hret hlk rfl (by simp only [rideM]; first | rw [if_pos (by assumption)] | rw [if_neg (by omega)]) (by rfl) dX10_rideOf_54
set_option maxHeartbeats 4000000 in
set_option maxRecDepth 100000 in
theorem k_X9_many (l : Launch) (D : va_G) (tc : Nat → ClassId) (ad : Nat → Nat → Nat) (hI : zI ad okM) (M : zM) {T U : Int} (u : Nat) (sx : Int) (hu : u < 2) (hW : WTM T U M) (hs : -2147483648 ≤ sx ∧ sx < 2147483648) : zMi l yX9_many cX9_many 4 (some .int) 0 D (tysM tc) ad okM (tmM ad tc) [.ref (ad 11 u), iv sx] M (manyM M u sx) M 0 0 := by
  have hrc : 0 ≤ M 0 0 10 ∧ M 0 0 10 ≤ 12 := hW.1 0 0 10
  refine z_met hI (plainFor_of_name (by decide)) (Nat.le_of_ble_eq_true rfl) ?_
  intro p e s m args below meth c hC hret hlk
  refine z_conv (L2 := [(0, .ref (ad 11 u)), (1, iv sx)]) ?_ rfl rfl rfl
  have hc4 : ∀ (d4 : Nat) (j : Nat) (hj : j ≤ (M 0 0 10).toNat), (M 0 0 10).toNat - j = d4 → zV p l e (zrm 0 0 0) s m args below meth c (MQ below (zQi D ad okM (tmM ad tc) (manyM M u sx) M (zA ad okM s.heap.size)) args s 0 0 (zA ad okM s.heap.size)) D ad okM (tmM ad tc) (zA ad okM s.heap.size) s.heap 4 0 0 M [(0, .ref (ad 11 u)), (1, iv sx), (2, iv (zcnt (fun j => M 20 u j = sx) j)), (3, iv ((j : Nat) : Int))] 4 [] := by
    intro d4
    induction d4 using Nat.strongRecOn with
    | _ d4 ih4 =>
      intro j hj hd4
      refine z_iload_n hC 3 rfl dX9_many_4 rfl ?_
      refine z_aload_n hC 0 rfl dX9_many_5 rfl ?_
      refine z_getR hC zfX9_3 (tmM_11 ad tc _) (okM_11 (by omega)) rfl dX9_many_6 ?_
      have hq1 : 0 ≤ M 0 0 10 ∧ M 0 0 10 ≤ 12 := hW.1 0 0 10
      refine z_getIN hC zfX9_69 (tmM_0 ad tc _) (okM_0 (by omega)) rfl (x := M 0 0 10) (rfl) dX9_many_9 ?_
      refine z_icmp_ge hC 39 dX9_many_12 (by decide) (by omega) (by omega) (fun c12 => ?_) (fun c12 => ?_)
      · skip
        have he : j = (M 0 0 10).toNat := by omega
        subst he
        refine z_iload_n hC 2 rfl dX9_many_39 rfl ?_
        exact z_iret hC hret hlk rfl (by rfl) (by rfl) dX9_many_40
      · skip
        refine z_iload_n hC 2 rfl dX9_many_15 rfl ?_
        refine z_aload_n hC 0 rfl dX9_many_16 rfl ?_
        refine z_getR hC zfX9_40 (tmM_11 ad tc _) (okM_11 (by omega)) rfl dX9_many_17 ?_
        refine z_iload_n hC 3 rfl dX9_many_20 rfl ?_
        have hq2 : 0 ≤ M 20 u j ∧ M 20 u j ≤ 3 := hW.1 20 u j
        refine z_iaload hC 0 (j) (tmM_20 ad tc _) (tysM_0 tc) (okM_20 (by omega)) (rfl) (by omega) (by decide) (x := M 20 u j) (rfl) dX9_many_21 ?_
        refine z_iload_n hC 1 rfl dX9_many_22 rfl ?_
        refine z_icmp_ne hC 30 dX9_many_23 (by decide) (by omega) (by omega) (fun c23 => ?_) (fun c23 => ?_)
        · skip
          refine z_iconst hC dX9_many_30 ?_
          refine z_iadd hC dX9_many_31 ?_
          refine z_istore_n hC (L' := [(2, iv ((zcnt (fun j => M 20 u j = sx) j) + 0)), (0, .ref (ad 11 u)), (1, iv sx), (3, iv ((j : Nat) : Int))]) dX9_many_32 rfl (by decide) rfl ?_
          refine z_iinc hC 3 (L' := [(3, iv (((j : Nat) : Int) + 1)), (2, iv ((zcnt (fun j => M 20 u j = sx) j) + 0)), (0, .ref (ad 11 u)), (1, iv sx)]) dX9_many_33 rfl (by decide) rfl ?_
          refine z_goto hC 4 dX9_many_36 (by decide) ?_
          refine z_perm [2, 3, 1, 0] (L' := [(0, .ref (ad 11 u)), (1, iv sx), (2, iv ((zcnt (fun j => M 20 u j = sx) j) + 0)), (3, iv (((j : Nat) : Int) + 1))]) rfl ?_
          exact z_conv (ih4 _ (by omega) (j + 1) (by omega) rfl) (by rfl) (by simp only [zcnt]; simp [*]) (by rfl)
        · skip
          refine z_iconst hC dX9_many_26 ?_
          refine z_goto hC 31 dX9_many_27 (by decide) ?_
          refine z_iadd hC dX9_many_31 ?_
          refine z_istore_n hC (L' := [(2, iv ((zcnt (fun j => M 20 u j = sx) j) + 1)), (0, .ref (ad 11 u)), (1, iv sx), (3, iv ((j : Nat) : Int))]) dX9_many_32 rfl (by decide) rfl ?_
          refine z_iinc hC 3 (L' := [(3, iv (((j : Nat) : Int) + 1)), (2, iv ((zcnt (fun j => M 20 u j = sx) j) + 1)), (0, .ref (ad 11 u)), (1, iv sx)]) dX9_many_33 rfl (by decide) rfl ?_
          refine z_goto hC 4 dX9_many_36 (by decide) ?_
          refine z_perm [2, 3, 1, 0] (L' := [(0, .ref (ad 11 u)), (1, iv sx), (2, iv ((zcnt (fun j => M 20 u j = sx) j) + 1)), (3, iv (((j : Nat) : Int) + 1))]) rfl ?_
          exact z_conv (ih4 _ (by omega) (j + 1) (by omega) rfl) (by rfl) (by simp only [zcnt]; simp [*]) (by rfl)
  refine z_iconst hC dX9_many_0 ?_
  refine z_istore_n hC (L' := [(2, iv 0), (0, .ref (ad 11 u)), (1, iv sx)]) dX9_many_1 rfl (by decide) rfl ?_
  refine z_iconst hC dX9_many_2 ?_
  refine z_istore_n hC (L' := [(3, iv 0), (2, iv 0), (0, .ref (ad 11 u)), (1, iv sx)]) dX9_many_3 rfl (by decide) rfl ?_
  refine z_perm [2, 3, 1, 0] (L' := [(0, .ref (ad 11 u)), (1, iv sx), (2, iv 0), (3, iv 0)]) rfl ?_
  exact z_conv (hc4 _ 0 (by omega) rfl) (by rfl) (by rfl) (by rfl)
set_option maxHeartbeats 4000000 in
set_option maxRecDepth 100000 in
theorem k_X9_riding (l : Launch) (D : va_G) (tc : Nat → ClassId) (ad : Nat → Nat → Nat) (hI : zI ad okM) (M : zM) {T U : Int} (u : Nat) (q : Int) (hu : u < 2) (hW : WTM T U M) (hl : 0 ≤ q ∧ q ≤ 11) : zMi l yX9_riding cX9_riding 4 (some .int) 0 D (tysM tc) ad okM (tmM ad tc) [.ref (ad 11 u), iv q] M (ridingM M u q) M 0 0 := by
  have hou : 0 ≤ M 13 u q.toNat ∧ M 13 u q.toNat ≤ 3 := hW.1 13 u q.toNat
  refine z_met hI (plainFor_of_name (by decide)) (Nat.le_of_ble_eq_true rfl) ?_
  intro p e s m args below meth c hC hret hlk
  refine z_conv (L2 := [(0, .ref (ad 11 u)), (1, iv q)]) ?_ rfl rfl rfl
  have hc6 : ∀ (d6 : Nat) (j : Nat) (hj : j ≤ (M 13 u q.toNat).toNat), (M 13 u q.toNat).toNat - j = d6 → zV p l e (zrm 0 0 0) s m args below meth c (MQ below (zQi D ad okM (tmM ad tc) (ridingM M u q) M (zA ad okM s.heap.size)) args s 0 0 (zA ad okM s.heap.size)) D ad okM (tmM ad tc) (zA ad okM s.heap.size) s.heap 4 0 0 M [(0, .ref (ad 11 u)), (1, iv q), (2, iv (zcnt (fun j => M 14 u (3 * q.toNat + j) ≠ -1) j)), (3, iv ((3 * q.toNat + j : Nat) : Int))] 6 [] := by
    intro d6
    induction d6 using Nat.strongRecOn with
    | _ d6 ih6 =>
      intro j hj hd6
      refine z_iload_n hC 3 rfl dX9_riding_6 rfl ?_
      refine z_iconst hC dX9_riding_7 ?_
      refine z_iload_n hC 1 rfl dX9_riding_8 rfl ?_
      refine z_imul hC dX9_riding_9 ?_
      refine z_aload_n hC 0 rfl dX9_riding_10 rfl ?_
      refine z_getR hC zfX9_19 (tmM_11 ad tc _) (okM_11 (by omega)) rfl dX9_riding_11 ?_
      refine z_iload_n hC 1 rfl dX9_riding_14 rfl ?_
      have hq1 : 0 ≤ M 13 u ((q).toNat) ∧ M 13 u ((q).toNat) ≤ 3 := hW.1 13 u ((q).toNat)
      refine z_iaload hC 0 ((q).toNat) (tmM_13 ad tc _) (tysM_0 tc) (okM_13 (by omega)) (by omega) (by omega) (by decide) (x := M 13 u ((q).toNat)) (rfl) dX9_riding_15 ?_
      refine z_iadd hC dX9_riding_16 ?_
      refine z_icmp_ge hC 44 dX9_riding_17 (by decide) (by omega) (by omega) (fun c17 => ?_) (fun c17 => ?_)
      · skip
        have he : j = (M 13 u q.toNat).toNat := by omega
        subst he
        refine z_iload_n hC 2 rfl dX9_riding_44 rfl ?_
        exact z_iret hC hret hlk rfl (by rfl) (by rfl) dX9_riding_45
      · skip
        refine z_iload_n hC 2 rfl dX9_riding_20 rfl ?_
        refine z_aload_n hC 0 rfl dX9_riding_21 rfl ?_
        refine z_getR hC zfX9_22 (tmM_11 ad tc _) (okM_11 (by omega)) rfl dX9_riding_22 ?_
        refine z_iload_n hC 3 rfl dX9_riding_25 rfl ?_
        have hq2 : -1 ≤ M 14 u (3 * q.toNat + j) ∧ M 14 u (3 * q.toNat + j) ≤ 11 := hW.1 14 u (3 * q.toNat + j)
        refine z_iaload hC 0 (3 * q.toNat + j) (tmM_14 ad tc _) (tysM_0 tc) (okM_14 (by omega)) (rfl) (by omega) (by decide) (x := M 14 u (3 * q.toNat + j)) (rfl) dX9_riding_26 ?_
        refine z_iconst hC dX9_riding_27 ?_
        refine z_icmp_ne hC 35 dX9_riding_28 (by decide) (by omega) (by omega) (fun c28 => ?_) (fun c28 => ?_)
        · skip
          refine z_iconst hC dX9_riding_35 ?_
          refine z_iadd hC dX9_riding_36 ?_
          refine z_istore_n hC (L' := [(2, iv ((zcnt (fun j => M 14 u (3 * q.toNat + j) ≠ -1) j) + 1)), (0, .ref (ad 11 u)), (1, iv q), (3, iv ((3 * q.toNat + j : Nat) : Int))]) dX9_riding_37 rfl (by decide) rfl ?_
          refine z_iinc hC 3 (L' := [(3, iv (((3 * q.toNat + j : Nat) : Int) + 1)), (2, iv ((zcnt (fun j => M 14 u (3 * q.toNat + j) ≠ -1) j) + 1)), (0, .ref (ad 11 u)), (1, iv q)]) dX9_riding_38 rfl (by decide) rfl ?_
          refine z_goto hC 6 dX9_riding_41 (by decide) ?_
          refine z_perm [2, 3, 1, 0] (L' := [(0, .ref (ad 11 u)), (1, iv q), (2, iv ((zcnt (fun j => M 14 u (3 * q.toNat + j) ≠ -1) j) + 1)), (3, iv (((3 * q.toNat + j : Nat) : Int) + 1))]) rfl ?_
          exact z_conv (ih6 _ (by omega) (j + 1) (by omega) rfl) (by rfl) (by simp only [zcnt]; first | (rw [if_pos (by assumption)]; rfl) | (rw [if_neg (by omega)]; rfl)) (by rfl)
        · skip
          refine z_iconst hC dX9_riding_31 ?_
          refine z_goto hC 36 dX9_riding_32 (by decide) ?_
          refine z_iadd hC dX9_riding_36 ?_
          refine z_istore_n hC (L' := [(2, iv ((zcnt (fun j => M 14 u (3 * q.toNat + j) ≠ -1) j) + 0)), (0, .ref (ad 11 u)), (1, iv q), (3, iv ((3 * q.toNat + j : Nat) : Int))]) dX9_riding_37 rfl (by decide) rfl ?_
          refine z_iinc hC 3 (L' := [(3, iv (((3 * q.toNat + j : Nat) : Int) + 1)), (2, iv ((zcnt (fun j => M 14 u (3 * q.toNat + j) ≠ -1) j) + 0)), (0, .ref (ad 11 u)), (1, iv q)]) dX9_riding_38 rfl (by decide) rfl ?_
          refine z_goto hC 6 dX9_riding_41 (by decide) ?_
          refine z_perm [2, 3, 1, 0] (L' := [(0, .ref (ad 11 u)), (1, iv q), (2, iv ((zcnt (fun j => M 14 u (3 * q.toNat + j) ≠ -1) j) + 0)), (3, iv (((3 * q.toNat + j : Nat) : Int) + 1))]) rfl ?_
          exact z_conv (ih6 _ (by omega) (j + 1) (by omega) rfl) (by rfl) (by simp only [zcnt]; first | (rw [if_pos (by assumption)]; rfl) | (rw [if_neg (by omega)]; rfl)) (by rfl)
  refine z_iconst hC dX9_riding_0 ?_
  refine z_istore_n hC (L' := [(2, iv 0), (0, .ref (ad 11 u)), (1, iv q)]) dX9_riding_1 rfl (by decide) rfl ?_
  refine z_iconst hC dX9_riding_2 ?_
  refine z_iload_n hC 2 rfl dX9_riding_3 rfl ?_
  refine z_imul hC dX9_riding_4 ?_
  refine z_istore_n hC (L' := [(3, iv (3 * q)), (2, iv 0), (0, .ref (ad 11 u)), (1, iv q)]) dX9_riding_5 rfl (by decide) rfl ?_
  refine z_perm [2, 3, 1, 0] (L' := [(0, .ref (ad 11 u)), (1, iv q), (2, iv 0), (3, iv (3 * q))]) rfl ?_
  exact z_conv (hc6 _ 0 (by omega) rfl) (by rfl) (by simp [Int.toNat_of_nonneg hl.1, zcnt]) (by rfl)
set_option maxHeartbeats 4000000 in
set_option maxRecDepth 100000 in
theorem k_X9_leftOf (l : Launch) (D : va_G) (tc : Nat → ClassId) (ad : Nat → Nat → Nat) (hI : zI ad okM) (M : zM) {T U : Int} (u : Nat) (r : Int) (hu : u < 2) (hW : WTM T U M) (hr : 0 ≤ r ∧ r ≤ 11) : zMi l yX9_leftOf cX9_leftOf 3 (some .int) 0 D (tysM tc) ad okM (tmM ad tc) [.ref (ad 11 u), iv r] M (leftM M u r) M 0 0 := by
  refine z_met hI (plainFor_of_name (by decide)) (Nat.le_of_ble_eq_true rfl) ?_
  intro p e s m args below meth c hC hret hlk
  refine z_conv (L2 := [(0, .ref (ad 11 u)), (1, iv r)]) ?_ rfl rfl rfl
  have hc2 : ∀ (d2 : Nat) (j : Nat) (hj : j ≤ 36) (hz : ∀ k, k < j → ¬ leftP M u r k), 36 - j = d2 → zV p l e (zrm 0 0 0) s m args below meth c (MQ below (zQi D ad okM (tmM ad tc) (leftM M u r) M (zA ad okM s.heap.size)) args s 0 0 (zA ad okM s.heap.size)) D ad okM (tmM ad tc) (zA ad okM s.heap.size) s.heap 3 0 0 M [(0, .ref (ad 11 u)), (1, iv r), (2, iv ((j : Nat) : Int))] 2 [] := by
    intro d2
    induction d2 using Nat.strongRecOn with
    | _ d2 ih2 =>
      intro j hj hz hd2
      refine z_iload_n hC 2 rfl dX9_leftOf_2 rfl ?_
      refine z_bipush hC dX9_leftOf_3 (by decide) ?_
      refine z_icmp_ge hC 45 dX9_leftOf_5 (by decide) (by omega) (by omega) (fun c5 => ?_) (fun c5 => ?_)
      · skip
        refine z_iconst hC dX9_leftOf_45 ?_
        exact z_iret hC hret hlk rfl (by simp only [leftM]; first | (rw [zfst_found hz ⟨by omega, by assumption⟩ (by omega), if_pos (by omega)]; done) | (rw [show j = 36 by omega] at hz; rw [zfst_none hz, if_neg (by omega)])) (by rfl) dX9_leftOf_46
      · skip
        refine z_iload_n hC 2 rfl dX9_leftOf_8 rfl ?_
        refine z_iconst hC dX9_leftOf_9 ?_
        refine z_irem hC dX9_leftOf_10 (by omega) (by omega) ?_
        refine z_aload_n hC 0 rfl dX9_leftOf_11 rfl ?_
        refine z_getR hC zfX9_19 (tmM_11 ad tc _) (okM_11 (by omega)) rfl dX9_leftOf_12 ?_
        refine z_iload_n hC 2 rfl dX9_leftOf_15 rfl ?_
        refine z_iconst hC dX9_leftOf_16 ?_
        refine z_idiv hC dX9_leftOf_17 (by omega) (by omega) ?_
        have hq1 : 0 ≤ M 13 u (j / 3) ∧ M 13 u (j / 3) ≤ 3 := hW.1 13 u (j / 3)
        refine z_iaload hC 0 (j / 3) (tmM_13 ad tc _) (tysM_0 tc) (okM_13 (by omega)) (rfl) (by omega) (by decide) (x := M 13 u (j / 3)) (rfl) dX9_leftOf_18 ?_
        refine z_icmp_ge hC 39 dX9_leftOf_19 (by decide) (by omega) (by omega) (fun c19 => ?_) (fun c19 => ?_)
        · skip
          refine z_iinc hC 2 (L' := [(2, iv (((j : Nat) : Int) + 1)), (0, .ref (ad 11 u)), (1, iv r)]) dX9_leftOf_39 rfl (by decide) rfl ?_
          refine z_goto hC 2 dX9_leftOf_42 (by decide) ?_
          refine z_perm [1, 2, 0] (L' := [(0, .ref (ad 11 u)), (1, iv r), (2, iv (((j : Nat) : Int) + 1))]) rfl ?_
          exact z_conv (ih2 _ (by omega) (j + 1) (by omega) (fun k hk => (Nat.lt_or_ge k j).elim (hz k) (fun z => by rw [show k = j by omega]; intro y; omega)) rfl) (by rfl) (by rfl) (by rfl)
        · skip
          refine z_aload_n hC 0 rfl dX9_leftOf_22 rfl ?_
          refine z_getR hC zfX9_22 (tmM_11 ad tc _) (okM_11 (by omega)) rfl dX9_leftOf_23 ?_
          refine z_iload_n hC 2 rfl dX9_leftOf_26 rfl ?_
          have hq2 : -1 ≤ M 14 u j ∧ M 14 u j ≤ 11 := hW.1 14 u j
          refine z_iaload hC 0 (j) (tmM_14 ad tc _) (tysM_0 tc) (okM_14 (by omega)) (rfl) (by omega) (by decide) (x := M 14 u j) (rfl) dX9_leftOf_27 ?_
          refine z_iload_n hC 1 rfl dX9_leftOf_28 rfl ?_
          refine z_icmp_ne hC 39 dX9_leftOf_29 (by decide) (by omega) (by omega) (fun c29 => ?_) (fun c29 => ?_)
          · skip
            refine z_iinc hC 2 (L' := [(2, iv (((j : Nat) : Int) + 1)), (0, .ref (ad 11 u)), (1, iv r)]) dX9_leftOf_39 rfl (by decide) rfl ?_
            refine z_goto hC 2 dX9_leftOf_42 (by decide) ?_
            refine z_perm [1, 2, 0] (L' := [(0, .ref (ad 11 u)), (1, iv r), (2, iv (((j : Nat) : Int) + 1))]) rfl ?_
            exact z_conv (ih2 _ (by omega) (j + 1) (by omega) (fun k hk => (Nat.lt_or_ge k j).elim (hz k) (fun z => by rw [show k = j by omega]; intro y; omega)) rfl) (by rfl) (by rfl) (by rfl)
          · skip
            refine z_aload_n hC 0 rfl dX9_leftOf_32 rfl ?_
            refine z_getR hC zfX9_25 (tmM_11 ad tc _) (okM_11 (by omega)) rfl dX9_leftOf_33 ?_
            refine z_iload_n hC 2 rfl dX9_leftOf_36 rfl ?_
            have hq3 : -(1000 + U) ≤ M 15 u j ∧ M 15 u j ≤ 1000 := hW.1 15 u j
            refine z_iaload hC 0 (j) (tmM_15 ad tc _) (tysM_0 tc) (okM_15 (by omega)) (rfl) (by omega) (by decide) (x := M 15 u j) (rfl) dX9_leftOf_37 ?_
            exact z_iret hC hret hlk rfl (by simp only [leftM]; first | (rw [zfst_found hz ⟨by omega, by assumption⟩ (by omega), if_pos (by omega)]; done) | (rw [show j = 36 by omega] at hz; rw [zfst_none hz, if_neg (by omega)])) (by rfl) dX9_leftOf_38
  refine z_iconst hC dX9_leftOf_0 ?_
  refine z_istore_n hC (L' := [(2, iv 0), (0, .ref (ad 11 u)), (1, iv r)]) dX9_leftOf_1 rfl (by decide) rfl ?_
  refine z_perm [1, 2, 0] (L' := [(0, .ref (ad 11 u)), (1, iv r), (2, iv 0)]) rfl ?_
  exact z_conv (hc2 _ 0 (by omega) (fun k hk => by omega) rfl) (by rfl) (by rfl) (by rfl)
set_option maxHeartbeats 4000000 in
set_option maxRecDepth 100000 in
theorem k_X10_fewR (l : Launch) (D : va_G) (tc : Nat → ClassId) (ad : Nat → Nat → Nat) (hI : zI ad okM) (M : zM) {T U : Int} (dd : Nat) (a to w : Int) (hW : WTM T U M) (ha : 0 ≤ a ∧ a ≤ 7) (ht : 0 ≤ to ∧ to ≤ 7) (hw : -2147483648 ≤ w ∧ w < 2147483648) (hd : M 3 0 a.toNat < dd ∧ dd ≤ 61) : zMi l yX10_fewest cX10_fewest 7 (some .int) dd D (tysM tc) ad okM (tmM ad tc) [.ref (ad 0 0), iv a, iv to, iv w] M (fewN M to w dd a) M 0 0 := by
  induction dd generalizing a with
  | zero => exfalso; have h3 : 0 ≤ M 3 0 a.toNat ∧ M 3 0 a.toNat ≤ 60 := hW.1 3 0 a.toNat; omega
  | succ dd ih =>
    have hlc : 0 ≤ M 0 0 5 ∧ M 0 0 5 ≤ 12 := hW.1 0 0 5
    have h3 : 0 ≤ M 3 0 a.toNat ∧ M 3 0 a.toNat ≤ 60 := hW.1 3 0 a.toNat
    refine z_met hI (plainFor_of_name (by decide)) (Nat.le_of_ble_eq_true rfl) ?_
    intro p e s m args below meth c hC hret hlk
    refine z_conv (L2 := [(0, .ref (ad 0 0)), (1, iv a), (2, iv to), (3, iv w)]) ?_ rfl rfl rfl
    have hc13 : ∀ (d13 : Nat) (j : Nat) (hj : j ≤ (M 0 0 5).toNat) (hne : a ≠ to), (M 0 0 5).toNat - j = d13 → zV p l e (zrm (dd + 1) 0 0) s m args below meth c (MQ below (zQi D ad okM (tmM ad tc) (fewN M to w (dd + 1) a) M (zA ad okM s.heap.size)) args s 0 0 (zA ad okM s.heap.size)) D ad okM (tmM ad tc) (zA ad okM s.heap.size) s.heap 7 0 0 M [(0, .ref (ad 0 0)), (1, iv a), (2, iv to), (3, iv w), (4, iv (fewI M to w dd a j)), (5, iv ((j : Nat) : Int))] 13 [] := by
      intro d13
      induction d13 using Nat.strongRecOn with
      | _ d13 ih13 =>
        intro j hj hne hd13
        have hib := fewI_bd (M := M) (to := to) (w := w) (d := dd) (a := a) j
        have hfb := fewN_bd (M := M) (to := to) (w := w) (d := dd) (M 5 0 j)
        have hbt := hW.2.1 j
        have hb5 : 0 ≤ M 5 0 j ∧ M 5 0 j ≤ 7 := hW.1 5 0 j
        have hb6 : 0 ≤ M 6 0 j ∧ M 6 0 j ≤ 150 := hW.1 6 0 j
        refine z_iload hC 5 rfl dX10_fewest_13 ?_
        refine z_aload_n hC 0 rfl dX10_fewest_15 rfl ?_
        have hq1 : 0 ≤ M 0 0 5 ∧ M 0 0 5 ≤ 12 := hW.1 0 0 5
        refine z_getI hC zfX10_63 (tmM_0 ad tc _) (okM_0 (by omega)) rfl (x := M 0 0 5) (rfl) dX10_fewest_16 ?_
        refine z_icmp_ge hC 95 dX10_fewest_19 (by decide) (by omega) (by omega) (fun c19 => ?_) (fun c19 => ?_)
        · skip
          have he : j = (M 0 0 5).toNat := by omega
          subst he
          refine z_iload hC 4 rfl dX10_fewest_95 ?_
          exact z_iret hC hret hlk rfl (by rw [fewN_s]; first | (rw [if_pos (by assumption)]; done) | rw [if_neg (by assumption)]) (by rfl) dX10_fewest_97
        · skip
          refine z_aload_n hC 0 rfl dX10_fewest_22 rfl ?_
          refine z_getR hC zfX10_19 (tmM_0 ad tc _) (okM_0 (by omega)) rfl dX10_fewest_23 ?_
          refine z_iload hC 5 rfl dX10_fewest_26 ?_
          have hq2 : 0 ≤ M 4 0 j ∧ M 4 0 j ≤ 7 := hW.1 4 0 j
          refine z_iaload hC 0 (j) (tmM_4 ad tc _) (tysM_0 tc) (okM_4 (by omega)) (rfl) (by omega) (by decide) (x := M 4 0 j) (rfl) dX10_fewest_28 ?_
          refine z_iload_n hC 1 rfl dX10_fewest_29 rfl ?_
          refine z_icmp_ne hC 89 dX10_fewest_30 (by decide) (by omega) (by omega) (fun c30 => ?_) (fun c30 => ?_)
          · skip
            refine z_iinc hC 5 (L' := [(5, iv (((j : Nat) : Int) + 1)), (0, .ref (ad 0 0)), (1, iv a), (2, iv to), (3, iv w), (4, iv (fewI M to w dd a j))]) dX10_fewest_89 rfl (by decide) rfl ?_
            refine z_goto hC 13 dX10_fewest_92 (by decide) ?_
            refine z_perm [1, 2, 3, 4, 5, 0] (L' := [(0, .ref (ad 0 0)), (1, iv a), (2, iv to), (3, iv w), (4, iv (fewI M to w dd a j)), (5, iv (((j : Nat) : Int) + 1))]) rfl ?_
            exact z_conv (ih13 _ (by omega) (j + 1) (by omega) hne rfl) (by rfl) (by rw [fewI_s, fewS]; first | (rw [if_pos ⟨by omega, by omega⟩, if_pos (by omega)]; try rfl; done) | (rw [if_pos ⟨by omega, by omega⟩, if_neg (by omega)]; try rfl; done) | (rw [if_neg (by omega)]; try rfl; done)) (by rfl)
          · skip
            refine z_aload_n hC 0 rfl dX10_fewest_33 rfl ?_
            refine z_getR hC zfX10_25 (tmM_0 ad tc _) (okM_0 (by omega)) rfl dX10_fewest_34 ?_
            refine z_iload hC 5 rfl dX10_fewest_37 ?_
            have hq3 : 0 ≤ M 6 0 j ∧ M 6 0 j ≤ 150 := hW.1 6 0 j
            refine z_iaload hC 0 (j) (tmM_6 ad tc _) (tysM_0 tc) (okM_6 (by omega)) (rfl) (by omega) (by decide) (x := M 6 0 j) (rfl) dX10_fewest_39 ?_
            refine z_iload_n hC 3 rfl dX10_fewest_40 rfl ?_
            refine z_icmp_ge hC 47 dX10_fewest_41 (by decide) (by omega) (by omega) (fun c41 => ?_) (fun c41 => ?_)
            · skip
              refine z_aload_n hC 0 rfl dX10_fewest_47 rfl ?_
              refine z_aload_n hC 0 rfl dX10_fewest_48 rfl ?_
              refine z_getR hC zfX10_22 (tmM_0 ad tc _) (okM_0 (by omega)) rfl dX10_fewest_49 ?_
              refine z_iload hC 5 rfl dX10_fewest_52 ?_
              have hq4 : 0 ≤ M 5 0 j ∧ M 5 0 j ≤ 7 := hW.1 5 0 j
              refine z_iaload hC 0 (j) (tmM_5 ad tc _) (tysM_0 tc) (okM_5 (by omega)) (rfl) (by omega) (by decide) (x := M 5 0 j) (rfl) dX10_fewest_54 ?_
              refine z_iload_n hC 2 rfl dX10_fewest_55 rfl ?_
              refine z_iload_n hC 3 rfl dX10_fewest_56 rfl ?_
              refine z_callVi hC zlX10_78 (ih (M 5 0 j) (by omega) (by have hs := hbt (by omega); have hta : M 4 0 j = a := (by assumption); rw [hta] at hs; omega)) (tmM_0 ad tc _) rfl (okM_0 (by omega)) rfl rfl (Nat.le_of_ble_eq_true rfl) ⟨by show dd + 1 ≤ dd + 1; omega, by show 8 + (7 + 11) + 40 * dd ≤ 40 * (dd + 1); omega⟩ ⟨by show 0 ≤ 0; omega, by show 0 ≤ 0; omega⟩ dX10_fewest_57 ?_
              refine z_istore hC (L' := [(6, iv (fewN M to w dd (M 5 0 j))), (0, .ref (ad 0 0)), (1, iv a), (2, iv to), (3, iv w), (4, iv (fewI M to w dd a j)), (5, iv ((j : Nat) : Int))]) dX10_fewest_60 (by decide) rfl ?_
              refine z_iload hC 0 rfl dX10_fewest_62 ?_
              refine z_iconst hC dX10_fewest_64 ?_
              refine z_icmp_eq hC 89 dX10_fewest_65 (by decide) (by omega) (by omega) (fun c65 => ?_) (fun c65 => ?_)
              · skip
                refine z_iinc hC 6 (L' := [(5, iv (((j : Nat) : Int) + 1)), (6, iv (fewN M to w dd (M 5 0 j))), (0, .ref (ad 0 0)), (1, iv a), (2, iv to), (3, iv w), (4, iv (fewI M to w dd a j))]) dX10_fewest_89 rfl (by decide) rfl ?_
                refine z_goto hC 13 dX10_fewest_92 (by decide) ?_
                refine z_perm [2, 3, 4, 5, 6, 0] (L' := [(0, .ref (ad 0 0)), (1, iv a), (2, iv to), (3, iv w), (4, iv (fewI M to w dd a j)), (5, iv (((j : Nat) : Int) + 1))]) rfl ?_
                exact z_conv (ih13 _ (by omega) (j + 1) (by omega) hne rfl) (by rfl) (by rw [fewI_s, fewS]; first | (rw [if_pos ⟨by omega, by omega⟩, if_pos (by omega)]; try rfl; done) | (rw [if_pos ⟨by omega, by omega⟩, if_neg (by omega)]; try rfl; done) | (rw [if_neg (by omega)]; try rfl; done)) (by rfl)
              · skip
                refine z_iload hC 5 rfl dX10_fewest_68 ?_
                refine z_iconst hC dX10_fewest_70 ?_
                refine z_icmp_eq hC 83 dX10_fewest_71 (by decide) (by omega) (by omega) (fun c71 => ?_) (fun c71 => ?_)
                · skip
                  refine z_iload hC 0 rfl dX10_fewest_83 ?_
                  refine z_iconst hC dX10_fewest_85 ?_
                  refine z_iadd hC dX10_fewest_86 ?_
                  refine z_istore hC (L' := [(4, iv ((fewN M to w dd (M 5 0 j)) + 1)), (6, iv (fewN M to w dd (M 5 0 j))), (0, .ref (ad 0 0)), (1, iv a), (2, iv to), (3, iv w), (5, iv ((j : Nat) : Int))]) dX10_fewest_87 (by decide) rfl ?_
                  refine z_iinc hC 6 (L' := [(5, iv (((j : Nat) : Int) + 1)), (4, iv ((fewN M to w dd (M 5 0 j)) + 1)), (6, iv (fewN M to w dd (M 5 0 j))), (0, .ref (ad 0 0)), (1, iv a), (2, iv to), (3, iv w)]) dX10_fewest_89 rfl (by decide) rfl ?_
                  refine z_goto hC 13 dX10_fewest_92 (by decide) ?_
                  refine z_perm [3, 4, 5, 6, 1, 0] (L' := [(0, .ref (ad 0 0)), (1, iv a), (2, iv to), (3, iv w), (4, iv ((fewN M to w dd (M 5 0 j)) + 1)), (5, iv (((j : Nat) : Int) + 1))]) rfl ?_
                  exact z_conv (ih13 _ (by omega) (j + 1) (by omega) hne rfl) (by rfl) (by rw [fewI_s, fewS]; first | (rw [if_pos ⟨by omega, by omega⟩, if_pos (by omega)]; try rfl; done) | (rw [if_pos ⟨by omega, by omega⟩, if_neg (by omega)]; try rfl; done) | (rw [if_neg (by omega)]; try rfl; done)) (by rfl)
                · skip
                  refine z_iload hC 0 rfl dX10_fewest_74 ?_
                  refine z_iconst hC dX10_fewest_76 ?_
                  refine z_iadd hC dX10_fewest_77 ?_
                  refine z_iload hC 5 rfl dX10_fewest_78 ?_
                  refine z_icmp_ge hC 89 dX10_fewest_80 (by decide) (by omega) (by omega) (fun c80 => ?_) (fun c80 => ?_)
                  · skip
                    refine z_iinc hC 6 (L' := [(5, iv (((j : Nat) : Int) + 1)), (6, iv (fewN M to w dd (M 5 0 j))), (0, .ref (ad 0 0)), (1, iv a), (2, iv to), (3, iv w), (4, iv (fewI M to w dd a j))]) dX10_fewest_89 rfl (by decide) rfl ?_
                    refine z_goto hC 13 dX10_fewest_92 (by decide) ?_
                    refine z_perm [2, 3, 4, 5, 6, 0] (L' := [(0, .ref (ad 0 0)), (1, iv a), (2, iv to), (3, iv w), (4, iv (fewI M to w dd a j)), (5, iv (((j : Nat) : Int) + 1))]) rfl ?_
                    exact z_conv (ih13 _ (by omega) (j + 1) (by omega) hne rfl) (by rfl) (by rw [fewI_s, fewS]; first | (rw [if_pos ⟨by omega, by omega⟩, if_pos (by omega)]; try rfl; done) | (rw [if_pos ⟨by omega, by omega⟩, if_neg (by omega)]; try rfl; done) | (rw [if_neg (by omega)]; try rfl; done)) (by rfl)
                  · skip
                    refine z_iload hC 0 rfl dX10_fewest_83 ?_
                    refine z_iconst hC dX10_fewest_85 ?_
                    refine z_iadd hC dX10_fewest_86 ?_
                    refine z_istore hC (L' := [(4, iv ((fewN M to w dd (M 5 0 j)) + 1)), (6, iv (fewN M to w dd (M 5 0 j))), (0, .ref (ad 0 0)), (1, iv a), (2, iv to), (3, iv w), (5, iv ((j : Nat) : Int))]) dX10_fewest_87 (by decide) rfl ?_
                    refine z_iinc hC 6 (L' := [(5, iv (((j : Nat) : Int) + 1)), (4, iv ((fewN M to w dd (M 5 0 j)) + 1)), (6, iv (fewN M to w dd (M 5 0 j))), (0, .ref (ad 0 0)), (1, iv a), (2, iv to), (3, iv w)]) dX10_fewest_89 rfl (by decide) rfl ?_
                    refine z_goto hC 13 dX10_fewest_92 (by decide) ?_
                    refine z_perm [3, 4, 5, 6, 1, 0] (L' := [(0, .ref (ad 0 0)), (1, iv a), (2, iv to), (3, iv w), (4, iv ((fewN M to w dd (M 5 0 j)) + 1)), (5, iv (((j : Nat) : Int) + 1))]) rfl ?_
                    exact z_conv (ih13 _ (by omega) (j + 1) (by omega) hne rfl) (by rfl) (by rw [fewI_s, fewS]; first | (rw [if_pos ⟨by omega, by omega⟩, if_pos (by omega)]; try rfl; done) | (rw [if_pos ⟨by omega, by omega⟩, if_neg (by omega)]; try rfl; done) | (rw [if_neg (by omega)]; try rfl; done)) (by rfl)
            · skip
              refine z_goto hC 89 dX10_fewest_44 (by decide) ?_
              refine z_iinc hC 5 (L' := [(5, iv (((j : Nat) : Int) + 1)), (0, .ref (ad 0 0)), (1, iv a), (2, iv to), (3, iv w), (4, iv (fewI M to w dd a j))]) dX10_fewest_89 rfl (by decide) rfl ?_
              refine z_goto hC 13 dX10_fewest_92 (by decide) ?_
              refine z_perm [1, 2, 3, 4, 5, 0] (L' := [(0, .ref (ad 0 0)), (1, iv a), (2, iv to), (3, iv w), (4, iv (fewI M to w dd a j)), (5, iv (((j : Nat) : Int) + 1))]) rfl ?_
              exact z_conv (ih13 _ (by omega) (j + 1) (by omega) hne rfl) (by rfl) (by rw [fewI_s, fewS]; first | (rw [if_pos ⟨by omega, by omega⟩, if_pos (by omega)]; try rfl; done) | (rw [if_pos ⟨by omega, by omega⟩, if_neg (by omega)]; try rfl; done) | (rw [if_neg (by omega)]; try rfl; done)) (by rfl)
    refine z_iload_n hC 1 rfl dX10_fewest_0 rfl ?_
    refine z_iload_n hC 2 rfl dX10_fewest_1 rfl ?_
    refine z_icmp_ne hC 7 dX10_fewest_2 (by decide) (by omega) (by omega) (fun c2 => ?_) (fun c2 => ?_)
    · skip
      refine z_iconst hC dX10_fewest_7 ?_
      refine z_istore hC (L' := [(4, iv (-1)), (0, .ref (ad 0 0)), (1, iv a), (2, iv to), (3, iv w)]) dX10_fewest_8 (by decide) rfl ?_
      refine z_iconst hC dX10_fewest_10 ?_
      refine z_istore hC (L' := [(5, iv 0), (4, iv (-1)), (0, .ref (ad 0 0)), (1, iv a), (2, iv to), (3, iv w)]) dX10_fewest_11 (by decide) rfl ?_
      refine z_perm [2, 3, 4, 5, 1, 0] (L' := [(0, .ref (ad 0 0)), (1, iv a), (2, iv to), (3, iv w), (4, iv (-1)), (5, iv 0)]) rfl ?_
      exact z_conv (hc13 _ 0 (by omega) (by assumption) rfl) (by rfl) (by rfl) (by rfl)
    · skip
      refine z_iconst hC dX10_fewest_5 ?_
      exact z_iret hC hret hlk rfl (by rw [fewN_s]; first | (rw [if_pos (by assumption)]; done) | rw [if_neg (by assumption)]) (by rfl) dX10_fewest_6
set_option maxHeartbeats 4000000 in
set_option maxRecDepth 100000 in
theorem k_X10_first (l : Launch) (D : va_G) (tc : Nat → ClassId) (ad : Nat → Nat → Nat) (hI : zI ad okM) (M : zM) {T U : Int} (a to w : Int) (hW : WTM T U M) (ha : 0 ≤ a ∧ a ≤ 7) (ht : 0 ≤ to ∧ to ≤ 7) (hw : -2147483648 ≤ w ∧ w < 2147483648) : zMi l yX10_first cX10_first 6 (some .int) 62 D (tysM tc) ad okM (tmM ad tc) [.ref (ad 0 0), iv a, iv to, iv w] M (firstM M a to w) M 0 0 := by
  have hlc : 0 ≤ M 0 0 5 ∧ M 0 0 5 ≤ 12 := hW.1 0 0 5
  have hfa := fewN_bd (M := M) (to := to) (w := w) (d := 61) a
  have h3a : 0 ≤ M 3 0 a.toNat ∧ M 3 0 a.toNat ≤ 60 := hW.1 3 0 a.toNat
  refine z_met hI (plainFor_of_name (by decide)) (Nat.le_of_ble_eq_true rfl) ?_
  intro p e s m args below meth c hC hret hlk
  refine z_conv (L2 := [(0, .ref (ad 0 0)), (1, iv a), (2, iv to), (3, iv w)]) ?_ rfl rfl rfl
  have hc12 : ∀ (d12 : Nat) (j : Nat) (hj : j ≤ (M 0 0 5).toNat) (hz : ∀ k, k < j → ¬ firstP M a to w k), (M 0 0 5).toNat - j = d12 → zV p l e (zrm 62 0 0) s m args below meth c (MQ below (zQi D ad okM (tmM ad tc) (firstM M a to w) M (zA ad okM s.heap.size)) args s 0 0 (zA ad okM s.heap.size)) D ad okM (tmM ad tc) (zA ad okM s.heap.size) s.heap 6 0 0 M [(0, .ref (ad 0 0)), (1, iv a), (2, iv to), (3, iv w), (4, iv (fewN M to w 61 a)), (5, iv ((j : Nat) : Int))] 12 [] := by
    intro d12
    induction d12 using Nat.strongRecOn with
    | _ d12 ih12 =>
      intro j hj hz hd12
      have hfb := fewN_bd (M := M) (to := to) (w := w) (d := 61) (M 5 0 j)
      have hb5 : 0 ≤ M 5 0 j ∧ M 5 0 j ≤ 7 := hW.1 5 0 j
      have h3b : 0 ≤ M 3 0 (M 5 0 j).toNat ∧ M 3 0 (M 5 0 j).toNat ≤ 60 := hW.1 3 0 (M 5 0 j).toNat
      have hb6 : 0 ≤ M 6 0 j ∧ M 6 0 j ≤ 150 := hW.1 6 0 j
      refine z_iload hC 5 rfl dX10_first_12 ?_
      refine z_aload_n hC 0 rfl dX10_first_14 rfl ?_
      have hq1 : 0 ≤ M 0 0 5 ∧ M 0 0 5 ≤ 12 := hW.1 0 0 5
      refine z_getI hC zfX10_63 (tmM_0 ad tc _) (okM_0 (by omega)) rfl (x := M 0 0 5) (rfl) dX10_first_15 ?_
      refine z_icmp_ge hC 77 dX10_first_18 (by decide) (by omega) (by omega) (fun c18 => ?_) (fun c18 => ?_)
      · skip
        refine z_iconst hC dX10_first_77 ?_
        exact z_iret hC hret hlk rfl (by first | exact (firstM_none1 (by assumption)).symm | exact (firstM_found (by assumption) hz ⟨by assumption, by omega, by assumption⟩ (by omega)).symm | exact (firstM_none2 hz (by omega)).symm) (by rfl) dX10_first_78
      · skip
        refine z_iload hC 4 rfl dX10_first_21 ?_
        refine z_if_le hC 77 dX10_first_23 (by decide) (by omega) (fun c23 => ?_) (fun c23 => ?_)
        · skip
          refine z_iconst hC dX10_first_77 ?_
          exact z_iret hC hret hlk rfl (by first | exact (firstM_none1 (by assumption)).symm | exact (firstM_found (by assumption) hz ⟨by assumption, by omega, by assumption⟩ (by omega)).symm | exact (firstM_none2 hz (by omega)).symm) (by rfl) dX10_first_78
        · skip
          refine z_aload_n hC 0 rfl dX10_first_26 rfl ?_
          refine z_getR hC zfX10_19 (tmM_0 ad tc _) (okM_0 (by omega)) rfl dX10_first_27 ?_
          refine z_iload hC 5 rfl dX10_first_30 ?_
          have hq2 : 0 ≤ M 4 0 j ∧ M 4 0 j ≤ 7 := hW.1 4 0 j
          refine z_iaload hC 0 (j) (tmM_4 ad tc _) (tysM_0 tc) (okM_4 (by omega)) (rfl) (by omega) (by decide) (x := M 4 0 j) (rfl) dX10_first_32 ?_
          refine z_iload_n hC 1 rfl dX10_first_33 rfl ?_
          refine z_icmp_ne hC 71 dX10_first_34 (by decide) (by omega) (by omega) (fun c34 => ?_) (fun c34 => ?_)
          · skip
            refine z_iinc hC 5 (L' := [(5, iv (((j : Nat) : Int) + 1)), (0, .ref (ad 0 0)), (1, iv a), (2, iv to), (3, iv w), (4, iv (fewN M to w 61 a))]) dX10_first_71 rfl (by decide) rfl ?_
            refine z_goto hC 12 dX10_first_74 (by decide) ?_
            refine z_perm [1, 2, 3, 4, 5, 0] (L' := [(0, .ref (ad 0 0)), (1, iv a), (2, iv to), (3, iv w), (4, iv (fewN M to w 61 a)), (5, iv (((j : Nat) : Int) + 1))]) rfl ?_
            exact z_conv (ih12 _ (by omega) (j + 1) (by omega) (fun k hk => (Nat.lt_or_ge k j).elim (hz k) (fun z => by rw [show k = j by omega]; intro y; have y3 : fewN M to w 61 (M 5 0 j) = fewN M to w 61 a - 1 := y.2.2; omega)) rfl) (by rfl) (by rfl) (by rfl)
          · skip
            refine z_aload_n hC 0 rfl dX10_first_37 rfl ?_
            refine z_getR hC zfX10_25 (tmM_0 ad tc _) (okM_0 (by omega)) rfl dX10_first_38 ?_
            refine z_iload hC 5 rfl dX10_first_41 ?_
            have hq3 : 0 ≤ M 6 0 j ∧ M 6 0 j ≤ 150 := hW.1 6 0 j
            refine z_iaload hC 0 (j) (tmM_6 ad tc _) (tysM_0 tc) (okM_6 (by omega)) (rfl) (by omega) (by decide) (x := M 6 0 j) (rfl) dX10_first_43 ?_
            refine z_iload_n hC 3 rfl dX10_first_44 rfl ?_
            refine z_icmp_lt hC 71 dX10_first_45 (by decide) (by omega) (by omega) (fun c45 => ?_) (fun c45 => ?_)
            · skip
              refine z_iinc hC 5 (L' := [(5, iv (((j : Nat) : Int) + 1)), (0, .ref (ad 0 0)), (1, iv a), (2, iv to), (3, iv w), (4, iv (fewN M to w 61 a))]) dX10_first_71 rfl (by decide) rfl ?_
              refine z_goto hC 12 dX10_first_74 (by decide) ?_
              refine z_perm [1, 2, 3, 4, 5, 0] (L' := [(0, .ref (ad 0 0)), (1, iv a), (2, iv to), (3, iv w), (4, iv (fewN M to w 61 a)), (5, iv (((j : Nat) : Int) + 1))]) rfl ?_
              exact z_conv (ih12 _ (by omega) (j + 1) (by omega) (fun k hk => (Nat.lt_or_ge k j).elim (hz k) (fun z => by rw [show k = j by omega]; intro y; have y3 : fewN M to w 61 (M 5 0 j) = fewN M to w 61 a - 1 := y.2.2; omega)) rfl) (by rfl) (by rfl) (by rfl)
            · skip
              refine z_aload_n hC 0 rfl dX10_first_48 rfl ?_
              refine z_aload_n hC 0 rfl dX10_first_49 rfl ?_
              refine z_getR hC zfX10_22 (tmM_0 ad tc _) (okM_0 (by omega)) rfl dX10_first_50 ?_
              refine z_iload hC 5 rfl dX10_first_53 ?_
              have hq4 : 0 ≤ M 5 0 j ∧ M 5 0 j ≤ 7 := hW.1 5 0 j
              refine z_iaload hC 0 (j) (tmM_5 ad tc _) (tysM_0 tc) (okM_5 (by omega)) (rfl) (by omega) (by decide) (x := M 5 0 j) (rfl) dX10_first_55 ?_
              refine z_iload_n hC 2 rfl dX10_first_56 rfl ?_
              refine z_iload_n hC 3 rfl dX10_first_57 rfl ?_
              refine z_callVi hC zlX10_78 (k_X10_fewR l D tc ad hI M 61 (M 5 0 j) to w hW (by omega) (by omega) (by omega) (by omega)) (tmM_0 ad tc _) rfl (okM_0 (by omega)) rfl rfl (Nat.le_of_ble_eq_true rfl) ⟨by decide, by decide⟩ ⟨by decide, by decide⟩ dX10_first_58 ?_
              refine z_iload hC 4 rfl dX10_first_61 ?_
              refine z_iconst hC dX10_first_63 ?_
              refine z_isub hC dX10_first_64 ?_
              refine z_icmp_ne hC 71 dX10_first_65 (by decide) (by omega) (by omega) (fun c65 => ?_) (fun c65 => ?_)
              · skip
                refine z_iinc hC 5 (L' := [(5, iv (((j : Nat) : Int) + 1)), (0, .ref (ad 0 0)), (1, iv a), (2, iv to), (3, iv w), (4, iv (fewN M to w 61 a))]) dX10_first_71 rfl (by decide) rfl ?_
                refine z_goto hC 12 dX10_first_74 (by decide) ?_
                refine z_perm [1, 2, 3, 4, 5, 0] (L' := [(0, .ref (ad 0 0)), (1, iv a), (2, iv to), (3, iv w), (4, iv (fewN M to w 61 a)), (5, iv (((j : Nat) : Int) + 1))]) rfl ?_
                exact z_conv (ih12 _ (by omega) (j + 1) (by omega) (fun k hk => (Nat.lt_or_ge k j).elim (hz k) (fun z => by rw [show k = j by omega]; intro y; have y3 : fewN M to w 61 (M 5 0 j) = fewN M to w 61 a - 1 := y.2.2; omega)) rfl) (by rfl) (by rfl) (by rfl)
              · skip
                refine z_iload hC 5 rfl dX10_first_68 ?_
                exact z_iret hC hret hlk rfl (by first | exact (firstM_none1 (by assumption)).symm | exact (firstM_found (by assumption) hz ⟨by assumption, by omega, by assumption⟩ (by omega)).symm | exact (firstM_none2 hz (by omega)).symm) (by rfl) dX10_first_70
  refine z_aload_n hC 0 rfl dX10_first_0 rfl ?_
  refine z_iload_n hC 1 rfl dX10_first_1 rfl ?_
  refine z_iload_n hC 2 rfl dX10_first_2 rfl ?_
  refine z_iload_n hC 3 rfl dX10_first_3 rfl ?_
  refine z_callVi hC zlX10_78 (k_X10_fewR l D tc ad hI M 61 a to w hW (by omega) (by omega) (by omega) (by omega)) (tmM_0 ad tc _) rfl (okM_0 (by omega)) rfl rfl (Nat.le_of_ble_eq_true rfl) ⟨by decide, by decide⟩ ⟨by decide, by decide⟩ dX10_first_4 ?_
  refine z_istore hC (L' := [(4, iv (fewN M to w 61 a)), (0, .ref (ad 0 0)), (1, iv a), (2, iv to), (3, iv w)]) dX10_first_7 (by decide) rfl ?_
  refine z_iconst hC dX10_first_9 ?_
  refine z_istore hC (L' := [(5, iv 0), (4, iv (fewN M to w 61 a)), (0, .ref (ad 0 0)), (1, iv a), (2, iv to), (3, iv w)]) dX10_first_10 (by decide) rfl ?_
  refine z_perm [2, 3, 4, 5, 1, 0] (L' := [(0, .ref (ad 0 0)), (1, iv a), (2, iv to), (3, iv w), (4, iv (fewN M to w 61 a)), (5, iv 0)]) rfl ?_
  exact z_conv (hc12 _ 0 (by omega) (fun k hk => by omega) rfl) (by rfl) (by rfl) (by rfl)
