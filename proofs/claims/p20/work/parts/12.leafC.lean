set_option maxHeartbeats 4000000 in
set_option maxRecDepth 100000 in
theorem k_J9_abs_0f7a4 (l : Launch) (D : va_G) (tc : Nat → ClassId) (ad : Nat → Nat → Nat) (hI : zI ad okC) (M : zM) (a : Int) (ha : -2147483648 ≤ a ∧ a < 2147483648) : zMi l yJ9_abs_0f7a4 cJ9_abs_0f7a4 1 (some .int) 0 D (tysC tc) ad okC (tmC ad tc) [iv a] M (absC a) M 0 0 := by
  refine z_met hI (by decide +kernel) (Nat.le_of_ble_eq_true rfl) ?_
  intro p e s m args below meth c hC hret hlk
  refine z_conv (L2 := [(0, iv a)]) ?_ rfl rfl rfl
  refine z_iload_n hC 0 rfl dJ9_abs_0f7a4_0 rfl ?_
  refine z_if_ge hC 9 dJ9_abs_0f7a4_1 (by decide) (by omega) (fun c1 => ?_) (fun c1 => ?_)
  · skip
    refine z_iload_n hC 0 rfl dJ9_abs_0f7a4_9 rfl ?_
    exact z_iret hC hret hlk rfl (by simp only [absC]; split <;> omega) (by rfl) dJ9_abs_0f7a4_10
  · skip
    refine z_iload_n hC 0 rfl dJ9_abs_0f7a4_4 rfl ?_
    refine z_ineg hC dJ9_abs_0f7a4_5 ?_
    refine z_goto hC 10 dJ9_abs_0f7a4_6 (by decide) ?_
    exact z_iret hC hret hlk rfl (by simp only [absC]; split <;> omega) (by rfl) dJ9_abs_0f7a4_10
set_option maxHeartbeats 4000000 in
set_option maxRecDepth 100000 in
theorem k_J9_max_7cf53 (l : Launch) (D : va_G) (tc : Nat → ClassId) (ad : Nat → Nat → Nat) (hI : zI ad okC) (M : zM) (a b : Int) (ha : -2147483648 ≤ a ∧ a < 2147483648) (hb : -2147483648 ≤ b ∧ b < 2147483648) : zMi l yJ9_max_7cf53 cJ9_max_7cf53 2 (some .int) 0 D (tysC tc) ad okC (tmC ad tc) [iv a, iv b] M (if a < b then b else a) M 0 0 := by
  refine z_met hI (by decide +kernel) (Nat.le_of_ble_eq_true rfl) ?_
  intro p e s m args below meth c hC hret hlk
  refine z_conv (L2 := [(0, iv a), (1, iv b)]) ?_ rfl rfl rfl
  refine z_iload_n hC 0 rfl dJ9_max_7cf53_0 rfl ?_
  refine z_iload_n hC 1 rfl dJ9_max_7cf53_1 rfl ?_
  refine z_icmp_lt hC 9 dJ9_max_7cf53_2 (by decide) (by omega) (by omega) (fun c2 => ?_) (fun c2 => ?_)
  · skip
    refine z_iload_n hC 1 rfl dJ9_max_7cf53_9 rfl ?_
    exact z_iret hC hret hlk rfl (by first | rw [if_pos (by omega)] | rw [if_neg (by omega)]) (by rfl) dJ9_max_7cf53_10
  · skip
    refine z_iload_n hC 0 rfl dJ9_max_7cf53_5 rfl ?_
    refine z_goto hC 10 dJ9_max_7cf53_6 (by decide) ?_
    exact z_iret hC hret hlk rfl (by first | rw [if_pos (by omega)] | rw [if_neg (by omega)]) (by rfl) dJ9_max_7cf53_10
set_option maxHeartbeats 4000000 in
set_option maxRecDepth 100000 in
theorem k_J9_floorMod_7cf53 (l : Launch) (D : va_G) (tc : Nat → ClassId) (ad : Nat → Nat → Nat) (hI : zI ad okC) (M : zM) (a b : Int) (ha : 0 ≤ a ∧ a < 2147483648) (hb : 0 < b ∧ b < 2147483648) : zMi l yJ9_floorMod_7cf53 cJ9_floorMod_7cf53 3 (some .int) 0 D (tysC tc) ad okC (tmC ad tc) [iv a, iv b] M (a % b) M 0 0 := by
  have hx := zi_xor ha (show 0 ≤ b ∧ b < 2147483648 by omega)
  have hm1 := Int.emod_nonneg a (show b ≠ 0 by omega)
  have hm2 := Int.emod_lt_of_pos a hb.1
  refine z_met hI (by decide +kernel) (Nat.le_of_ble_eq_true rfl) ?_
  intro p e s m args below meth c hC hret hlk
  refine z_conv (L2 := [(0, iv a), (1, iv b)]) ?_ rfl rfl rfl
  refine z_iload_n hC 0 rfl dJ9_floorMod_7cf53_0 rfl ?_
  refine z_iload_n hC 1 rfl dJ9_floorMod_7cf53_1 rfl ?_
  refine z_irem hC dJ9_floorMod_7cf53_2 (by omega) (by omega) ?_
  refine z_istore_n hC (L' := [(2, iv (a % b)), (0, iv a), (1, iv b)]) dJ9_floorMod_7cf53_3 rfl (by decide) rfl ?_
  refine z_iload_n hC 1 rfl dJ9_floorMod_7cf53_4 rfl ?_
  refine z_iload_n hC 2 rfl dJ9_floorMod_7cf53_5 rfl ?_
  refine z_ixor hC dJ9_floorMod_7cf53_6 ?_
  refine z_if_ge hC 18 dJ9_floorMod_7cf53_7 (by decide) (by omega) (fun c7 => ?_) (fun c7 => ?_)
  · skip
    refine z_iload_n hC 0 rfl dJ9_floorMod_7cf53_18 rfl ?_
    exact z_iret hC hret hlk rfl (by rfl) (by rfl) dJ9_floorMod_7cf53_19
  · skip
    exfalso; omega
set_option maxHeartbeats 4000000 in
set_option maxRecDepth 100000 in
theorem k_X1_carries (l : Launch) (D : va_G) (tc : Nat → ClassId) (ad : Nat → Nat → Nat) (hI : zI ad okC) (M : zM) (i : Nat) (w : Int) (hi : i < 12) (hw : -2147483648 ≤ w ∧ w < 2147483648) (hm : -2147483648 ≤ M 7 i 2 ∧ M 7 i 2 < 2147483648) : zMi l yX1_carries cX1_carries 2 (some .boolean) 0 D (tysC tc) ad okC (tmC ad tc) [.ref (ad 7 i), iv w] M (if w ≤ M 7 i 2 then 1 else 0) M 0 0 := by
  refine z_met hI (plainFor_of_name (by decide)) (Nat.le_of_ble_eq_true rfl) ?_
  intro p e s m args below meth c hC hret hlk
  refine z_conv (L2 := [(0, .ref (ad 7 i)), (1, iv w)]) ?_ rfl rfl rfl
  refine z_iload_n hC 1 rfl dX1_carries_0 rfl ?_
  refine z_aload_n hC 0 rfl dX1_carries_1 rfl ?_
  refine z_getI hC zfX1_7 (tmC_7 ad tc _) (okC_7 (by omega)) rfl (x := M 7 i 2) (rfl) dX1_carries_2 ?_
  refine z_icmp_gt hC 12 dX1_carries_5 (by decide) (by omega) (by omega) (fun c5 => ?_) (fun c5 => ?_)
  · skip
    refine z_iconst hC dX1_carries_12 ?_
    exact z_iret hC hret hlk (by decide) (by first | rw [if_pos (by omega)] | rw [if_neg (by omega)]) (by rfl) dX1_carries_13
  · skip
    refine z_iconst hC dX1_carries_8 ?_
    refine z_goto hC 13 dX1_carries_9 (by decide) ?_
    exact z_iret hC hret hlk (by decide) (by first | rw [if_pos (by omega)] | rw [if_neg (by omega)]) (by rfl) dX1_carries_13
set_option maxHeartbeats 4000000 in
set_option maxRecDepth 100000 in
theorem k_X1_getsStuck (l : Launch) (D : va_G) (tc : Nat → ClassId) (ad : Nat → Nat → Nat) (hI : zI ad okC) (M : zM) (i : Nat) (w : Int) (hi : i < 12) (hw : 0 ≤ w ∧ w ≤ 150) (hd : 0 ≤ M 7 i 4 ∧ M 7 i 4 ≤ 60) (hl : 0 ≤ M 7 i 3 ∧ M 7 i 3 ≤ 80) : zMi l yX1_getsStuck cX1_getsStuck 2 (some .boolean) 0 D (tysC tc) ad okC (tmC ad tc) [.ref (ad 7 i), iv w] M (if w * M 7 i 4 < 10 * M 7 i 3 then 1 else 0) M 0 0 := by
  have hp1 := Int.mul_nonneg hw.1 hd.1
  have hp2 : w * M 7 i 4 ≤ 150 * 60 := Int.mul_le_mul hw.2 hd.2 hd.1 (by decide)
  refine z_met hI (plainFor_of_name (by decide)) (Nat.le_of_ble_eq_true rfl) ?_
  intro p e s m args below meth c hC hret hlk
  refine z_conv (L2 := [(0, .ref (ad 7 i)), (1, iv w)]) ?_ rfl rfl rfl
  refine z_iload_n hC 1 rfl dX1_getsStuck_0 rfl ?_
  refine z_aload_n hC 0 rfl dX1_getsStuck_1 rfl ?_
  refine z_getI hC zfX1_13 (tmC_7 ad tc _) (okC_7 (by omega)) rfl (x := M 7 i 4) (rfl) dX1_getsStuck_2 ?_
  refine z_imul hC dX1_getsStuck_5 ?_
  refine z_bipush hC dX1_getsStuck_6 (by decide) ?_
  refine z_aload_n hC 0 rfl dX1_getsStuck_8 rfl ?_
  refine z_getI hC zfX1_16 (tmC_7 ad tc _) (okC_7 (by omega)) rfl (x := M 7 i 3) (rfl) dX1_getsStuck_9 ?_
  refine z_imul hC dX1_getsStuck_12 ?_
  refine z_icmp_ge hC 20 dX1_getsStuck_13 (by decide) (by omega) (by omega) (fun c13 => ?_) (fun c13 => ?_)
  · skip
    refine z_iconst hC dX1_getsStuck_20 ?_
    exact z_iret hC hret hlk (by decide) (by first | rw [if_pos (by omega)] | rw [if_neg (by omega)]) (by rfl) dX1_getsStuck_21
  · skip
    refine z_iconst hC dX1_getsStuck_16 ?_
    refine z_goto hC 21 dX1_getsStuck_17 (by decide) ?_
    exact z_iret hC hret hlk (by decide) (by first | rw [if_pos (by omega)] | rw [if_neg (by omega)]) (by rfl) dX1_getsStuck_21
set_option maxHeartbeats 4000000 in
set_option maxRecDepth 100000 in
theorem k_X1_pullMinutes (l : Launch) (D : va_G) (tc : Nat → ClassId) (ad : Nat → Nat → Nat) (hI : zI ad okC) (M : zM) (i : Nat) (hi : i < 12) (hl : 0 ≤ M 7 i 3 ∧ M 7 i 3 ≤ 80) : zMi l yX1_pullMinutes cX1_pullMinutes 1 (some .int) 0 D (tysC tc) ad okC (tmC ad tc) [.ref (ad 7 i)] M ((M 7 i 3 + 9) / 10) M 0 0 := by
  refine z_met hI (plainFor_of_name (by decide)) (Nat.le_of_ble_eq_true rfl) ?_
  intro p e s m args below meth c hC hret hlk
  refine z_conv (L2 := [(0, .ref (ad 7 i))]) ?_ rfl rfl rfl
  refine z_aload_n hC 0 rfl dX1_pullMinutes_0 rfl ?_
  refine z_getI hC zfX1_16 (tmC_7 ad tc _) (okC_7 (by omega)) rfl (x := M 7 i 3) (rfl) dX1_pullMinutes_1 ?_
  refine z_bipush hC dX1_pullMinutes_4 (by decide) ?_
  refine z_iadd hC dX1_pullMinutes_6 ?_
  refine z_bipush hC dX1_pullMinutes_7 (by decide) ?_
  refine z_idiv hC dX1_pullMinutes_9 (by omega) (by omega) ?_
  exact z_iret hC hret hlk rfl (by rfl) (by rfl) dX1_pullMinutes_10
set_option maxHeartbeats 4000000 in
set_option maxRecDepth 100000 in
theorem k_X1_rideMinutes (l : Launch) (D : va_G) (tc : Nat → ClassId) (ad : Nat → Nat → Nat) (hI : zI ad okC) (M : zM) (i : Nat) (w : Int) (hi : i < 12) (hw : 0 ≤ w ∧ w ≤ 150) (hd : 0 ≤ M 7 i 4 ∧ M 7 i 4 ≤ 60) (hl : 0 ≤ M 7 i 3 ∧ M 7 i 3 ≤ 80) : zMi l yX1_rideMinutes cX1_rideMinutes 4 (some .int) 1 D (tysC tc) ad okC (tmC ad tc) [.ref (ad 7 i), iv w] M (rideC (M 7 i 3) (M 7 i 4) w) M 0 0 := by
  have hp1 := Int.mul_nonneg hw.1 hd.1
  have hp2 : w * M 7 i 4 ≤ 150 * 60 := Int.mul_le_mul hw.2 hd.2 hd.1 (by decide)
  refine z_met hI (plainFor_of_name (by decide)) (Nat.le_of_ble_eq_true rfl) ?_
  intro p e s m args below meth c hC hret hlk
  refine z_conv (L2 := [(0, .ref (ad 7 i)), (1, iv w)]) ?_ rfl rfl rfl
  refine z_aload_n hC 0 rfl dX1_rideMinutes_0 rfl ?_
  refine z_getI hC zfX1_13 (tmC_7 ad tc _) (okC_7 (by omega)) rfl (x := M 7 i 4) (rfl) dX1_rideMinutes_1 ?_
  refine z_iload_n hC 1 rfl dX1_rideMinutes_4 rfl ?_
  refine z_bipush hC dX1_rideMinutes_5 (by decide) ?_
  refine z_idiv hC dX1_rideMinutes_7 (by omega) (by omega) ?_
  refine z_iadd hC dX1_rideMinutes_8 ?_
  refine z_istore_n hC (L' := [(2, iv ((M 7 i 4) + (w / 10))), (0, .ref (ad 7 i)), (1, iv w)]) dX1_rideMinutes_9 rfl (by decide) rfl ?_
  refine z_iload_n hC 0 rfl dX1_rideMinutes_10 rfl ?_
  refine z_if_gt hC 16 dX1_rideMinutes_11 (by decide) (by omega) (fun c11 => ?_) (fun c11 => ?_)
  · skip
    refine z_iconst hC dX1_rideMinutes_16 ?_
    refine z_aload_n hC 1 rfl dX1_rideMinutes_17 rfl ?_
    refine z_getI hC zfX1_16 (tmC_7 ad tc _) (okC_7 (by omega)) rfl (x := M 7 i 3) (rfl) dX1_rideMinutes_18 ?_
    refine z_imul hC dX1_rideMinutes_21 ?_
    refine z_iload_n hC 0 rfl dX1_rideMinutes_22 rfl ?_
    refine z_iadd hC dX1_rideMinutes_23 ?_
    refine z_iconst hC dX1_rideMinutes_24 ?_
    refine z_isub hC dX1_rideMinutes_25 ?_
    refine z_iload_n hC 0 rfl dX1_rideMinutes_26 rfl ?_
    refine z_idiv hC dX1_rideMinutes_27 (by omega) (by omega) ?_
    refine z_istore_n hC (L' := [(3, iv ((((2 * (M 7 i 3)) + ((M 7 i 4) + (w / 10))) - 1) / ((M 7 i 4) + (w / 10)))), (2, iv ((M 7 i 4) + (w / 10))), (0, .ref (ad 7 i)), (1, iv w)]) dX1_rideMinutes_28 rfl (by decide) rfl ?_
    refine z_aload_n hC 2 rfl dX1_rideMinutes_29 rfl ?_
    refine z_iload_n hC 3 rfl dX1_rideMinutes_30 rfl ?_
    refine z_callVi hC zlX1_19 (k_X1_getsStuck l D tc ad hI M i w (by omega) (by omega) (by omega) (by omega)) (tmC_7 ad tc _) rfl (okC_7 (by omega)) rfl rfl (Nat.le_of_ble_eq_true rfl) ⟨by decide, by decide⟩ ⟨by decide, by decide⟩ dX1_rideMinutes_31 ?_
    refine z_if_eq_b hC 43 dX1_rideMinutes_34 (by decide) (fun c34 => ?_) (fun c34 => ?_)
    · skip
      refine z_iload_n hC 0 rfl dX1_rideMinutes_43 rfl ?_
      exact z_iret hC hret hlk rfl (by simp only [rideC]; first | rw [if_pos (by omega)] | (rw [if_neg (by omega)]; first | rw [if_pos (by assumption)] | rw [if_neg (by assumption)])) (by rfl) dX1_rideMinutes_44
    · skip
      refine z_iconst hC dX1_rideMinutes_37 ?_
      refine z_iload_n hC 0 rfl dX1_rideMinutes_38 rfl ?_
      refine z_imul hC dX1_rideMinutes_39 ?_
      refine z_goto hC 44 dX1_rideMinutes_40 (by decide) ?_
      exact z_iret hC hret hlk rfl (by simp only [rideC]; first | rw [if_pos (by omega)] | (rw [if_neg (by omega)]; first | rw [if_pos (by assumption)] | rw [if_neg (by assumption)])) (by rfl) dX1_rideMinutes_44
  · skip
    refine z_iconst hC dX1_rideMinutes_14 ?_
    exact z_iret hC hret hlk rfl (by simp only [rideC]; first | rw [if_pos (by omega)] | (rw [if_neg (by omega)]; first | rw [if_pos (by assumption)] | rw [if_neg (by assumption)])) (by rfl) dX1_rideMinutes_15
set_option maxHeartbeats 4000000 in
set_option maxRecDepth 100000 in
theorem k_X2_distanceTo (l : Launch) (D : va_G) (tc : Nat → ClassId) (ad : Nat → Nat → Nat) (hI : zI ad okC) (M : zM) (i : Nat) (o : Nat) (hi : i < 8) (ho : o < 8) (h1 : 0 ≤ M 6 i 0 ∧ M 6 i 0 ≤ 60) (h2 : 0 ≤ M 6 i 1 ∧ M 6 i 1 ≤ 60) (h3 : 0 ≤ M 6 o 0 ∧ M 6 o 0 ≤ 60) (h4 : 0 ≤ M 6 o 1 ∧ M 6 o 1 ≤ 60) : zMi l yX2_distanceTo cX2_distanceTo 2 (some .int) 1 D (tysC tc) ad okC (tmC ad tc) [.ref (ad 6 i), .ref (ad 6 o)] M (absC (M 6 i 0 - M 6 o 0) + absC (M 6 i 1 - M 6 o 1)) M 0 0 := by
  refine z_met hI (plainFor_of_name (by decide)) (Nat.le_of_ble_eq_true rfl) ?_
  intro p e s m args below meth c hC hret hlk
  refine z_conv (L2 := [(0, .ref (ad 6 i)), (1, .ref (ad 6 o))]) ?_ rfl rfl rfl
  refine z_aload_n hC 0 rfl dX2_distanceTo_0 rfl ?_
  refine z_getI hC zfX2_7 (tmC_6 ad tc _) (okC_6 (by omega)) rfl (x := M 6 i 0) (rfl) dX2_distanceTo_1 ?_
  refine z_aload_n hC 1 rfl dX2_distanceTo_4 rfl ?_
  refine z_getI hC zfX2_7 (tmC_6 ad tc _) (okC_6 (by omega)) rfl (x := M 6 o 0) (rfl) dX2_distanceTo_5 ?_
  refine z_isub hC dX2_distanceTo_8 ?_
  refine z_callSi hC zlX2_13 (k_J9_abs_0f7a4 l D tc ad hI M ((M 6 i 0) - (M 6 o 0)) (by omega)) rfl rfl (Nat.le_of_ble_eq_true rfl) ⟨by decide, by decide⟩ ⟨by decide, by decide⟩ dX2_distanceTo_9 ?_
  refine z_aload_n hC 0 rfl dX2_distanceTo_12 rfl ?_
  refine z_getI hC zfX2_19 (tmC_6 ad tc _) (okC_6 (by omega)) rfl (x := M 6 i 1) (rfl) dX2_distanceTo_13 ?_
  refine z_aload_n hC 1 rfl dX2_distanceTo_16 rfl ?_
  refine z_getI hC zfX2_19 (tmC_6 ad tc _) (okC_6 (by omega)) rfl (x := M 6 o 1) (rfl) dX2_distanceTo_17 ?_
  refine z_isub hC dX2_distanceTo_20 ?_
  refine z_callSi hC zlX2_13 (k_J9_abs_0f7a4 l D tc ad hI M ((M 6 i 1) - (M 6 o 1)) (by omega)) rfl rfl (Nat.le_of_ble_eq_true rfl) ⟨by decide, by decide⟩ ⟨by decide, by decide⟩ dX2_distanceTo_21 ?_
  refine z_iadd hC dX2_distanceTo_24 ?_
  exact z_iret hC hret hlk rfl (by rfl) (by rfl) dX2_distanceTo_25
set_option maxHeartbeats 4000000 in
set_option maxRecDepth 100000 in
theorem k_X6_copyFrom (l : Launch) (D : va_G) (tc : Nat → ClassId) (ad : Nat → Nat → Nat) (hI : zI ad okC) (M : zM) (i : Nat) (o : Nat) (hi : i < 24) (ho : o < 24) : zMv l yX6_copyFrom cX6_copyFrom 2 none 0 D (tysC tc) ad okC (tmC ad tc) [.ref (ad 16 i), .ref (ad 16 o)] M (tripCp M i o) 0 0 := by
  refine z_met hI (plainFor_of_name (by decide)) (Nat.le_of_ble_eq_true rfl) ?_
  intro p e s m args below meth c hC hret hlk
  refine z_conv (L2 := [(0, .ref (ad 16 i)), (1, .ref (ad 16 o))]) ?_ rfl rfl rfl
  refine z_aload_n hC 0 rfl dX6_copyFrom_0 rfl ?_
  refine z_aload_n hC 1 rfl dX6_copyFrom_1 rfl ?_
  refine z_getI hC zfX6_15 (tmC_16 ad tc _) (okC_16 (by omega)) rfl (x := M 16 o 0) (rfl) dX6_copyFrom_2 ?_
  refine z_put hC zgX6_15 (tmC_16 ad tc _) (okC_16 (by omega)) rfl dX6_copyFrom_5 ?_
  refine z_aload_n hC 0 rfl dX6_copyFrom_8 rfl ?_
  refine z_aload_n hC 1 rfl dX6_copyFrom_9 rfl ?_
  refine z_getI hC zfX6_18 (tmC_16 ad tc _) (okC_16 (by omega)) rfl (x := M 16 o 1) (by simp [zup]) dX6_copyFrom_10 ?_
  refine z_put hC zgX6_18 (tmC_16 ad tc _) (okC_16 (by omega)) rfl dX6_copyFrom_13 ?_
  refine z_aload_n hC 0 rfl dX6_copyFrom_16 rfl ?_
  refine z_aload_n hC 1 rfl dX6_copyFrom_17 rfl ?_
  refine z_getI hC zfX6_21 (tmC_16 ad tc _) (okC_16 (by omega)) rfl (x := M 16 o 2) (by simp [zup]) dX6_copyFrom_18 ?_
  refine z_put hC zgX6_21 (tmC_16 ad tc _) (okC_16 (by omega)) rfl dX6_copyFrom_21 ?_
  refine z_aload_n hC 0 rfl dX6_copyFrom_24 rfl ?_
  refine z_aload_n hC 1 rfl dX6_copyFrom_25 rfl ?_
  refine z_getI hC zfX6_24 (tmC_16 ad tc _) (okC_16 (by omega)) rfl (x := M 16 o 3) (by simp [zup]) dX6_copyFrom_26 ?_
  refine z_put hC zgX6_24 (tmC_16 ad tc _) (okC_16 (by omega)) rfl dX6_copyFrom_29 ?_
  refine z_aload_n hC 0 rfl dX6_copyFrom_32 rfl ?_
  refine z_aload_n hC 1 rfl dX6_copyFrom_33 rfl ?_
  refine z_getI hC zfX6_27 (tmC_16 ad tc _) (okC_16 (by omega)) rfl (x := M 16 o 4) (by simp [zup]) dX6_copyFrom_34 ?_
  refine z_put hC zgX6_27 (tmC_16 ad tc _) (okC_16 (by omega)) rfl dX6_copyFrom_37 ?_
  refine z_aload_n hC 0 rfl dX6_copyFrom_40 rfl ?_
  refine z_aload_n hC 1 rfl dX6_copyFrom_41 rfl ?_
  refine z_getI hC zfX6_9 (tmC_16 ad tc _) (okC_16 (by omega)) rfl (x := M 16 o 5) (by simp [zup]) dX6_copyFrom_42 ?_
  refine z_put hC zgX6_9 (tmC_16 ad tc _) (okC_16 (by omega)) rfl dX6_copyFrom_45 ?_
  exact z_vret hC hret hlk (by rfl) dX6_copyFrom_48
set_option maxHeartbeats 4000000 in
set_option maxRecDepth 100000 in
theorem k_X6_isUnderWay (l : Launch) (D : va_G) (tc : Nat → ClassId) (ad : Nat → Nat → Nat) (hI : zI ad okC) (M : zM) (i : Nat) (hi : i < 24) (h : 0 ≤ M 16 i 0 ∧ M 16 i 0 ≤ 3) : zMi l yX6_isUnderWay cX6_isUnderWay 1 (some .boolean) 0 D (tysC tc) ad okC (tmC ad tc) [.ref (ad 16 i)] M (if M 16 i 0 = 0 ∨ M 16 i 0 = 1 then 1 else 0) M 0 0 := by
  refine z_met hI (plainFor_of_name (by decide)) (Nat.le_of_ble_eq_true rfl) ?_
  intro p e s m args below meth c hC hret hlk
  refine z_conv (L2 := [(0, .ref (ad 16 i))]) ?_ rfl rfl rfl
  refine z_aload_n hC 0 rfl dX6_isUnderWay_0 rfl ?_
  refine z_getI hC zfX6_15 (tmC_16 ad tc _) (okC_16 (by omega)) rfl (x := M 16 i 0) (rfl) dX6_isUnderWay_1 ?_
  refine z_if_eq hC 15 dX6_isUnderWay_4 (by decide) (by omega) (fun c4 => ?_) (fun c4 => ?_)
  · skip
    refine z_iconst hC dX6_isUnderWay_15 ?_
    refine z_goto hC 20 dX6_isUnderWay_16 (by decide) ?_
    exact z_iret hC hret hlk (by decide) (by first | rw [if_pos (by omega)] | rw [if_neg (by omega)]) (by rfl) dX6_isUnderWay_20
  · skip
    refine z_aload_n hC 0 rfl dX6_isUnderWay_7 rfl ?_
    refine z_getI hC zfX6_15 (tmC_16 ad tc _) (okC_16 (by omega)) rfl (x := M 16 i 0) (rfl) dX6_isUnderWay_8 ?_
    refine z_iconst hC dX6_isUnderWay_11 ?_
    refine z_icmp_ne hC 19 dX6_isUnderWay_12 (by decide) (by omega) (by omega) (fun c12 => ?_) (fun c12 => ?_)
    · skip
      refine z_iconst hC dX6_isUnderWay_19 ?_
      exact z_iret hC hret hlk (by decide) (by first | rw [if_pos (by omega)] | rw [if_neg (by omega)]) (by rfl) dX6_isUnderWay_20
    · skip
      refine z_iconst hC dX6_isUnderWay_15 ?_
      refine z_goto hC 20 dX6_isUnderWay_16 (by decide) ?_
      exact z_iret hC hret hlk (by decide) (by first | rw [if_pos (by omega)] | rw [if_neg (by omega)]) (by rfl) dX6_isUnderWay_20
set_option maxHeartbeats 4000000 in
set_option maxRecDepth 100000 in
theorem k_X6_beginWait (l : Launch) (D : va_G) (tc : Nat → ClassId) (ad : Nat → Nat → Nat) (hI : zI ad okC) (M : zM) (i : Nat) (pf : Int) (hi : i < 24) : zMv l yX6_beginWait cX6_beginWait 2 none 0 D (tysC tc) ad okC (tmC ad tc) [.ref (ad 16 i), iv pf] M (waitC M i pf) 0 0 := by
  refine z_met hI (plainFor_of_name (by decide)) (Nat.le_of_ble_eq_true rfl) ?_
  intro p e s m args below meth c hC hret hlk
  refine z_conv (L2 := [(0, .ref (ad 16 i)), (1, iv pf)]) ?_ rfl rfl rfl
  refine z_aload_n hC 0 rfl dX6_beginWait_0 rfl ?_
  refine z_iconst hC dX6_beginWait_1 ?_
  refine z_put hC zgX6_15 (tmC_16 ad tc _) (okC_16 (by omega)) rfl dX6_beginWait_2 ?_
  refine z_aload_n hC 0 rfl dX6_beginWait_5 rfl ?_
  refine z_iload_n hC 1 rfl dX6_beginWait_6 rfl ?_
  refine z_put hC zgX6_18 (tmC_16 ad tc _) (okC_16 (by omega)) rfl dX6_beginWait_7 ?_
  refine z_aload_n hC 0 rfl dX6_beginWait_10 rfl ?_
  refine z_iconst hC dX6_beginWait_11 ?_
  refine z_put hC zgX6_21 (tmC_16 ad tc _) (okC_16 (by omega)) rfl dX6_beginWait_12 ?_
  refine z_aload_n hC 0 rfl dX6_beginWait_15 rfl ?_
  refine z_iconst hC dX6_beginWait_16 ?_
  refine z_put hC zgX6_24 (tmC_16 ad tc _) (okC_16 (by omega)) rfl dX6_beginWait_17 ?_
  exact z_vret hC hret hlk (by rfl) dX6_beginWait_20
set_option maxHeartbeats 4000000 in
set_option maxRecDepth 100000 in
theorem k_X6_beginRide (l : Launch) (D : va_G) (tc : Nat → ClassId) (ad : Nat → Nat → Nat) (hI : zI ad okC) (M : zM) (i : Nat) (on mi : Int) (hi : i < 24) : zMv l yX6_beginRide cX6_beginRide 3 none 0 D (tysC tc) ad okC (tmC ad tc) [.ref (ad 16 i), iv on, iv mi] M (rideTC M i on mi) 0 0 := by
  refine z_met hI (plainFor_of_name (by decide)) (Nat.le_of_ble_eq_true rfl) ?_
  intro p e s m args below meth c hC hret hlk
  refine z_conv (L2 := [(0, .ref (ad 16 i)), (1, iv on), (2, iv mi)]) ?_ rfl rfl rfl
  refine z_aload_n hC 0 rfl dX6_beginRide_0 rfl ?_
  refine z_iconst hC dX6_beginRide_1 ?_
  refine z_put hC zgX6_15 (tmC_16 ad tc _) (okC_16 (by omega)) rfl dX6_beginRide_2 ?_
  refine z_aload_n hC 0 rfl dX6_beginRide_5 rfl ?_
  refine z_iconst hC dX6_beginRide_6 ?_
  refine z_put hC zgX6_18 (tmC_16 ad tc _) (okC_16 (by omega)) rfl dX6_beginRide_7 ?_
  refine z_aload_n hC 0 rfl dX6_beginRide_10 rfl ?_
  refine z_iload_n hC 1 rfl dX6_beginRide_11 rfl ?_
  refine z_put hC zgX6_21 (tmC_16 ad tc _) (okC_16 (by omega)) rfl dX6_beginRide_12 ?_
  refine z_aload_n hC 0 rfl dX6_beginRide_15 rfl ?_
  refine z_iload_n hC 2 rfl dX6_beginRide_16 rfl ?_
  refine z_put hC zgX6_24 (tmC_16 ad tc _) (okC_16 (by omega)) rfl dX6_beginRide_17 ?_
  refine z_aload_n hC 0 rfl dX6_beginRide_20 rfl ?_
  refine z_dup hC dX6_beginRide_21 rfl ?_
  refine z_getI hC zfX6_27 (tmC_16 ad tc _) (okC_16 (by omega)) rfl (x := M 16 i 4) (by simp [zup]) dX6_beginRide_22 ?_
  refine z_iconst hC dX6_beginRide_25 ?_
  refine z_iadd hC dX6_beginRide_26 ?_
  refine z_put hC zgX6_27 (tmC_16 ad tc _) (okC_16 (by omega)) rfl dX6_beginRide_27 ?_
  exact z_vret hC hret hlk (by rfl) dX6_beginRide_30
set_option maxHeartbeats 4000000 in
set_option maxRecDepth 100000 in
theorem k_X6_arrive (l : Launch) (D : va_G) (tc : Nat → ClassId) (ad : Nat → Nat → Nat) (hI : zI ad okC) (M : zM) (i : Nat) (pf mi : Int) (hi : i < 24) : zMv l yX6_arrive cX6_arrive 3 none 0 D (tysC tc) ad okC (tmC ad tc) [.ref (ad 16 i), iv pf, iv mi] M (arriveC M i pf mi) 0 0 := by
  refine z_met hI (plainFor_of_name (by decide)) (Nat.le_of_ble_eq_true rfl) ?_
  intro p e s m args below meth c hC hret hlk
  refine z_conv (L2 := [(0, .ref (ad 16 i)), (1, iv pf), (2, iv mi)]) ?_ rfl rfl rfl
  refine z_aload_n hC 0 rfl dX6_arrive_0 rfl ?_
  refine z_iconst hC dX6_arrive_1 ?_
  refine z_put hC zgX6_15 (tmC_16 ad tc _) (okC_16 (by omega)) rfl dX6_arrive_2 ?_
  refine z_aload_n hC 0 rfl dX6_arrive_5 rfl ?_
  refine z_iload_n hC 1 rfl dX6_arrive_6 rfl ?_
  refine z_put hC zgX6_18 (tmC_16 ad tc _) (okC_16 (by omega)) rfl dX6_arrive_7 ?_
  refine z_aload_n hC 0 rfl dX6_arrive_10 rfl ?_
  refine z_iconst hC dX6_arrive_11 ?_
  refine z_put hC zgX6_21 (tmC_16 ad tc _) (okC_16 (by omega)) rfl dX6_arrive_12 ?_
  refine z_aload_n hC 0 rfl dX6_arrive_15 rfl ?_
  refine z_iconst hC dX6_arrive_16 ?_
  refine z_put hC zgX6_24 (tmC_16 ad tc _) (okC_16 (by omega)) rfl dX6_arrive_17 ?_
  refine z_aload_n hC 0 rfl dX6_arrive_20 rfl ?_
  refine z_iload_n hC 2 rfl dX6_arrive_21 rfl ?_
  refine z_put hC zgX6_9 (tmC_16 ad tc _) (okC_16 (by omega)) rfl dX6_arrive_22 ?_
  exact z_vret hC hret hlk (by rfl) dX6_arrive_25
set_option maxHeartbeats 4000000 in
set_option maxRecDepth 100000 in
theorem k_X6_giveUp (l : Launch) (D : va_G) (tc : Nat → ClassId) (ad : Nat → Nat → Nat) (hI : zI ad okC) (M : zM) (i : Nat) (hi : i < 24) : zMv l yX6_giveUp cX6_giveUp 1 none 0 D (tysC tc) ad okC (tmC ad tc) [.ref (ad 16 i)] M (giveUpC M i) 0 0 := by
  refine z_met hI (plainFor_of_name (by decide)) (Nat.le_of_ble_eq_true rfl) ?_
  intro p e s m args below meth c hC hret hlk
  refine z_conv (L2 := [(0, .ref (ad 16 i))]) ?_ rfl rfl rfl
  refine z_aload_n hC 0 rfl dX6_giveUp_0 rfl ?_
  refine z_iconst hC dX6_giveUp_1 ?_
  refine z_put hC zgX6_15 (tmC_16 ad tc _) (okC_16 (by omega)) rfl dX6_giveUp_2 ?_
  refine z_aload_n hC 0 rfl dX6_giveUp_5 rfl ?_
  refine z_iconst hC dX6_giveUp_6 ?_
  refine z_put hC zgX6_18 (tmC_16 ad tc _) (okC_16 (by omega)) rfl dX6_giveUp_7 ?_
  refine z_aload_n hC 0 rfl dX6_giveUp_10 rfl ?_
  refine z_iconst hC dX6_giveUp_11 ?_
  refine z_put hC zgX6_24 (tmC_16 ad tc _) (okC_16 (by omega)) rfl dX6_giveUp_12 ?_
  exact z_vret hC hret hlk (by rfl) dX6_giveUp_15
set_option maxHeartbeats 4000000 in
set_option maxRecDepth 100000 in
theorem k_X7_inAll (l : Launch) (D : va_G) (tc : Nat → ClassId) (ad : Nat → Nat → Nat) (hI : zI ad okC) (M : zM) (i : Nat) (hi : i < 24) : zMi l yX7_inAll cX7_inAll 1 (some .int) 0 D (tysC tc) ad okC (tmC ad tc) [.ref (ad 17 i)] M (M 17 i 0 + M 17 i 1) M 0 0 := by
  refine z_met hI (plainFor_of_name (by decide)) (Nat.le_of_ble_eq_true rfl) ?_
  intro p e s m args below meth c hC hret hlk
  refine z_conv (L2 := [(0, .ref (ad 17 i))]) ?_ rfl rfl rfl
  refine z_aload_n hC 0 rfl dX7_inAll_0 rfl ?_
  refine z_getI hC zfX7_18 (tmC_17 ad tc _) (okC_17 (by omega)) rfl (x := M 17 i 0) (rfl) dX7_inAll_1 ?_
  refine z_aload_n hC 0 rfl dX7_inAll_4 rfl ?_
  refine z_getI hC zfX7_22 (tmC_17 ad tc _) (okC_17 (by omega)) rfl (x := M 17 i 1) (rfl) dX7_inAll_5 ?_
  refine z_iadd hC dX7_inAll_8 ?_
  exact z_iret hC hret hlk rfl (by rfl) (by rfl) dX7_inAll_9
set_option maxHeartbeats 4000000 in
set_option maxRecDepth 100000 in
theorem k_X7_canLeaveTop (l : Launch) (D : va_G) (tc : Nat → ClassId) (ad : Nat → Nat → Nat) (hI : zI ad okC) (M : zM) (i : Nat) (hi : i < 24) (haw : 0 ≤ M 17 i 1 ∧ M 17 i 1 ≤ 3) (hat : 0 ≤ M 17 i 0 ∧ M 17 i 0 ≤ 3) : zMi l yX7_canLeaveTop cX7_canLeaveTop 1 (some .boolean) 0 D (tysC tc) ad okC (tmC ad tc) [.ref (ad 17 i)] M (if 0 < M 17 i 0 ∧ M 17 i 1 < 3 then 1 else 0) M 0 0 := by
  refine z_met hI (plainFor_of_name (by decide)) (Nat.le_of_ble_eq_true rfl) ?_
  intro p e s m args below meth c hC hret hlk
  refine z_conv (L2 := [(0, .ref (ad 17 i))]) ?_ rfl rfl rfl
  refine z_aload_n hC 0 rfl dX7_canLeaveTop_0 rfl ?_
  refine z_getI hC zfX7_18 (tmC_17 ad tc _) (okC_17 (by omega)) rfl (x := M 17 i 0) (rfl) dX7_canLeaveTop_1 ?_
  refine z_if_le hC 19 dX7_canLeaveTop_4 (by decide) (by omega) (fun c4 => ?_) (fun c4 => ?_)
  · skip
    refine z_iconst hC dX7_canLeaveTop_19 ?_
    exact z_iret hC hret hlk (by decide) (by first | rw [if_pos (by omega)] | rw [if_neg (by omega)]) (by rfl) dX7_canLeaveTop_20
  · skip
    refine z_aload_n hC 0 rfl dX7_canLeaveTop_7 rfl ?_
    refine z_getI hC zfX7_22 (tmC_17 ad tc _) (okC_17 (by omega)) rfl (x := M 17 i 1) (rfl) dX7_canLeaveTop_8 ?_
    refine z_iconst hC dX7_canLeaveTop_11 ?_
    refine z_icmp_ge hC 19 dX7_canLeaveTop_12 (by decide) (by omega) (by omega) (fun c12 => ?_) (fun c12 => ?_)
    · skip
      refine z_iconst hC dX7_canLeaveTop_19 ?_
      exact z_iret hC hret hlk (by decide) (by first | rw [if_pos (by omega)] | rw [if_neg (by omega)]) (by rfl) dX7_canLeaveTop_20
    · skip
      refine z_iconst hC dX7_canLeaveTop_15 ?_
      refine z_goto hC 20 dX7_canLeaveTop_16 (by decide) ?_
      exact z_iret hC hret hlk (by decide) (by first | rw [if_pos (by omega)] | rw [if_neg (by omega)]) (by rfl) dX7_canLeaveTop_20
set_option maxHeartbeats 4000000 in
set_option maxRecDepth 100000 in
theorem k_X7_beginPull (l : Launch) (D : va_G) (tc : Nat → ClassId) (ad : Nat → Nat → Nat) (hI : zI ad okC) (M : zM) (i : Nat) (j : Nat) (mi : Int) (hi : i < 24) (hj : j < 3) : zMv l yX7_beginPull cX7_beginPull 3 none 0 D (tysC tc) ad okC (tmC ad tc) [.ref (ad 17 i), iv ((j : Nat) : Int), iv mi] M (pullC M i j mi) 0 0 := by
  refine z_met hI (plainFor_of_name (by decide)) (Nat.le_of_ble_eq_true rfl) ?_
  intro p e s m args below meth c hC hret hlk
  refine z_conv (L2 := [(0, .ref (ad 17 i)), (1, iv ((j : Nat) : Int)), (2, iv mi)]) ?_ rfl rfl rfl
  refine z_aload_n hC 0 rfl dX7_beginPull_0 rfl ?_
  refine z_getR hC zfX7_9 (tmC_17 ad tc _) (okC_17 (by omega)) rfl dX7_beginPull_1 ?_
  refine z_iload_n hC 1 rfl dX7_beginPull_4 rfl ?_
  refine z_iconst hC dX7_beginPull_5 ?_
  refine z_iastore hC 0 (j) (tmC_18 ad tc _) (tysC_0 tc) (okC_18 (by omega)) (rfl) (by omega) (by decide) dX7_beginPull_6 ?_
  refine z_aload_n hC 0 rfl dX7_beginPull_7 rfl ?_
  refine z_getR hC zfX7_15 (tmC_17 ad tc _) (okC_17 (by omega)) rfl dX7_beginPull_8 ?_
  refine z_iload_n hC 1 rfl dX7_beginPull_11 rfl ?_
  refine z_iload_n hC 2 rfl dX7_beginPull_12 rfl ?_
  refine z_iastore hC 0 (j) (tmC_19 ad tc _) (tysC_0 tc) (okC_19 (by omega)) (rfl) (by omega) (by decide) dX7_beginPull_13 ?_
  exact z_vret hC hret hlk (by rfl) dX7_beginPull_14
set_option maxHeartbeats 4000000 in
set_option maxRecDepth 100000 in
theorem k_X7_leaveTop (l : Launch) (D : va_G) (tc : Nat → ClassId) (ad : Nat → Nat → Nat) (hI : zI ad okC) (M : zM) (i : Nat) (r mi : Int) (hi : i < 24) (haw : 0 ≤ M 17 i 1 ∧ M 17 i 1 < 3) : zMv l yX7_leaveTop cX7_leaveTop 3 none 0 D (tysC tc) ad okC (tmC ad tc) [.ref (ad 17 i), iv r, iv mi] M (leaveTopC M i r mi) 0 0 := by
  refine z_met hI (plainFor_of_name (by decide)) (Nat.le_of_ble_eq_true rfl) ?_
  intro p e s m args below meth c hC hret hlk
  refine z_conv (L2 := [(0, .ref (ad 17 i)), (1, iv r), (2, iv mi)]) ?_ rfl rfl rfl
  refine z_aload_n hC 0 rfl dX7_leaveTop_0 rfl ?_
  refine z_getR hC zfX7_9 (tmC_17 ad tc _) (okC_17 (by omega)) rfl dX7_leaveTop_1 ?_
  refine z_aload_n hC 0 rfl dX7_leaveTop_4 rfl ?_
  refine z_getI hC zfX7_22 (tmC_17 ad tc _) (okC_17 (by omega)) rfl (x := M 17 i 1) (rfl) dX7_leaveTop_5 ?_
  refine z_iload_n hC 1 rfl dX7_leaveTop_8 rfl ?_
  refine z_iastore hC 0 ((M 17 i 1).toNat) (tmC_18 ad tc _) (tysC_0 tc) (okC_18 (by omega)) (by omega) (by omega) (by decide) dX7_leaveTop_9 ?_
  refine z_aload_n hC 0 rfl dX7_leaveTop_10 rfl ?_
  refine z_getR hC zfX7_15 (tmC_17 ad tc _) (okC_17 (by omega)) rfl dX7_leaveTop_11 ?_
  refine z_aload_n hC 0 rfl dX7_leaveTop_14 rfl ?_
  refine z_getI hC zfX7_22 (tmC_17 ad tc _) (okC_17 (by omega)) rfl (x := M 17 i 1) (by simp [zup]) dX7_leaveTop_15 ?_
  refine z_iload_n hC 2 rfl dX7_leaveTop_18 rfl ?_
  refine z_iastore hC 0 ((M 17 i 1).toNat) (tmC_19 ad tc _) (tysC_0 tc) (okC_19 (by omega)) (by omega) (by omega) (by decide) dX7_leaveTop_19 ?_
  refine z_aload_n hC 0 rfl dX7_leaveTop_20 rfl ?_
  refine z_dup hC dX7_leaveTop_21 rfl ?_
  refine z_getI hC zfX7_22 (tmC_17 ad tc _) (okC_17 (by omega)) rfl (x := M 17 i 1) (by simp [zup]) dX7_leaveTop_22 ?_
  refine z_iconst hC dX7_leaveTop_25 ?_
  refine z_iadd hC dX7_leaveTop_26 ?_
  refine z_put hC zgX7_22 (tmC_17 ad tc _) (okC_17 (by omega)) rfl dX7_leaveTop_27 ?_
  refine z_aload_n hC 0 rfl dX7_leaveTop_30 rfl ?_
  refine z_dup hC dX7_leaveTop_31 rfl ?_
  refine z_getI hC zfX7_18 (tmC_17 ad tc _) (okC_17 (by omega)) rfl (x := M 17 i 0) (by simp [zup]) dX7_leaveTop_32 ?_
  refine z_iconst hC dX7_leaveTop_35 ?_
  refine z_isub hC dX7_leaveTop_36 ?_
  refine z_put hC zgX7_18 (tmC_17 ad tc _) (okC_17 (by omega)) rfl dX7_leaveTop_37 ?_
  refine z_aload_n hC 0 rfl dX7_leaveTop_40 rfl ?_
  refine z_dup hC dX7_leaveTop_41 rfl ?_
  refine z_getI hC zfX7_25 (tmC_17 ad tc _) (okC_17 (by omega)) rfl (x := M 17 i 4) (by simp [zup]) dX7_leaveTop_42 ?_
  refine z_iconst hC dX7_leaveTop_45 ?_
  refine z_iadd hC dX7_leaveTop_46 ?_
  refine z_put hC zgX7_25 (tmC_17 ad tc _) (okC_17 (by omega)) rfl dX7_leaveTop_47 ?_
  exact z_vret hC hret hlk (by rfl) dX7_leaveTop_50
set_option maxHeartbeats 4000000 in
set_option maxRecDepth 100000 in
theorem k_X7_ridden (l : Launch) (D : va_G) (tc : Nat → ClassId) (ad : Nat → Nat → Nat) (hI : zI ad okC) (M : zM) (i : Nat) (hi : i < 24) (haw : 0 ≤ M 17 i 1 ∧ M 17 i 1 ≤ 3) (hri : ∀ k, -1 ≤ M 18 i k ∧ M 18 i k ≤ 11) : zMi l yX7_ridden cX7_ridden 3 (some .int) 0 D (tysC tc) ad okC (tmC ad tc) [.ref (ad 17 i)] M (zcnt (fun j => M 18 i j ≠ -1) (M 17 i 1).toNat) M 0 0 := by
  refine z_met hI (plainFor_of_name (by decide)) (Nat.le_of_ble_eq_true rfl) ?_
  intro p e s m args below meth c hC hret hlk
  refine z_conv (L2 := [(0, .ref (ad 17 i))]) ?_ rfl rfl rfl
  have hc4 : ∀ (d4 : Nat) (j : Nat) (hj : j ≤ (M 17 i 1).toNat), (M 17 i 1).toNat - j = d4 → zV p l e (zrm 0 0 0) s m args below meth c (MQ below (zQi D ad okC (tmC ad tc) (zcnt (fun j => M 18 i j ≠ -1) (M 17 i 1).toNat) M (zA ad okC s.heap.size)) args s 0 0 (zA ad okC s.heap.size)) D ad okC (tmC ad tc) (zA ad okC s.heap.size) s.heap 3 0 0 M [(0, .ref (ad 17 i)), (1, iv (zcnt (fun j => M 18 i j ≠ -1) j)), (2, iv ((j : Nat) : Int))] 4 [] := by
    intro d4
    induction d4 using Nat.strongRecOn with
    | _ d4 ih4 =>
      intro j hj hd4
      have hrj := hri j
      have hcj := zcnt_le (fun j => M 18 i j ≠ -1) j
      refine z_iload_n hC 2 rfl dX7_ridden_4 rfl ?_
      refine z_aload_n hC 0 rfl dX7_ridden_5 rfl ?_
      refine z_getI hC zfX7_22 (tmC_17 ad tc _) (okC_17 (by omega)) rfl (x := M 17 i 1) (rfl) dX7_ridden_6 ?_
      refine z_icmp_ge hC 31 dX7_ridden_9 (by decide) (by omega) (by omega) (fun c9 => ?_) (fun c9 => ?_)
      · skip
        have he : j = (M 17 i 1).toNat := by omega
        subst he
        refine z_iload_n hC 1 rfl dX7_ridden_31 rfl ?_
        exact z_iret hC hret hlk rfl (by rfl) (by rfl) dX7_ridden_32
      · skip
        refine z_aload_n hC 0 rfl dX7_ridden_12 rfl ?_
        refine z_getR hC zfX7_9 (tmC_17 ad tc _) (okC_17 (by omega)) rfl dX7_ridden_13 ?_
        refine z_iload_n hC 2 rfl dX7_ridden_16 rfl ?_
        refine z_iaload hC 0 (j) (tmC_18 ad tc _) (tysC_0 tc) (okC_18 (by omega)) (rfl) (by omega) (by decide) (x := M 18 i j) (rfl) dX7_ridden_17 ?_
        refine z_iconst hC dX7_ridden_18 ?_
        refine z_icmp_eq hC 25 dX7_ridden_19 (by decide) (by omega) (by omega) (fun c19 => ?_) (fun c19 => ?_)
        · skip
          refine z_iinc hC 2 (L' := [(2, iv (((j : Nat) : Int) + 1)), (0, .ref (ad 17 i)), (1, iv (zcnt (fun j => M 18 i j ≠ -1) j))]) dX7_ridden_25 rfl (by decide) rfl ?_
          refine z_goto hC 4 dX7_ridden_28 (by decide) ?_
          refine z_perm [1, 2, 0] (L' := [(0, .ref (ad 17 i)), (1, iv (zcnt (fun j => M 18 i j ≠ -1) j)), (2, iv (((j : Nat) : Int) + 1))]) rfl ?_
          exact z_conv (ih4 _ (by omega) (j + 1) (by omega) rfl) (by rfl) (by simp only [zcnt]; simp [*]) (by rfl)
        · skip
          refine z_iinc hC 1 (L' := [(1, iv (zcnt (fun j => M 18 i j ≠ -1) j + 1)), (0, .ref (ad 17 i)), (2, iv ((j : Nat) : Int))]) dX7_ridden_22 rfl (by decide) rfl ?_
          refine z_iinc hC 2 (L' := [(2, iv (((j : Nat) : Int) + 1)), (1, iv (zcnt (fun j => M 18 i j ≠ -1) j + 1)), (0, .ref (ad 17 i))]) dX7_ridden_25 rfl (by decide) rfl ?_
          refine z_goto hC 4 dX7_ridden_28 (by decide) ?_
          refine z_perm [2, 1, 0] (L' := [(0, .ref (ad 17 i)), (1, iv (zcnt (fun j => M 18 i j ≠ -1) j + 1)), (2, iv (((j : Nat) : Int) + 1))]) rfl ?_
          exact z_conv (ih4 _ (by omega) (j + 1) (by omega) rfl) (by rfl) (by simp only [zcnt]; simp [*]) (by rfl)
  refine z_iconst hC dX7_ridden_0 ?_
  refine z_istore_n hC (L' := [(1, iv 0), (0, .ref (ad 17 i))]) dX7_ridden_1 rfl (by decide) rfl ?_
  refine z_iconst hC dX7_ridden_2 ?_
  refine z_istore_n hC (L' := [(2, iv 0), (1, iv 0), (0, .ref (ad 17 i))]) dX7_ridden_3 rfl (by decide) rfl ?_
  refine z_perm [2, 1, 0] (L' := [(0, .ref (ad 17 i)), (1, iv 0), (2, iv 0)]) rfl ?_
  exact z_conv (hc4 _ 0 (by omega) rfl) (by rfl) (by rfl) (by rfl)
set_option maxHeartbeats 4000000 in
set_option maxRecDepth 100000 in
theorem k_X7_copyFrom (l : Launch) (D : va_G) (tc : Nat → ClassId) (ad : Nat → Nat → Nat) (hI : zI ad okC) (M : zM) (i : Nat) (o : Nat) (hi : i < 24) (ho : o < 24) (haw : 0 ≤ M 17 o 1 ∧ M 17 o 1 ≤ 3) : zMv l yX7_copyFrom cX7_copyFrom 3 none 0 D (tysC tc) ad okC (tmC ad tc) [.ref (ad 17 i), .ref (ad 17 o)] M (tcp M i o) 0 0 := by
  refine z_met hI (plainFor_of_name (by decide)) (Nat.le_of_ble_eq_true rfl) ?_
  intro p e s m args below meth c hC hret hlk
  refine z_conv (L2 := [(0, .ref (ad 17 i)), (1, .ref (ad 17 o))]) ?_ rfl rfl rfl
  have hc18 : ∀ (d18 : Nat) (j : Nat) (hj : j ≤ (M 17 o 1).toNat), (M 17 o 1).toNat - j = d18 → zV p l e (zrm 0 0 0) s m args below meth c (MQ below (zQv D ad okC (tmC ad tc) (tcp M i o) (zA ad okC s.heap.size)) args s 0 0 (zA ad okC s.heap.size)) D ad okC (tmC ad tc) (zA ad okC s.heap.size) s.heap 3 0 0 (tcpN (zup (zup M 17 i 0 (M 17 o 0)) 17 i 1 (M 17 o 1)) i o j) [(0, .ref (ad 17 i)), (1, .ref (ad 17 o)), (2, iv ((j : Nat) : Int))] 18 [] := by
    intro d18
    induction d18 using Nat.strongRecOn with
    | _ d18 ih18 =>
      intro j hj hd18
      refine z_iload_n hC 2 rfl dX7_copyFrom_18 rfl ?_
      refine z_aload_n hC 0 rfl dX7_copyFrom_19 rfl ?_
      refine z_getI hC zfX7_22 (tmC_17 ad tc _) (okC_17 (by omega)) rfl (x := M 17 o 1) (by simp [zup, tcpN_fr (f := 17) (by decide)]) dX7_copyFrom_20 ?_
      refine z_icmp_ge hC 56 dX7_copyFrom_23 (by decide) (by omega) (by omega) (fun c23 => ?_) (fun c23 => ?_)
      · skip
        have he : j = (M 17 o 1).toNat := by omega
        subst he
        refine z_aload_n hC 0 rfl dX7_copyFrom_56 rfl ?_
        refine z_aload_n hC 1 rfl dX7_copyFrom_57 rfl ?_
        refine z_getI hC zfX7_25 (tmC_17 ad tc _) (okC_17 (by omega)) rfl (x := M 17 o 4) (by simp [zup, tcpN_fr (f := 17) (by decide)]) dX7_copyFrom_58 ?_
        refine z_put hC zgX7_25 (tmC_17 ad tc _) (okC_17 (by omega)) rfl dX7_copyFrom_61 ?_
        refine z_aload_n hC 0 rfl dX7_copyFrom_64 rfl ?_
        refine z_aload_n hC 1 rfl dX7_copyFrom_65 rfl ?_
        refine z_getI hC zfX7_28 (tmC_17 ad tc _) (okC_17 (by omega)) rfl (x := M 17 o 5) (by simp [zup, tcpN_fr (f := 17) (by decide)]) dX7_copyFrom_66 ?_
        refine z_put hC zgX7_28 (tmC_17 ad tc _) (okC_17 (by omega)) rfl dX7_copyFrom_69 ?_
        exact z_vret hC hret hlk (by simp only [tcp]) dX7_copyFrom_72
      · skip
        refine z_aload_n hC 0 rfl dX7_copyFrom_26 rfl ?_
        refine z_getR hC zfX7_9 (tmC_17 ad tc _) (okC_17 (by omega)) rfl dX7_copyFrom_27 ?_
        refine z_iload_n hC 2 rfl dX7_copyFrom_30 rfl ?_
        refine z_aload_n hC 1 rfl dX7_copyFrom_31 rfl ?_
        refine z_getR hC zfX7_9 (tmC_17 ad tc _) (okC_17 (by omega)) rfl dX7_copyFrom_32 ?_
        refine z_iload_n hC 2 rfl dX7_copyFrom_35 rfl ?_
        refine z_iaload hC 0 (j) (tmC_18 ad tc _) (tysC_0 tc) (okC_18 (by omega)) (rfl) (by omega) (by decide) (x := (tcpN (zup (zup M 17 i 0 (M 17 o 0)) 17 i 1 (M 17 o 1)) i o j) 18 o j) (rfl) dX7_copyFrom_36 ?_
        refine z_iastore hC 0 (j) (tmC_18 ad tc _) (tysC_0 tc) (okC_18 (by omega)) (rfl) (by omega) (by decide) dX7_copyFrom_37 ?_
        refine z_aload_n hC 0 rfl dX7_copyFrom_38 rfl ?_
        refine z_getR hC zfX7_15 (tmC_17 ad tc _) (okC_17 (by omega)) rfl dX7_copyFrom_39 ?_
        refine z_iload_n hC 2 rfl dX7_copyFrom_42 rfl ?_
        refine z_aload_n hC 1 rfl dX7_copyFrom_43 rfl ?_
        refine z_getR hC zfX7_15 (tmC_17 ad tc _) (okC_17 (by omega)) rfl dX7_copyFrom_44 ?_
        refine z_iload_n hC 2 rfl dX7_copyFrom_47 rfl ?_
        refine z_iaload hC 0 (j) (tmC_19 ad tc _) (tysC_0 tc) (okC_19 (by omega)) (rfl) (by omega) (by decide) (x := (tcpN (zup (zup M 17 i 0 (M 17 o 0)) 17 i 1 (M 17 o 1)) i o j) 19 o j) (by simp [zup]) dX7_copyFrom_48 ?_
        refine z_iastore hC 0 (j) (tmC_19 ad tc _) (tysC_0 tc) (okC_19 (by omega)) (rfl) (by omega) (by decide) dX7_copyFrom_49 ?_
        refine z_iinc hC 2 (L' := [(2, iv (((j : Nat) : Int) + 1)), (0, .ref (ad 17 i)), (1, .ref (ad 17 o))]) dX7_copyFrom_50 rfl (by decide) rfl ?_
        refine z_goto hC 18 dX7_copyFrom_53 (by decide) ?_
        refine z_perm [1, 2, 0] (L' := [(0, .ref (ad 17 i)), (1, .ref (ad 17 o)), (2, iv (((j : Nat) : Int) + 1))]) rfl ?_
        exact z_conv (ih18 _ (by omega) (j + 1) (by omega) rfl) (by rfl) (by rfl) (by rfl)
  refine z_aload_n hC 0 rfl dX7_copyFrom_0 rfl ?_
  refine z_aload_n hC 1 rfl dX7_copyFrom_1 rfl ?_
  refine z_getI hC zfX7_18 (tmC_17 ad tc _) (okC_17 (by omega)) rfl (x := M 17 o 0) (rfl) dX7_copyFrom_2 ?_
  refine z_put hC zgX7_18 (tmC_17 ad tc _) (okC_17 (by omega)) rfl dX7_copyFrom_5 ?_
  refine z_aload_n hC 0 rfl dX7_copyFrom_8 rfl ?_
  refine z_aload_n hC 1 rfl dX7_copyFrom_9 rfl ?_
  refine z_getI hC zfX7_22 (tmC_17 ad tc _) (okC_17 (by omega)) rfl (x := M 17 o 1) (by simp [zup]) dX7_copyFrom_10 ?_
  refine z_put hC zgX7_22 (tmC_17 ad tc _) (okC_17 (by omega)) rfl dX7_copyFrom_13 ?_
  refine z_iconst hC dX7_copyFrom_16 ?_
  refine z_istore_n hC (L' := [(2, iv 0), (0, .ref (ad 17 i)), (1, .ref (ad 17 o))]) dX7_copyFrom_17 rfl (by decide) rfl ?_
  refine z_perm [1, 2, 0] (L' := [(0, .ref (ad 17 i)), (1, .ref (ad 17 o)), (2, iv 0)]) rfl ?_
  exact z_conv (hc18 _ 0 (by omega) rfl) (by rfl) (by rfl) (by rfl)
set_option maxHeartbeats 4000000 in
set_option maxRecDepth 100000 in
theorem k_X7_dropPulled (l : Launch) (D : va_G) (tc : Nat → ClassId) (ad : Nat → Nat → Nat) (hI : zI ad okC) (M : zM) (i : Nat) (hi : i < 24) (haw : 0 ≤ M 17 i 1 ∧ M 17 i 1 ≤ 3) (hml : ∀ k, -1000000000 ≤ M 19 i k ∧ M 19 i k ≤ 1000000000) : zMv l yX7_dropPulled cX7_dropPulled 3 none 0 D (tysC tc) ad okC (tmC ad tc) [.ref (ad 17 i)] M (dropC M i) 0 0 := by
  refine z_met hI (plainFor_of_name (by decide)) (Nat.le_of_ble_eq_true rfl) ?_
  intro p e s m args below meth c hC hret hlk
  refine z_conv (L2 := [(0, .ref (ad 17 i))]) ?_ rfl rfl rfl
  have hc4 : ∀ (d4 : Nat) (j : Nat) (hj : j ≤ (M 17 i 1).toNat), (M 17 i 1).toNat - j = d4 → zV p l e (zrm 0 0 0) s m args below meth c (MQ below (zQv D ad okC (tmC ad tc) (dropC M i) (zA ad okC s.heap.size)) args s 0 0 (zA ad okC s.heap.size)) D ad okC (tmC ad tc) (zA ad okC s.heap.size) s.heap 3 0 0 ((dropN M i j).1) [(0, .ref (ad 17 i)), (1, iv (((dropN M i j).2 : Nat) : Int)), (2, iv ((j : Nat) : Int))] 4 [] := by
    intro d4
    induction d4 using Nat.strongRecOn with
    | _ d4 ih4 =>
      intro j hj hd4
      have hkj := dropN_le M i j
      have hz : ∀ k, -1000000000 ≤ (dropN M i j).1 19 i k ∧ (dropN M i j).1 19 i k ≤ 1000000000 := dropN_bd hml j
      have hzj := hz j
      have haw2 : (dropN M i j).1 17 = M 17 := dropN_fr (by decide)
      refine z_iload_n hC 2 rfl dX7_dropPulled_4 rfl ?_
      refine z_aload_n hC 0 rfl dX7_dropPulled_5 rfl ?_
      refine z_getI hC zfX7_22 (tmC_17 ad tc _) (okC_17 (by omega)) rfl (x := M 17 i 1) (by simp [zup, dropN_fr (f := 17) (by decide)]) dX7_dropPulled_6 ?_
      refine z_icmp_ge hC 54 dX7_dropPulled_9 (by decide) (by omega) (by omega) (fun c9 => ?_) (fun c9 => ?_)
      · skip
        have he : j = (M 17 i 1).toNat := by omega
        subst he
        refine z_aload_n hC 0 rfl dX7_dropPulled_54 rfl ?_
        refine z_dup hC dX7_dropPulled_55 rfl ?_
        refine z_getI hC zfX7_18 (tmC_17 ad tc _) (okC_17 (by omega)) rfl (x := M 17 i 0) (by simp [zup, dropN_fr (f := 17) (by decide)]) dX7_dropPulled_56 ?_
        refine z_aload_n hC 0 rfl dX7_dropPulled_59 rfl ?_
        refine z_getI hC zfX7_22 (tmC_17 ad tc _) (okC_17 (by omega)) rfl (x := M 17 i 1) (by simp [zup, dropN_fr (f := 17) (by decide)]) dX7_dropPulled_60 ?_
        refine z_iload_n hC 1 rfl dX7_dropPulled_63 rfl ?_
        refine z_isub hC dX7_dropPulled_64 ?_
        refine z_iadd hC dX7_dropPulled_65 ?_
        refine z_put hC zgX7_18 (tmC_17 ad tc _) (okC_17 (by omega)) rfl dX7_dropPulled_66 ?_
        refine z_aload_n hC 0 rfl dX7_dropPulled_69 rfl ?_
        refine z_iload_n hC 1 rfl dX7_dropPulled_70 rfl ?_
        refine z_put hC zgX7_22 (tmC_17 ad tc _) (okC_17 (by omega)) rfl dX7_dropPulled_71 ?_
        exact z_vret hC hret hlk (by simp only [dropC]) dX7_dropPulled_74
      · skip
        refine z_aload_n hC 0 rfl dX7_dropPulled_12 rfl ?_
        refine z_getR hC zfX7_15 (tmC_17 ad tc _) (okC_17 (by omega)) rfl dX7_dropPulled_13 ?_
        refine z_iload_n hC 2 rfl dX7_dropPulled_16 rfl ?_
        refine z_iaload hC 0 (j) (tmC_19 ad tc _) (tysC_0 tc) (okC_19 (by omega)) (rfl) (by omega) (by decide) (x := ((dropN M i j).1) 19 i j) (rfl) dX7_dropPulled_17 ?_
        refine z_if_le hC 48 dX7_dropPulled_18 (by decide) (by omega) (fun c18 => ?_) (fun c18 => ?_)
        · skip
          refine z_iinc hC 2 (L' := [(2, iv (((j : Nat) : Int) + 1)), (0, .ref (ad 17 i)), (1, iv (((dropN M i j).2 : Nat) : Int))]) dX7_dropPulled_48 rfl (by decide) rfl ?_
          refine z_goto hC 4 dX7_dropPulled_51 (by decide) ?_
          refine z_perm [1, 2, 0] (L' := [(0, .ref (ad 17 i)), (1, iv (((dropN M i j).2 : Nat) : Int)), (2, iv (((j : Nat) : Int) + 1))]) rfl ?_
          exact z_conv (ih4 _ (by omega) (j + 1) (by omega) rfl) (by simp only [dropN, zit, dropS]; simp only [dropN] at *; first | (rw [if_pos (by assumption)]; (try rfl); done) | (rw [if_neg (by omega)]; (try simp [zup]); done)) (by simp only [dropN, zit, dropS]; simp only [dropN] at *; first | (rw [if_pos (by assumption)]; (try rfl); done) | (rw [if_neg (by omega)]; (try rfl); done)) (by rfl)
        · skip
          refine z_aload_n hC 0 rfl dX7_dropPulled_21 rfl ?_
          refine z_getR hC zfX7_9 (tmC_17 ad tc _) (okC_17 (by omega)) rfl dX7_dropPulled_22 ?_
          refine z_iload_n hC 1 rfl dX7_dropPulled_25 rfl ?_
          refine z_aload_n hC 0 rfl dX7_dropPulled_26 rfl ?_
          refine z_getR hC zfX7_9 (tmC_17 ad tc _) (okC_17 (by omega)) rfl dX7_dropPulled_27 ?_
          refine z_iload_n hC 2 rfl dX7_dropPulled_30 rfl ?_
          refine z_iaload hC 0 (j) (tmC_18 ad tc _) (tysC_0 tc) (okC_18 (by omega)) (rfl) (by omega) (by decide) (x := ((dropN M i j).1) 18 i j) (rfl) dX7_dropPulled_31 ?_
          refine z_iastore hC 0 ((dropN M i j).2) (tmC_18 ad tc _) (tysC_0 tc) (okC_18 (by omega)) (rfl) (by omega) (by decide) dX7_dropPulled_32 ?_
          refine z_aload_n hC 0 rfl dX7_dropPulled_33 rfl ?_
          refine z_getR hC zfX7_15 (tmC_17 ad tc _) (okC_17 (by omega)) rfl dX7_dropPulled_34 ?_
          refine z_iload_n hC 1 rfl dX7_dropPulled_37 rfl ?_
          refine z_aload_n hC 0 rfl dX7_dropPulled_38 rfl ?_
          refine z_getR hC zfX7_15 (tmC_17 ad tc _) (okC_17 (by omega)) rfl dX7_dropPulled_39 ?_
          refine z_iload_n hC 2 rfl dX7_dropPulled_42 rfl ?_
          refine z_iaload hC 0 (j) (tmC_19 ad tc _) (tysC_0 tc) (okC_19 (by omega)) (rfl) (by omega) (by decide) (x := ((dropN M i j).1) 19 i j) (by simp [zup]) dX7_dropPulled_43 ?_
          refine z_iastore hC 0 ((dropN M i j).2) (tmC_19 ad tc _) (tysC_0 tc) (okC_19 (by omega)) (rfl) (by omega) (by decide) dX7_dropPulled_44 ?_
          refine z_iinc hC 1 (L' := [(1, iv ((((dropN M i j).2 : Nat) : Int) + 1)), (0, .ref (ad 17 i)), (2, iv ((j : Nat) : Int))]) dX7_dropPulled_45 rfl (by decide) rfl ?_
          refine z_iinc hC 2 (L' := [(2, iv (((j : Nat) : Int) + 1)), (1, iv ((((dropN M i j).2 : Nat) : Int) + 1)), (0, .ref (ad 17 i))]) dX7_dropPulled_48 rfl (by decide) rfl ?_
          refine z_goto hC 4 dX7_dropPulled_51 (by decide) ?_
          refine z_perm [2, 1, 0] (L' := [(0, .ref (ad 17 i)), (1, iv ((((dropN M i j).2 : Nat) : Int) + 1)), (2, iv (((j : Nat) : Int) + 1))]) rfl ?_
          exact z_conv (ih4 _ (by omega) (j + 1) (by omega) rfl) (by simp only [dropN, zit, dropS]; simp only [dropN] at *; first | (rw [if_pos (by assumption)]; (try rfl); done) | (rw [if_neg (by omega)]; (try simp [zup]); done)) (by simp only [dropN, zit, dropS]; simp only [dropN] at *; first | (rw [if_pos (by assumption)]; (try rfl); done) | (rw [if_neg (by omega)]; (try rfl); done)) (by rfl)
  refine z_iconst hC dX7_dropPulled_0 ?_
  refine z_istore_n hC (L' := [(1, iv 0), (0, .ref (ad 17 i))]) dX7_dropPulled_1 rfl (by decide) rfl ?_
  refine z_iconst hC dX7_dropPulled_2 ?_
  refine z_istore_n hC (L' := [(2, iv 0), (1, iv 0), (0, .ref (ad 17 i))]) dX7_dropPulled_3 rfl (by decide) rfl ?_
  refine z_perm [2, 1, 0] (L' := [(0, .ref (ad 17 i)), (1, iv 0), (2, iv 0)]) rfl ?_
  exact z_conv (hc4 _ 0 (by omega) rfl) (by rfl) (by rfl) (by rfl)
