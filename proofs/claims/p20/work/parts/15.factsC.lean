set_option maxHeartbeats 4000000 in
set_option maxRecDepth 100000 in
theorem k_X8_isWeight (l : Launch) (D : va_G) (tc : Nat → ClassId) (ad : Nat → Nat → Nat) (hI : zI ad okC) (M : zM) (w : Int) (hw : -2147483648 ≤ w ∧ w < 2147483648) : zMi l yX8_isWeight cX8_isWeight 1 (some .boolean) 1 D (tysC tc) ad okC (tmC ad tc) [iv w] M (if 20 ≤ w ∧ w ≤ 120 then 1 else 0) M 0 0 := by
  refine z_met hI (plainFor_of_name (by decide)) (Nat.le_of_ble_eq_true rfl) ?_
  intro p e s m args below meth c hC hret hlk
  refine z_conv (L2 := [(0, iv w)]) ?_ rfl rfl rfl
  refine z_iload_n hC 0 rfl dX8_isWeight_0 rfl ?_
  refine z_bipush hC dX8_isWeight_1 (by decide) ?_
  refine z_bipush hC dX8_isWeight_3 (by decide) ?_
  refine z_callSi hC zlX8_35 (k_X8_within l D tc ad hI M w 20 120 (by omega) (by omega) (by omega)) rfl rfl (Nat.le_of_ble_eq_true rfl) ⟨by decide, by decide⟩ ⟨by decide, by decide⟩ dX8_isWeight_5 ?_
  exact z_iret hC hret hlk (by split <;> rfl) (by first | rfl | rw [if_pos (by assumption)] | rw [if_neg (by assumption)]) (by rfl) dX8_isWeight_8
set_option maxHeartbeats 4000000 in
set_option maxRecDepth 100000 in
theorem k_X8_isPlatform (l : Launch) (D : va_G) (tc : Nat → ClassId) (ad : Nat → Nat → Nat) (hI : zI ad okC) (M : zM) {T U : Int} (n : Int) (hW : WTC T U M) (hn : -2147483648 ≤ n ∧ n < 2147483648) : zMi l yX8_isPlatform cX8_isPlatform 2 (some .boolean) 1 D (tysC tc) ad okC (tmC ad tc) [.ref (ad 0 0), iv n] M (if 0 ≤ n ∧ n ≤ M 1 0 4 - 1 then 1 else 0) M 0 0 := by
  refine z_met hI (plainFor_of_name (by decide)) (Nat.le_of_ble_eq_true rfl) ?_
  intro p e s m args below meth c hC hret hlk
  refine z_conv (L2 := [(0, .ref (ad 0 0)), (1, iv n)]) ?_ rfl rfl rfl
  refine z_iload_n hC 1 rfl dX8_isPlatform_0 rfl ?_
  refine z_iconst hC dX8_isPlatform_1 ?_
  refine z_aload_n hC 0 rfl dX8_isPlatform_2 rfl ?_
  refine z_getR hC zfX8_10 (tmC_0 ad tc _) (okC_0 (by omega)) rfl dX8_isPlatform_3 ?_
  have hq1 : 0 ≤ M 1 0 4 ∧ M 1 0 4 ≤ 8 := hW.1 1 0 4
  refine z_getI hC zfX8_50 (tmC_1 ad tc _) (okC_1 (by omega)) rfl (x := M 1 0 4) (rfl) dX8_isPlatform_6 ?_
  refine z_iconst hC dX8_isPlatform_9 ?_
  refine z_isub hC dX8_isPlatform_10 ?_
  refine z_callSi hC zlX8_35 (k_X8_within l D tc ad hI M n 0 ((M 1 0 4) - 1) (by omega) (by omega) (by omega)) rfl rfl (Nat.le_of_ble_eq_true rfl) ⟨by decide, by decide⟩ ⟨by decide, by decide⟩ dX8_isPlatform_11 ?_
  exact z_iret hC hret hlk (by split <;> rfl) (by first | rfl | rw [if_pos (by assumption)] | rw [if_neg (by assumption)]) (by rfl) dX8_isPlatform_14
set_option maxHeartbeats 4000000 in
set_option maxRecDepth 100000 in
theorem k_X8_isLine (l : Launch) (D : va_G) (tc : Nat → ClassId) (ad : Nat → Nat → Nat) (hI : zI ad okC) (M : zM) {T U : Int} (n : Int) (hW : WTC T U M) (hn : -2147483648 ≤ n ∧ n < 2147483648) : zMi l yX8_isLine cX8_isLine 2 (some .boolean) 1 D (tysC tc) ad okC (tmC ad tc) [.ref (ad 0 0), iv n] M (if 0 ≤ n ∧ n ≤ M 1 0 5 - 1 then 1 else 0) M 0 0 := by
  refine z_met hI (plainFor_of_name (by decide)) (Nat.le_of_ble_eq_true rfl) ?_
  intro p e s m args below meth c hC hret hlk
  refine z_conv (L2 := [(0, .ref (ad 0 0)), (1, iv n)]) ?_ rfl rfl rfl
  refine z_iload_n hC 1 rfl dX8_isLine_0 rfl ?_
  refine z_iconst hC dX8_isLine_1 ?_
  refine z_aload_n hC 0 rfl dX8_isLine_2 rfl ?_
  refine z_getR hC zfX8_10 (tmC_0 ad tc _) (okC_0 (by omega)) rfl dX8_isLine_3 ?_
  have hq1 : 0 ≤ M 1 0 5 ∧ M 1 0 5 ≤ 12 := hW.1 1 0 5
  refine z_getI hC zfX8_77 (tmC_1 ad tc _) (okC_1 (by omega)) rfl (x := M 1 0 5) (rfl) dX8_isLine_6 ?_
  refine z_iconst hC dX8_isLine_9 ?_
  refine z_isub hC dX8_isLine_10 ?_
  refine z_callSi hC zlX8_35 (k_X8_within l D tc ad hI M n 0 ((M 1 0 5) - 1) (by omega) (by omega) (by omega)) rfl rfl (Nat.le_of_ble_eq_true rfl) ⟨by decide, by decide⟩ ⟨by decide, by decide⟩ dX8_isLine_11 ?_
  exact z_iret hC hret hlk (by split <;> rfl) (by first | rfl | rw [if_pos (by assumption)] | rw [if_neg (by assumption)]) (by rfl) dX8_isLine_14
set_option maxHeartbeats 4000000 in
set_option maxRecDepth 100000 in
theorem k_X8_isRider (l : Launch) (D : va_G) (tc : Nat → ClassId) (ad : Nat → Nat → Nat) (hI : zI ad okC) (M : zM) {T U : Int} (n : Int) (hW : WTC T U M) (hn : -2147483648 ≤ n ∧ n < 2147483648) : zMi l yX8_isRider cX8_isRider 2 (some .boolean) 1 D (tysC tc) ad okC (tmC ad tc) [.ref (ad 0 0), iv n] M (if 0 ≤ n ∧ n ≤ M 1 0 6 - 1 then 1 else 0) M 0 0 := by
  refine z_met hI (plainFor_of_name (by decide)) (Nat.le_of_ble_eq_true rfl) ?_
  intro p e s m args below meth c hC hret hlk
  refine z_conv (L2 := [(0, .ref (ad 0 0)), (1, iv n)]) ?_ rfl rfl rfl
  refine z_iload_n hC 1 rfl dX8_isRider_0 rfl ?_
  refine z_iconst hC dX8_isRider_1 ?_
  refine z_aload_n hC 0 rfl dX8_isRider_2 rfl ?_
  refine z_getR hC zfX8_10 (tmC_0 ad tc _) (okC_0 (by omega)) rfl dX8_isRider_3 ?_
  have hq1 : 0 ≤ M 1 0 6 ∧ M 1 0 6 ≤ 12 := hW.1 1 0 6
  refine z_getI hC zfX8_150 (tmC_1 ad tc _) (okC_1 (by omega)) rfl (x := M 1 0 6) (rfl) dX8_isRider_6 ?_
  refine z_iconst hC dX8_isRider_9 ?_
  refine z_isub hC dX8_isRider_10 ?_
  refine z_callSi hC zlX8_35 (k_X8_within l D tc ad hI M n 0 ((M 1 0 6) - 1) (by omega) (by omega) (by omega)) rfl rfl (Nat.le_of_ble_eq_true rfl) ⟨by decide, by decide⟩ ⟨by decide, by decide⟩ dX8_isRider_11 ?_
  exact z_iret hC hret hlk (by split <;> rfl) (by first | rfl | rw [if_pos (by assumption)] | rw [if_neg (by assumption)]) (by rfl) dX8_isRider_14
set_option maxHeartbeats 4000000 in
set_option maxRecDepth 100000 in
theorem k_X8_platformFact (l : Launch) (D : va_G) (tc : Nat → ClassId) (ad : Nat → Nat → Nat) (hI : zI ad okC) (M : zM) {T U : Int} (n w : Int) (hW : WTC T U M) (hn : 0 ≤ n ∧ n ≤ 7) (hw : 0 ≤ w ∧ w ≤ 7) : zMi l yX8_platformFact cX8_platformFact 4 (some .int) 1 D (tysC tc) ad okC (tmC ad tc) [.ref (ad 0 0), iv n, iv w] M (platFactC M n w) M 0 0 := by
  refine z_met hI (plainFor_of_name (by decide)) (Nat.le_of_ble_eq_true rfl) ?_
  intro p e s m args below meth c hC hret hlk
  refine z_conv (L2 := [(0, .ref (ad 0 0)), (1, iv n), (2, iv w)]) ?_ rfl rfl rfl
  refine z_aload_n hC 0 rfl dX8_platformFact_0 rfl ?_
  refine z_getR hC zfX8_10 (tmC_0 ad tc _) (okC_0 (by omega)) rfl dX8_platformFact_1 ?_
  refine z_getR hC zfX8_232 (tmC_1 ad tc _) (okC_1 (by omega)) rfl dX8_platformFact_4 ?_
  refine z_iload_n hC 1 rfl dX8_platformFact_7 rfl ?_
  refine z_aaload hC 1 ((n).toNat) (ad 6 (((n).toNat))) (tmC_2 ad tc _) (tysC_1 tc) (okC_2 (by omega)) (by omega) (by omega) (by decide) rfl dX8_platformFact_8 ?_
  refine z_astore_n hC (L' := [(3, .ref (ad 6 ((n).toNat))), (0, .ref (ad 0 0)), (1, iv n), (2, iv w)]) dX8_platformFact_9 rfl (by decide) rfl ?_
  refine z_iload_n hC 3 rfl dX8_platformFact_10 rfl ?_
  rcases (show w = 0 ∨ w = 1 ∨ w = 2 ∨ w = 3 ∨ w = 4 ∨ w = 5 ∨ w = 6 ∨ w = 7 by omega) with rfl | rfl | rfl | rfl | rfl | rfl | rfl | rfl
  · skip
    refine z_tableIn hC 52 dX8_platformFact_11 (by decide) (by decide) (by decide) rfl (by decide) ?_
    refine z_aload_n hC 0 rfl dX8_platformFact_52 rfl ?_
    have hq1 : 0 ≤ M 6 ((n).toNat) 0 ∧ M 6 ((n).toNat) 0 ≤ 40 := hW.1 6 ((n).toNat) 0
    refine z_getI hC zfX8_236 (tmC_6 ad tc _) (okC_6 (by omega)) rfl (x := M 6 ((n).toNat) 0) (rfl) dX8_platformFact_53 ?_
    exact z_iret hC hret hlk rfl (by rfl) (by rfl) dX8_platformFact_56
  · skip
    refine z_tableIn hC 57 dX8_platformFact_11 (by decide) (by decide) (by decide) rfl (by decide) ?_
    refine z_aload_n hC 0 rfl dX8_platformFact_57 rfl ?_
    have hq2 : 0 ≤ M 6 ((n).toNat) 1 ∧ M 6 ((n).toNat) 1 ≤ 40 := hW.1 6 ((n).toNat) 1
    refine z_getI hC zfX8_241 (tmC_6 ad tc _) (okC_6 (by omega)) rfl (x := M 6 ((n).toNat) 1) (rfl) dX8_platformFact_58 ?_
    exact z_iret hC hret hlk rfl (by rfl) (by rfl) dX8_platformFact_61
  · skip
    refine z_tableIn hC 62 dX8_platformFact_11 (by decide) (by decide) (by decide) rfl (by decide) ?_
    refine z_aload_n hC 0 rfl dX8_platformFact_62 rfl ?_
    have hq3 : 0 ≤ M 6 ((n).toNat) 2 ∧ M 6 ((n).toNat) 2 ≤ 60 := hW.1 6 ((n).toNat) 2
    refine z_getI hC zfX8_244 (tmC_6 ad tc _) (okC_6 (by omega)) rfl (x := M 6 ((n).toNat) 2) (rfl) dX8_platformFact_63 ?_
    exact z_iret hC hret hlk rfl (by rfl) (by rfl) dX8_platformFact_66
  · skip
    refine z_tableIn hC 67 dX8_platformFact_11 (by decide) (by decide) (by decide) rfl (by decide) ?_
    refine z_aload_n hC 1 rfl dX8_platformFact_67 rfl ?_
    refine z_getR hC zfX8_21 (tmC_0 ad tc _) (okC_0 (by omega)) rfl dX8_platformFact_68 ?_
    refine z_iload_n hC 2 rfl dX8_platformFact_71 rfl ?_
    refine z_callVi hC zlX8_169 (k_X5_queueLength l D tc ad hI M 0 n (by omega) hW (by omega)) (tmC_12 ad tc _) rfl (okC_12 (by omega)) rfl rfl (Nat.le_of_ble_eq_true rfl) ⟨by decide, by decide⟩ ⟨by decide, by decide⟩ dX8_platformFact_72 ?_
    exact z_iret hC hret hlk rfl (by rfl) (by rfl) dX8_platformFact_75
  · skip
    refine z_tableIn hC 76 dX8_platformFact_11 (by decide) (by decide) (by decide) rfl (by decide) ?_
    refine z_aload_n hC 1 rfl dX8_platformFact_76 rfl ?_
    refine z_getR hC zfX8_21 (tmC_0 ad tc _) (okC_0 (by omega)) rfl dX8_platformFact_77 ?_
    refine z_iload_n hC 2 rfl dX8_platformFact_80 rfl ?_
    refine z_iconst hC dX8_platformFact_81 ?_
    refine z_callVi hC zlX8_174 (k_X5_inQueue l D tc ad hI M 0 n 0 (by omega) hW (by omega) (by omega)) (tmC_12 ad tc _) rfl (okC_12 (by omega)) rfl rfl (Nat.le_of_ble_eq_true rfl) ⟨by decide, by decide⟩ ⟨by decide, by decide⟩ dX8_platformFact_82 ?_
    exact z_iret hC hret hlk rfl (by rfl) (by rfl) dX8_platformFact_85
  · skip
    refine z_tableIn hC 86 dX8_platformFact_11 (by decide) (by decide) (by decide) rfl (by decide) ?_
    refine z_aload_n hC 1 rfl dX8_platformFact_86 rfl ?_
    refine z_getR hC zfX8_10 (tmC_0 ad tc _) (okC_0 (by omega)) rfl dX8_platformFact_87 ?_
    refine z_iload_n hC 2 rfl dX8_platformFact_90 rfl ?_
    refine z_callVi hC zlX8_247 (k_X0_linesWithTop l D tc ad hI M n hW (by omega)) (tmC_1 ad tc _) rfl (okC_1 (by omega)) rfl rfl (Nat.le_of_ble_eq_true rfl) ⟨by decide, by decide⟩ ⟨by decide, by decide⟩ dX8_platformFact_91 ?_
    exact z_iret hC hret hlk rfl (by rfl) (by rfl) dX8_platformFact_94
  · skip
    refine z_tableIn hC 95 dX8_platformFact_11 (by decide) (by decide) (by decide) rfl (by decide) ?_
    refine z_aload_n hC 1 rfl dX8_platformFact_95 rfl ?_
    refine z_getR hC zfX8_10 (tmC_0 ad tc _) (okC_0 (by omega)) rfl dX8_platformFact_96 ?_
    refine z_iload_n hC 2 rfl dX8_platformFact_99 rfl ?_
    refine z_callVi hC zlX8_250 (k_X0_linesWithBottom l D tc ad hI M n hW (by omega)) (tmC_1 ad tc _) rfl (okC_1 (by omega)) rfl rfl (Nat.le_of_ble_eq_true rfl) ⟨by decide, by decide⟩ ⟨by decide, by decide⟩ dX8_platformFact_100 ?_
    exact z_iret hC hret hlk rfl (by rfl) (by rfl) dX8_platformFact_103
  · skip
    refine z_tableOut hC 104 dX8_platformFact_11 (by decide) (by decide) (by decide) ?_
    refine z_aload_n hC 1 rfl dX8_platformFact_104 rfl ?_
    refine z_getR hC zfX8_21 (tmC_0 ad tc _) (okC_0 (by omega)) rfl dX8_platformFact_105 ?_
    refine z_iload_n hC 2 rfl dX8_platformFact_108 rfl ?_
    refine z_callVi hC zlX8_253 (k_X5_arrivedAt l D tc ad hI M 0 n (by omega) hW (by omega)) (tmC_12 ad tc _) rfl (okC_12 (by omega)) rfl rfl (Nat.le_of_ble_eq_true rfl) ⟨by decide, by decide⟩ ⟨by decide, by decide⟩ dX8_platformFact_109 ?_
    exact z_iret hC hret hlk rfl (by rfl) (by rfl) dX8_platformFact_112
set_option maxHeartbeats 4000000 in
set_option maxRecDepth 100000 in
theorem k_X8_lineFact (l : Launch) (D : va_G) (tc : Nat → ClassId) (ad : Nat → Nat → Nat) (hI : zI ad okC) (M : zM) {T U : Int} (n w : Int) (hW : WTC T U M) (hn : 0 ≤ n ∧ n ≤ 11) (hw : 0 ≤ w ∧ w ≤ 10) : zMi l yX8_lineFact cX8_lineFact 5 (some .int) 2 D (tysC tc) ad okC (tmC ad tc) [.ref (ad 0 0), iv n, iv w] M (lineFactC M n w) M 0 0 := by
  have hh := hW.2.2
  refine z_met hI (plainFor_of_name (by decide)) (Nat.le_of_ble_eq_true rfl) ?_
  intro p e s m args below meth c hC hret hlk
  refine z_conv (L2 := [(0, .ref (ad 0 0)), (1, iv n), (2, iv w)]) ?_ rfl rfl rfl
  refine z_aload_n hC 0 rfl dX8_lineFact_0 rfl ?_
  refine z_getR hC zfX8_10 (tmC_0 ad tc _) (okC_0 (by omega)) rfl dX8_lineFact_1 ?_
  refine z_getR hC zfX8_130 (tmC_1 ad tc _) (okC_1 (by omega)) rfl dX8_lineFact_4 ?_
  refine z_iload_n hC 1 rfl dX8_lineFact_7 rfl ?_
  refine z_aaload hC 2 ((n).toNat) (ad 7 (((n).toNat))) (tmC_3 ad tc _) (tysC_2 tc) (okC_3 (by omega)) (by omega) (by omega) (by decide) rfl dX8_lineFact_8 ?_
  refine z_astore_n hC (L' := [(3, .ref (ad 7 ((n).toNat))), (0, .ref (ad 0 0)), (1, iv n), (2, iv w)]) dX8_lineFact_9 rfl (by decide) rfl ?_
  refine z_aload_n hC 1 rfl dX8_lineFact_10 rfl ?_
  refine z_getR hC zfX8_21 (tmC_0 ad tc _) (okC_0 (by omega)) rfl dX8_lineFact_11 ?_
  refine z_getR hC zfX8_94 (tmC_12 ad tc _) (okC_12 (by omega)) rfl dX8_lineFact_14 ?_
  refine z_iload_n hC 2 rfl dX8_lineFact_17 rfl ?_
  refine z_aaload hC 5 ((n).toNat) (ad 17 (12 * 0 + ((n).toNat))) (tmC_14 ad tc _) (tysC_5 tc) (okC_14 (by omega)) (by omega) (by omega) (by decide) rfl dX8_lineFact_18 ?_
  refine z_astore hC (L' := [(4, .ref (ad 17 (12 * 0 + ((n).toNat)))), (3, .ref (ad 7 ((n).toNat))), (0, .ref (ad 0 0)), (1, iv n), (2, iv w)]) dX8_lineFact_19 (by decide) rfl ?_
  refine z_iload_n hC 4 rfl dX8_lineFact_21 rfl ?_
  rcases (show w = 0 ∨ w = 1 ∨ w = 2 ∨ w = 3 ∨ w = 4 ∨ w = 5 ∨ w = 6 ∨ w = 7 ∨ w = 8 ∨ w = 9 ∨ w = 10 by omega) with rfl | rfl | rfl | rfl | rfl | rfl | rfl | rfl | rfl | rfl | rfl
  · skip
    refine z_tableIn hC 76 dX8_lineFact_22 (by decide) (by decide) (by decide) rfl (by decide) ?_
    refine z_aload_n hC 1 rfl dX8_lineFact_76 rfl ?_
    have hq1 : 0 ≤ M 7 ((n).toNat) 0 ∧ M 7 ((n).toNat) 0 ≤ 7 := hW.1 7 ((n).toNat) 0
    refine z_getI hC zfX8_256 (tmC_7 ad tc _) (okC_7 (by omega)) rfl (x := M 7 ((n).toNat) 0) (rfl) dX8_lineFact_77 ?_
    exact z_iret hC hret hlk rfl (by rfl) (by rfl) dX8_lineFact_80
  · skip
    refine z_tableIn hC 81 dX8_lineFact_22 (by decide) (by decide) (by decide) rfl (by decide) ?_
    refine z_aload_n hC 1 rfl dX8_lineFact_81 rfl ?_
    have hq2 : 0 ≤ M 7 ((n).toNat) 1 ∧ M 7 ((n).toNat) 1 ≤ 7 := hW.1 7 ((n).toNat) 1
    refine z_getI hC zfX8_259 (tmC_7 ad tc _) (okC_7 (by omega)) rfl (x := M 7 ((n).toNat) 1) (rfl) dX8_lineFact_82 ?_
    exact z_iret hC hret hlk rfl (by rfl) (by rfl) dX8_lineFact_85
  · skip
    refine z_tableIn hC 86 dX8_lineFact_22 (by decide) (by decide) (by decide) rfl (by decide) ?_
    refine z_aload_n hC 1 rfl dX8_lineFact_86 rfl ?_
    have hq3 : 0 ≤ M 7 ((n).toNat) 2 ∧ M 7 ((n).toNat) 2 ≤ 150 := hW.1 7 ((n).toNat) 2
    refine z_getI hC zfX8_262 (tmC_7 ad tc _) (okC_7 (by omega)) rfl (x := M 7 ((n).toNat) 2) (rfl) dX8_lineFact_87 ?_
    exact z_iret hC hret hlk rfl (by rfl) (by rfl) dX8_lineFact_90
  · skip
    refine z_tableIn hC 91 dX8_lineFact_22 (by decide) (by decide) (by decide) rfl (by decide) ?_
    refine z_aload_n hC 1 rfl dX8_lineFact_91 rfl ?_
    have hq4 : 0 ≤ M 7 ((n).toNat) 3 ∧ M 7 ((n).toNat) 3 ≤ 80 := hW.1 7 ((n).toNat) 3
    refine z_getI hC zfX8_265 (tmC_7 ad tc _) (okC_7 (by omega)) rfl (x := M 7 ((n).toNat) 3) (rfl) dX8_lineFact_92 ?_
    exact z_iret hC hret hlk rfl (by rfl) (by rfl) dX8_lineFact_95
  · skip
    refine z_tableIn hC 96 dX8_lineFact_22 (by decide) (by decide) (by decide) rfl (by decide) ?_
    refine z_aload_n hC 1 rfl dX8_lineFact_96 rfl ?_
    have hq5 : 0 ≤ M 7 ((n).toNat) 4 ∧ M 7 ((n).toNat) 4 ≤ 60 := hW.1 7 ((n).toNat) 4
    refine z_getI hC zfX8_268 (tmC_7 ad tc _) (okC_7 (by omega)) rfl (x := M 7 ((n).toNat) 4) (rfl) dX8_lineFact_97 ?_
    exact z_iret hC hret hlk rfl (by rfl) (by rfl) dX8_lineFact_100
  · skip
    refine z_tableIn hC 101 dX8_lineFact_22 (by decide) (by decide) (by decide) rfl (by decide) ?_
    refine z_aload hC 0 rfl dX8_lineFact_101 ?_
    refine z_callVi hC zlX8_98 (k_X7_inAll l D tc ad hI M (12 * 0 + ((n).toNat)) (by omega)) (tmC_17 ad tc _) rfl (okC_17 (by omega)) rfl rfl (Nat.le_of_ble_eq_true rfl) ⟨by decide, by decide⟩ ⟨by decide, by decide⟩ dX8_lineFact_103 ?_
    exact z_iret hC hret hlk rfl (by rfl) (by rfl) dX8_lineFact_106
  · skip
    refine z_tableIn hC 107 dX8_lineFact_22 (by decide) (by decide) (by decide) rfl (by decide) ?_
    refine z_aload hC 0 rfl dX8_lineFact_107 ?_
    have hq6 : 0 ≤ M 17 (12 * 0 + ((n).toNat)) 0 ∧ M 17 (12 * 0 + ((n).toNat)) 0 ≤ 3 := hW.1 17 (12 * 0 + ((n).toNat)) 0
    refine z_getI hC zfX8_271 (tmC_17 ad tc _) (okC_17 (by omega)) rfl (x := M 17 (12 * 0 + ((n).toNat)) 0) (rfl) dX8_lineFact_109 ?_
    exact z_iret hC hret hlk rfl (by rfl) (by rfl) dX8_lineFact_112
  · skip
    refine z_tableIn hC 113 dX8_lineFact_22 (by decide) (by decide) (by decide) rfl (by decide) ?_
    refine z_aload hC 0 rfl dX8_lineFact_113 ?_
    refine z_callVi hC zlX8_274 (k_X7_ridden l D tc ad hI M (12 * 0 + ((n).toNat)) (by omega) (by have z0 : 0 ≤ M 17 (12 * 0 + ((n).toNat)) 1 ∧ M 17 (12 * 0 + ((n).toNat)) 1 ≤ 3 := hW.1 17 (12 * 0 + ((n).toNat)) 1; have z1 : 0 ≤ M 17 (12 * 0 + ((n).toNat)) 1 ∧ M 17 (12 * 0 + ((n).toNat)) 1 ≤ 3 := hW.1 17 (12 * 0 + ((n).toNat)) 1; omega) (fun k => hW.1 18 (12 * 0 + ((n).toNat)) k)) (tmC_17 ad tc _) rfl (okC_17 (by omega)) rfl rfl (Nat.le_of_ble_eq_true rfl) ⟨by decide, by decide⟩ ⟨by decide, by decide⟩ dX8_lineFact_115 ?_
    exact z_iret hC hret hlk rfl (by rfl) (by rfl) dX8_lineFact_118
  · skip
    refine z_tableIn hC 119 dX8_lineFact_22 (by decide) (by decide) (by decide) rfl (by decide) ?_
    refine z_aload hC 0 rfl dX8_lineFact_119 ?_
    refine z_getI hC zfX8_277 (tmC_17 ad tc _) (okC_17 (by omega)) rfl (x := M 17 (12 * 0 + ((n).toNat)) 4) (rfl) dX8_lineFact_121 ?_
    exact z_iret hC hret hlk rfl (by rfl) (by rfl) dX8_lineFact_124
  · skip
    refine z_tableIn hC 125 dX8_lineFact_22 (by decide) (by decide) (by decide) rfl (by decide) ?_
    refine z_aload hC 0 rfl dX8_lineFact_125 ?_
    refine z_getI hC zfX8_280 (tmC_17 ad tc _) (okC_17 (by omega)) rfl (x := M 17 (12 * 0 + ((n).toNat)) 5) (rfl) dX8_lineFact_127 ?_
    exact z_iret hC hret hlk rfl (by rfl) (by rfl) dX8_lineFact_130
  · skip
    refine z_tableOut hC 131 dX8_lineFact_22 (by decide) (by decide) (by decide) ?_
    refine z_aload_n hC 2 rfl dX8_lineFact_131 rfl ?_
    refine z_getR hC zfX8_10 (tmC_0 ad tc _) (okC_0 (by omega)) rfl dX8_lineFact_132 ?_
    refine z_aload_n hC 1 rfl dX8_lineFact_135 rfl ?_
    refine z_aload_n hC 2 rfl dX8_lineFact_136 rfl ?_
    refine z_getR hC zfX8_21 (tmC_0 ad tc _) (okC_0 (by omega)) rfl dX8_lineFact_137 ?_
    have hq7 : 0 ≤ M 12 0 5 ∧ M 12 0 5 ≤ T := hW.1 12 0 5
    refine z_getI hC zfX8_283 (tmC_12 ad tc _) (okC_12 (by omega)) rfl (x := M 12 0 5) (rfl) dX8_lineFact_140 ?_
    refine z_callVi hC zlX8_286 (k_X0_isClosed l D tc ad hI M ((n).toNat) (M 12 0 5) (by omega) hW (by omega)) (tmC_1 ad tc _) rfl (okC_1 (by omega)) rfl rfl (Nat.le_of_ble_eq_true rfl) ⟨by decide, by decide⟩ ⟨by decide, by decide⟩ dX8_lineFact_143 ?_
    refine z_if_eq_b hC 153 dX8_lineFact_146 (by decide) (fun c146 => ?_) (fun c146 => ?_)
    · skip
      refine z_iconst hC dX8_lineFact_153 ?_
      exact z_iret hC hret hlk rfl (by show _ = (if closedP M n.toNat (M 12 0 5) then 1 else 0); first | rw [if_pos (by assumption)] | rw [if_neg (by assumption)]) (by rfl) dX8_lineFact_154
    · skip
      refine z_iconst hC dX8_lineFact_149 ?_
      refine z_goto hC 154 dX8_lineFact_150 (by decide) ?_
      exact z_iret hC hret hlk rfl (by show _ = (if closedP M n.toNat (M 12 0 5) then 1 else 0); first | rw [if_pos (by assumption)] | rw [if_neg (by assumption)]) (by rfl) dX8_lineFact_154
set_option maxHeartbeats 4000000 in
set_option maxRecDepth 100000 in
theorem k_X8_riderFact (l : Launch) (D : va_G) (tc : Nat → ClassId) (ad : Nat → Nat → Nat) (hI : zI ad okC) (M : zM) {T U : Int} (n w : Int) (hW : WTC T U M) (hn : 0 ≤ n ∧ n ≤ 11) (hw : 0 ≤ w ∧ w ≤ 10) : zMi l yX8_riderFact cX8_riderFact 5 (some .int) 2 D (tysC tc) ad okC (tmC ad tc) [.ref (ad 0 0), iv n, iv w] M (riderFactC M n w) M 0 0 := by
  refine z_met hI (plainFor_of_name (by decide)) (Nat.le_of_ble_eq_true rfl) ?_
  intro p e s m args below meth c hC hret hlk
  refine z_conv (L2 := [(0, .ref (ad 0 0)), (1, iv n), (2, iv w)]) ?_ rfl rfl rfl
  refine z_aload_n hC 0 rfl dX8_riderFact_0 rfl ?_
  refine z_getR hC zfX8_10 (tmC_0 ad tc _) (okC_0 (by omega)) rfl dX8_riderFact_1 ?_
  refine z_getR hC zfX8_290 (tmC_1 ad tc _) (okC_1 (by omega)) rfl dX8_riderFact_4 ?_
  refine z_iload_n hC 1 rfl dX8_riderFact_7 rfl ?_
  refine z_aaload hC 3 ((n).toNat) (ad 8 (((n).toNat))) (tmC_4 ad tc _) (tysC_3 tc) (okC_4 (by omega)) (by omega) (by omega) (by decide) rfl dX8_riderFact_8 ?_
  refine z_astore_n hC (L' := [(3, .ref (ad 8 ((n).toNat))), (0, .ref (ad 0 0)), (1, iv n), (2, iv w)]) dX8_riderFact_9 rfl (by decide) rfl ?_
  refine z_aload_n hC 1 rfl dX8_riderFact_10 rfl ?_
  refine z_getR hC zfX8_21 (tmC_0 ad tc _) (okC_0 (by omega)) rfl dX8_riderFact_11 ?_
  refine z_getR hC zfX8_200 (tmC_12 ad tc _) (okC_12 (by omega)) rfl dX8_riderFact_14 ?_
  refine z_iload_n hC 2 rfl dX8_riderFact_17 rfl ?_
  refine z_aaload hC 4 ((n).toNat) (ad 16 (12 * 0 + ((n).toNat))) (tmC_13 ad tc _) (tysC_4 tc) (okC_13 (by omega)) (by omega) (by omega) (by decide) rfl dX8_riderFact_18 ?_
  refine z_astore hC (L' := [(4, .ref (ad 16 (12 * 0 + ((n).toNat)))), (3, .ref (ad 8 ((n).toNat))), (0, .ref (ad 0 0)), (1, iv n), (2, iv w)]) dX8_riderFact_19 (by decide) rfl ?_
  refine z_iload_n hC 4 rfl dX8_riderFact_21 rfl ?_
  rcases (show w = 0 ∨ w = 1 ∨ w = 2 ∨ w = 3 ∨ w = 4 ∨ w = 5 ∨ w = 6 ∨ w = 7 ∨ w = 8 ∨ w = 9 ∨ w = 10 by omega) with rfl | rfl | rfl | rfl | rfl | rfl | rfl | rfl | rfl | rfl | rfl
  · skip
    refine z_tableIn hC 76 dX8_riderFact_22 (by decide) (by decide) (by decide) rfl (by decide) ?_
    refine z_aload_n hC 1 rfl dX8_riderFact_76 rfl ?_
    have hq1 : 0 ≤ M 8 ((n).toNat) 2 ∧ M 8 ((n).toNat) 2 ≤ 120 := hW.1 8 ((n).toNat) 2
    refine z_getI hC zfX8_294 (tmC_8 ad tc _) (okC_8 (by omega)) rfl (x := M 8 ((n).toNat) 2) (rfl) dX8_riderFact_77 ?_
    exact z_iret hC hret hlk rfl (by rfl) (by rfl) dX8_riderFact_80
  · skip
    refine z_tableIn hC 81 dX8_riderFact_22 (by decide) (by decide) (by decide) rfl (by decide) ?_
    refine z_aload_n hC 1 rfl dX8_riderFact_81 rfl ?_
    have hq2 : 0 ≤ M 8 ((n).toNat) 3 ∧ M 8 ((n).toNat) 3 ≤ 60 := hW.1 8 ((n).toNat) 3
    refine z_getI hC zfX8_299 (tmC_8 ad tc _) (okC_8 (by omega)) rfl (x := M 8 ((n).toNat) 3) (rfl) dX8_riderFact_82 ?_
    exact z_iret hC hret hlk rfl (by rfl) (by rfl) dX8_riderFact_85
  · skip
    refine z_tableIn hC 86 dX8_riderFact_22 (by decide) (by decide) (by decide) rfl (by decide) ?_
    refine z_aload_n hC 1 rfl dX8_riderFact_86 rfl ?_
    have hq3 : 0 ≤ M 8 ((n).toNat) 1 ∧ M 8 ((n).toNat) 1 ≤ 7 := hW.1 8 ((n).toNat) 1
    refine z_getI hC zfX8_302 (tmC_8 ad tc _) (okC_8 (by omega)) rfl (x := M 8 ((n).toNat) 1) (rfl) dX8_riderFact_87 ?_
    exact z_iret hC hret hlk rfl (by rfl) (by rfl) dX8_riderFact_90
  · skip
    refine z_tableIn hC 91 dX8_riderFact_22 (by decide) (by decide) (by decide) rfl (by decide) ?_
    refine z_aload hC 0 rfl dX8_riderFact_91 ?_
    have hq4 : 0 ≤ M 16 (12 * 0 + ((n).toNat)) 0 ∧ M 16 (12 * 0 + ((n).toNat)) 0 ≤ 3 := hW.1 16 (12 * 0 + ((n).toNat)) 0
    refine z_getI hC zfX8_221 (tmC_16 ad tc _) (okC_16 (by omega)) rfl (x := M 16 (12 * 0 + ((n).toNat)) 0) (rfl) dX8_riderFact_93 ?_
    exact z_iret hC hret hlk rfl (by rfl) (by rfl) dX8_riderFact_96
  · skip
    refine z_tableIn hC 97 dX8_riderFact_22 (by decide) (by decide) (by decide) rfl (by decide) ?_
    refine z_aload hC 0 rfl dX8_riderFact_97 ?_
    have hq5 : -1 ≤ M 16 (12 * 0 + ((n).toNat)) 1 ∧ M 16 (12 * 0 + ((n).toNat)) 1 ≤ 7 := hW.1 16 (12 * 0 + ((n).toNat)) 1
    refine z_getI hC zfX8_305 (tmC_16 ad tc _) (okC_16 (by omega)) rfl (x := M 16 (12 * 0 + ((n).toNat)) 1) (rfl) dX8_riderFact_99 ?_
    exact z_iret hC hret hlk rfl (by rfl) (by rfl) dX8_riderFact_102
  · skip
    refine z_tableIn hC 103 dX8_riderFact_22 (by decide) (by decide) (by decide) rfl (by decide) ?_
    refine z_aload hC 0 rfl dX8_riderFact_103 ?_
    have hq6 : -1 ≤ M 16 (12 * 0 + ((n).toNat)) 2 ∧ M 16 (12 * 0 + ((n).toNat)) 2 ≤ 11 := hW.1 16 (12 * 0 + ((n).toNat)) 2
    refine z_getI hC zfX8_308 (tmC_16 ad tc _) (okC_16 (by omega)) rfl (x := M 16 (12 * 0 + ((n).toNat)) 2) (rfl) dX8_riderFact_105 ?_
    exact z_iret hC hret hlk rfl (by rfl) (by rfl) dX8_riderFact_108
  · skip
    refine z_tableIn hC 109 dX8_riderFact_22 (by decide) (by decide) (by decide) rfl (by decide) ?_
    refine z_aload hC 0 rfl dX8_riderFact_109 ?_
    have hq7 : -(1000 + U) ≤ M 16 (12 * 0 + ((n).toNat)) 3 ∧ M 16 (12 * 0 + ((n).toNat)) 3 ≤ 1000 + U := hW.1 16 (12 * 0 + ((n).toNat)) 3
    refine z_getI hC zfX8_311 (tmC_16 ad tc _) (okC_16 (by omega)) rfl (x := M 16 (12 * 0 + ((n).toNat)) 3) (rfl) dX8_riderFact_111 ?_
    exact z_iret hC hret hlk rfl (by rfl) (by rfl) dX8_riderFact_114
  · skip
    refine z_tableIn hC 115 dX8_riderFact_22 (by decide) (by decide) (by decide) rfl (by decide) ?_
    refine z_aload hC 0 rfl dX8_riderFact_115 ?_
    have hq8 : 0 ≤ M 16 (12 * 0 + ((n).toNat)) 0 ∧ M 16 (12 * 0 + ((n).toNat)) 0 ≤ 3 := hW.1 16 (12 * 0 + ((n).toNat)) 0
    refine z_getI hC zfX8_221 (tmC_16 ad tc _) (okC_16 (by omega)) rfl (x := M 16 (12 * 0 + ((n).toNat)) 0) (rfl) dX8_riderFact_117 ?_
    refine z_if_ne hC 142 dX8_riderFact_120 (by decide) (by omega) (fun c120 => ?_) (fun c120 => ?_)
    · skip
      refine z_iconst hC dX8_riderFact_142 ?_
      exact z_iret hC hret hlk rfl (by show _ = (if M 16 (12 * 0 + n.toNat) 0 = 0 then (if linesFromC M n.toNat (M 16 (12 * 0 + n.toNat) 1) < 0 then 0 else linesFromC M n.toNat (M 16 (12 * 0 + n.toNat) 1)) else 0); first | rw [if_pos (show M 16 (12 * 0 + n.toNat) 0 = 0 by assumption)] | rw [if_neg (show ¬ M 16 (12 * 0 + n.toNat) 0 = 0 by assumption)]) (by rfl) dX8_riderFact_143
    · skip
      refine z_aload_n hC 1 rfl dX8_riderFact_123 rfl ?_
      refine z_getR hC zfX8_314 (tmC_8 ad tc _) (okC_8 (by omega)) rfl dX8_riderFact_124 ?_
      refine z_aload hC 0 rfl dX8_riderFact_127 ?_
      have hq9 : -1 ≤ M 16 (12 * 0 + ((n).toNat)) 1 ∧ M 16 (12 * 0 + ((n).toNat)) 1 ≤ 7 := hW.1 16 (12 * 0 + ((n).toNat)) 1
      refine z_getI hC zfX8_305 (tmC_16 ad tc _) (okC_16 (by omega)) rfl (x := M 16 (12 * 0 + ((n).toNat)) 1) (rfl) dX8_riderFact_129 ?_
      refine z_callVi hC zlX8_191 (k_X4_linesFrom l D tc ad hI M ((n).toNat) (M 16 (12 * 0 + ((n).toNat)) 1) (by omega) (by omega)) (tmC_9 ad tc _) rfl (okC_9 (by omega)) rfl rfl (Nat.le_of_ble_eq_true rfl) ⟨by decide, by decide⟩ ⟨by decide, by decide⟩ dX8_riderFact_132 ?_
      have hlf := linesFromC_bd hW n.toNat (M 16 (12 * 0 + n.toNat) 1)
      refine z_iconst hC dX8_riderFact_135 ?_
      refine z_callSi hC zlX8_317 (k_J9_max_7cf53 l D tc ad hI M (linesFromC M ((n).toNat) (M 16 (12 * 0 + ((n).toNat)) 1)) 0 (by omega) (by omega)) rfl rfl (Nat.le_of_ble_eq_true rfl) ⟨by decide, by decide⟩ ⟨by decide, by decide⟩ dX8_riderFact_136 ?_
      refine z_goto hC 143 dX8_riderFact_139 (by decide) ?_
      exact z_iret hC hret hlk rfl (by show _ = (if M 16 (12 * 0 + n.toNat) 0 = 0 then (if linesFromC M n.toNat (M 16 (12 * 0 + n.toNat) 1) < 0 then 0 else linesFromC M n.toNat (M 16 (12 * 0 + n.toNat) 1)) else 0); first | rw [if_pos (show M 16 (12 * 0 + n.toNat) 0 = 0 by assumption)] | rw [if_neg (show ¬ M 16 (12 * 0 + n.toNat) 0 = 0 by assumption)]) (by rfl) dX8_riderFact_143
  · skip
    refine z_tableIn hC 144 dX8_riderFact_22 (by decide) (by decide) (by decide) rfl (by decide) ?_
    refine z_aload hC 0 rfl dX8_riderFact_144 ?_
    have hq10 : 0 ≤ M 16 (12 * 0 + ((n).toNat)) 0 ∧ M 16 (12 * 0 + ((n).toNat)) 0 ≤ 3 := hW.1 16 (12 * 0 + ((n).toNat)) 0
    refine z_getI hC zfX8_221 (tmC_16 ad tc _) (okC_16 (by omega)) rfl (x := M 16 (12 * 0 + ((n).toNat)) 0) (rfl) dX8_riderFact_146 ?_
    refine z_if_ne hC 167 dX8_riderFact_149 (by decide) (by omega) (fun c149 => ?_) (fun c149 => ?_)
    · skip
      refine z_iconst hC dX8_riderFact_167 ?_
      exact z_iret hC hret hlk rfl (by show _ = (if M 16 (12 * 0 + n.toNat) 0 = 0 then firstFromC M n.toNat (M 16 (12 * 0 + n.toNat) 1) else -1); first | rw [if_pos (by assumption)] | rw [if_neg (by assumption)]) (by rfl) dX8_riderFact_168
    · skip
      refine z_aload_n hC 1 rfl dX8_riderFact_152 rfl ?_
      refine z_getR hC zfX8_314 (tmC_8 ad tc _) (okC_8 (by omega)) rfl dX8_riderFact_153 ?_
      refine z_aload hC 0 rfl dX8_riderFact_156 ?_
      have hq11 : -1 ≤ M 16 (12 * 0 + ((n).toNat)) 1 ∧ M 16 (12 * 0 + ((n).toNat)) 1 ≤ 7 := hW.1 16 (12 * 0 + ((n).toNat)) 1
      refine z_getI hC zfX8_305 (tmC_16 ad tc _) (okC_16 (by omega)) rfl (x := M 16 (12 * 0 + ((n).toNat)) 1) (rfl) dX8_riderFact_158 ?_
      refine z_callVi hC zlX8_322 (k_X4_firstFrom l D tc ad hI M ((n).toNat) (M 16 (12 * 0 + ((n).toNat)) 1) (by omega) (by omega)) (tmC_9 ad tc _) rfl (okC_9 (by omega)) rfl rfl (Nat.le_of_ble_eq_true rfl) ⟨by decide, by decide⟩ ⟨by decide, by decide⟩ dX8_riderFact_161 ?_
      refine z_goto hC 168 dX8_riderFact_164 (by decide) ?_
      exact z_iret hC hret hlk rfl (by show _ = (if M 16 (12 * 0 + n.toNat) 0 = 0 then firstFromC M n.toNat (M 16 (12 * 0 + n.toNat) 1) else -1); first | rw [if_pos (by assumption)] | rw [if_neg (by assumption)]) (by rfl) dX8_riderFact_168
  · skip
    refine z_tableIn hC 169 dX8_riderFact_22 (by decide) (by decide) (by decide) rfl (by decide) ?_
    refine z_aload hC 0 rfl dX8_riderFact_169 ?_
    refine z_getI hC zfX8_325 (tmC_16 ad tc _) (okC_16 (by omega)) rfl (x := M 16 (12 * 0 + ((n).toNat)) 4) (rfl) dX8_riderFact_171 ?_
    exact z_iret hC hret hlk rfl (by rfl) (by rfl) dX8_riderFact_174
  · skip
    refine z_tableOut hC 175 dX8_riderFact_22 (by decide) (by decide) (by decide) ?_
    refine z_aload hC 0 rfl dX8_riderFact_175 ?_
    refine z_getI hC zfX8_213 (tmC_16 ad tc _) (okC_16 (by omega)) rfl (x := M 16 (12 * 0 + ((n).toNat)) 5) (rfl) dX8_riderFact_177 ?_
    exact z_iret hC hret hlk rfl (by rfl) (by rfl) dX8_riderFact_180
set_option maxHeartbeats 4000000 in
set_option maxRecDepth 100000 in
theorem k_X8_countFact (l : Launch) (D : va_G) (tc : Nat → ClassId) (ad : Nat → Nat → Nat) (hI : zI ad okC) (M : zM) {T U : Int} (w : Int) (hW : WTC T U M) (hw : 0 ≤ w ∧ w ≤ 9) : zMi l yX8_countFact cX8_countFact 2 (some .int) 2 D (tysC tc) ad okC (tmC ad tc) [.ref (ad 0 0), iv w] M (countFactC M w) M 0 0 := by
  refine z_met hI (plainFor_of_name (by decide)) (Nat.le_of_ble_eq_true rfl) ?_
  intro p e s m args below meth c hC hret hlk
  refine z_conv (L2 := [(0, .ref (ad 0 0)), (1, iv w)]) ?_ rfl rfl rfl
  refine z_iload_n hC 1 rfl dX8_countFact_0 rfl ?_
  rcases (show w = 0 ∨ w = 1 ∨ w = 2 ∨ w = 3 ∨ w = 4 ∨ w = 5 ∨ w = 6 ∨ w = 7 ∨ w = 8 ∨ w = 9 by omega) with rfl | rfl | rfl | rfl | rfl | rfl | rfl | rfl | rfl | rfl
  · skip
    refine z_tableIn hC 52 dX8_countFact_1 (by decide) (by decide) (by decide) rfl (by decide) ?_
    refine z_aload_n hC 0 rfl dX8_countFact_52 rfl ?_
    refine z_getR hC zfX8_21 (tmC_0 ad tc _) (okC_0 (by omega)) rfl dX8_countFact_53 ?_
    have hq1 : 0 ≤ M 12 0 5 ∧ M 12 0 5 ≤ T := hW.1 12 0 5
    refine z_getI hC zfX8_283 (tmC_12 ad tc _) (okC_12 (by omega)) rfl (x := M 12 0 5) (rfl) dX8_countFact_56 ?_
    exact z_iret hC hret hlk rfl (by rfl) (by rfl) dX8_countFact_59
  · skip
    refine z_tableIn hC 60 dX8_countFact_1 (by decide) (by decide) (by decide) rfl (by decide) ?_
    refine z_aload_n hC 0 rfl dX8_countFact_60 rfl ?_
    refine z_getR hC zfX8_10 (tmC_0 ad tc _) (okC_0 (by omega)) rfl dX8_countFact_61 ?_
    have hq2 : 0 ≤ M 1 0 4 ∧ M 1 0 4 ≤ 8 := hW.1 1 0 4
    refine z_getI hC zfX8_50 (tmC_1 ad tc _) (okC_1 (by omega)) rfl (x := M 1 0 4) (rfl) dX8_countFact_64 ?_
    exact z_iret hC hret hlk rfl (by rfl) (by rfl) dX8_countFact_67
  · skip
    refine z_tableIn hC 68 dX8_countFact_1 (by decide) (by decide) (by decide) rfl (by decide) ?_
    refine z_aload_n hC 0 rfl dX8_countFact_68 rfl ?_
    refine z_getR hC zfX8_10 (tmC_0 ad tc _) (okC_0 (by omega)) rfl dX8_countFact_69 ?_
    have hq3 : 0 ≤ M 1 0 5 ∧ M 1 0 5 ≤ 12 := hW.1 1 0 5
    refine z_getI hC zfX8_77 (tmC_1 ad tc _) (okC_1 (by omega)) rfl (x := M 1 0 5) (rfl) dX8_countFact_72 ?_
    exact z_iret hC hret hlk rfl (by rfl) (by rfl) dX8_countFact_75
  · skip
    refine z_tableIn hC 76 dX8_countFact_1 (by decide) (by decide) (by decide) rfl (by decide) ?_
    refine z_aload_n hC 0 rfl dX8_countFact_76 rfl ?_
    refine z_getR hC zfX8_10 (tmC_0 ad tc _) (okC_0 (by omega)) rfl dX8_countFact_77 ?_
    have hq4 : 0 ≤ M 1 0 6 ∧ M 1 0 6 ≤ 12 := hW.1 1 0 6
    refine z_getI hC zfX8_150 (tmC_1 ad tc _) (okC_1 (by omega)) rfl (x := M 1 0 6) (rfl) dX8_countFact_80 ?_
    exact z_iret hC hret hlk rfl (by rfl) (by rfl) dX8_countFact_83
  · skip
    refine z_tableIn hC 84 dX8_countFact_1 (by decide) (by decide) (by decide) rfl (by decide) ?_
    refine z_aload_n hC 0 rfl dX8_countFact_84 rfl ?_
    refine z_getR hC zfX8_21 (tmC_0 ad tc _) (okC_0 (by omega)) rfl dX8_countFact_85 ?_
    refine z_iconst hC dX8_countFact_88 ?_
    refine z_callVi hC zlX8_328 (k_X5_ridersIn l D tc ad hI M 0 0 (by omega) hW (by omega)) (tmC_12 ad tc _) rfl (okC_12 (by omega)) rfl rfl (Nat.le_of_ble_eq_true rfl) ⟨by decide, by decide⟩ ⟨by decide, by decide⟩ dX8_countFact_89 ?_
    exact z_iret hC hret hlk rfl (by rfl) (by rfl) dX8_countFact_92
  · skip
    refine z_tableIn hC 93 dX8_countFact_1 (by decide) (by decide) (by decide) rfl (by decide) ?_
    refine z_aload_n hC 0 rfl dX8_countFact_93 rfl ?_
    refine z_getR hC zfX8_21 (tmC_0 ad tc _) (okC_0 (by omega)) rfl dX8_countFact_94 ?_
    refine z_iconst hC dX8_countFact_97 ?_
    refine z_callVi hC zlX8_328 (k_X5_ridersIn l D tc ad hI M 0 1 (by omega) hW (by omega)) (tmC_12 ad tc _) rfl (okC_12 (by omega)) rfl rfl (Nat.le_of_ble_eq_true rfl) ⟨by decide, by decide⟩ ⟨by decide, by decide⟩ dX8_countFact_98 ?_
    exact z_iret hC hret hlk rfl (by rfl) (by rfl) dX8_countFact_101
  · skip
    refine z_tableIn hC 102 dX8_countFact_1 (by decide) (by decide) (by decide) rfl (by decide) ?_
    refine z_aload_n hC 0 rfl dX8_countFact_102 rfl ?_
    refine z_getR hC zfX8_21 (tmC_0 ad tc _) (okC_0 (by omega)) rfl dX8_countFact_103 ?_
    refine z_iconst hC dX8_countFact_106 ?_
    refine z_callVi hC zlX8_328 (k_X5_ridersIn l D tc ad hI M 0 2 (by omega) hW (by omega)) (tmC_12 ad tc _) rfl (okC_12 (by omega)) rfl rfl (Nat.le_of_ble_eq_true rfl) ⟨by decide, by decide⟩ ⟨by decide, by decide⟩ dX8_countFact_107 ?_
    exact z_iret hC hret hlk rfl (by rfl) (by rfl) dX8_countFact_110
  · skip
    refine z_tableIn hC 111 dX8_countFact_1 (by decide) (by decide) (by decide) rfl (by decide) ?_
    refine z_aload_n hC 0 rfl dX8_countFact_111 rfl ?_
    refine z_getR hC zfX8_21 (tmC_0 ad tc _) (okC_0 (by omega)) rfl dX8_countFact_112 ?_
    refine z_iconst hC dX8_countFact_115 ?_
    refine z_callVi hC zlX8_328 (k_X5_ridersIn l D tc ad hI M 0 3 (by omega) hW (by omega)) (tmC_12 ad tc _) rfl (okC_12 (by omega)) rfl rfl (Nat.le_of_ble_eq_true rfl) ⟨by decide, by decide⟩ ⟨by decide, by decide⟩ dX8_countFact_116 ?_
    exact z_iret hC hret hlk rfl (by rfl) (by rfl) dX8_countFact_119
  · skip
    refine z_tableIn hC 120 dX8_countFact_1 (by decide) (by decide) (by decide) rfl (by decide) ?_
    refine z_aload_n hC 0 rfl dX8_countFact_120 rfl ?_
    refine z_getR hC zfX8_21 (tmC_0 ad tc _) (okC_0 (by omega)) rfl dX8_countFact_121 ?_
    refine z_callVi hC zlX8_331 (k_X5_trolleysInAll l D tc ad hI M 0 (by omega) hW) (tmC_12 ad tc _) rfl (okC_12 (by omega)) rfl rfl (Nat.le_of_ble_eq_true rfl) ⟨by decide, by decide⟩ ⟨by decide, by decide⟩ dX8_countFact_124 ?_
    exact z_iret hC hret hlk rfl (by rfl) (by rfl) dX8_countFact_127
  · skip
    refine z_tableOut hC 128 dX8_countFact_1 (by decide) (by decide) (by decide) ?_
    refine z_aload_n hC 0 rfl dX8_countFact_128 rfl ?_
    refine z_getR hC zfX8_21 (tmC_0 ad tc _) (okC_0 (by omega)) rfl dX8_countFact_129 ?_
    refine z_callVi hC zlX8_334 (k_X5_ridesInAll l D tc ad hI M 0 (by omega) hW) (tmC_12 ad tc _) rfl (okC_12 (by omega)) rfl rfl (Nat.le_of_ble_eq_true rfl) ⟨by decide, by decide⟩ ⟨by decide, by decide⟩ dX8_countFact_132 ?_
    exact z_iret hC hret hlk rfl (by rfl) (by rfl) dX8_countFact_135
set_option maxHeartbeats 4000000 in
set_option maxRecDepth 100000 in
theorem k_X8_arrivalsWithOneMore (l : Launch) (D : va_G) (tc : Nat → ClassId) (ad : Nat → Nat → Nat) (hI : zI ad okC) (M : zM) {T U : Int} (n mi : Int) (hW : WTC T U M) (hn : 0 ≤ n ∧ n < M 1 0 5) (hs : M 17 (12 * 0 + n.toNat) 0 + M 17 (12 * 0 + n.toNat) 1 < 3) (hm : 1 ≤ mi ∧ mi ≤ 200) (hT : T + mi ≤ 1000000) (hU : U + 48 * mi ≤ 100000000) : zMi l yX8_arrivalsWithOneMore cX8_arrivalsWithOneMore 3 (some .int) 6 D (tysC tc) ad okC (tmC ad tc) [.ref (ad 0 0), iv n, iv mi] M (oneMoreR M n mi) (oneMore M n mi) 0 0 := by
  have hlc : 0 ≤ M 1 0 5 ∧ M 1 0 5 ≤ 12 := hW.1 1 0 5
  refine z_met hI (plainFor_of_name (by decide)) (Nat.le_of_ble_eq_true rfl) ?_
  intro p e s m args below meth c hC hret hlk
  refine z_conv (L2 := [(0, .ref (ad 0 0)), (1, iv n), (2, iv mi)]) ?_ rfl rfl rfl
  refine z_aload_n hC 0 rfl dX8_arrivalsWithOneMore_0 rfl ?_
  refine z_getR hC zfX8_25 (tmC_0 ad tc _) (okC_0 (by omega)) rfl dX8_arrivalsWithOneMore_1 ?_
  refine z_aload_n hC 0 rfl dX8_arrivalsWithOneMore_4 rfl ?_
  refine z_getR hC zfX8_21 (tmC_0 ad tc _) (okC_0 (by omega)) rfl dX8_arrivalsWithOneMore_5 ?_
  refine z_callVv hC zlX8_196 (k_X5_copyFrom l D tc ad hI M 1 0 (by omega) (by omega) hW) (tmC_12 ad tc _) rfl (okC_12 (by omega)) rfl rfl (Nat.le_of_ble_eq_true rfl) ⟨by decide, by decide⟩ ⟨by decide, by decide⟩ dX8_arrivalsWithOneMore_8 ?_
  refine z_aload_n hC 0 rfl dX8_arrivalsWithOneMore_11 rfl ?_
  refine z_getR hC zfX8_25 (tmC_0 ad tc _) (okC_0 (by omega)) rfl dX8_arrivalsWithOneMore_12 ?_
  refine z_iload_n hC 1 rfl dX8_arrivalsWithOneMore_15 rfl ?_
  refine z_iconst hC dX8_arrivalsWithOneMore_16 ?_
  have hW1 : WTC T U (copyC M 1 0) := copyC_wt hW
  refine z_callVv hC zlX8_85 (k_X5_addTrolleys l D tc ad hI (copyC M 1 0) 1 n 1 (by omega) hW1 (by omega)) (tmC_12 ad tc _) rfl (okC_12 (by omega)) rfl rfl (Nat.le_of_ble_eq_true rfl) ⟨by decide, by decide⟩ ⟨by decide, by decide⟩ dX8_arrivalsWithOneMore_17 ?_
  refine z_aload_n hC 0 rfl dX8_arrivalsWithOneMore_20 rfl ?_
  refine z_getR hC zfX8_25 (tmC_0 ad tc _) (okC_0 (by omega)) rfl dX8_arrivalsWithOneMore_21 ?_
  refine z_iload_n hC 2 rfl dX8_arrivalsWithOneMore_24 rfl ?_
  have hW2 : WTC T U (addTC (copyC M 1 0) 1 n 1) := oneMore0_wt hW hn hs
  refine z_callVi hC zlX8_179 (k_X5_goOn l D tc ad hI (addTC (copyC M 1 0) 1 n 1) 1 mi (by omega) hW2 (by omega) (by omega) (by omega)) (tmC_12 ad tc _) rfl (okC_12 (by omega)) rfl rfl (Nat.le_of_ble_eq_true rfl) ⟨by decide, by decide⟩ ⟨by decide, by decide⟩ dX8_arrivalsWithOneMore_25 ?_
  exact z_iret hC hret hlk rfl (by rfl) (by rfl) dX8_arrivalsWithOneMore_28
set_option maxHeartbeats 4000000 in
set_option maxRecDepth 100000 in
theorem k_X8_digestPlatform (l : Launch) (D : va_G) (tc : Nat → ClassId) (ad : Nat → Nat → Nat) (hI : zI ad okC) (M : zM) {T U : Int} (d : Int64) (n : Int) (hW : WTC T U M) (hn : 0 ≤ n ∧ n ≤ 7) : zMl l yX8_digestPlatform cX8_digestPlatform 7 (some .long) 2 D (tysC tc) ad okC (tmC ad tc) [.ref (ad 0 0), .long d, iv n] M (digPC M n d) M 0 0 := by
  have hql := zcnt_le (fun j => M 16 (12 * 0 + (M 15 0 j).toNat) 1 = n) (M 12 0 4).toNat
  have hwc : 0 ≤ M 12 0 4 ∧ M 12 0 4 ≤ 12 := hW.1 12 0 4
  have hq9 : 0 ≤ qLen M 0 n ∧ qLen M 0 n ≤ 12 := by simp only [qLen]; omega
  refine z_met hI (plainFor_of_name (by decide)) (Nat.le_of_ble_eq_true rfl) ?_
  intro p e s m args below meth c hC hret hlk
  refine z_conv (L2 := [(0, .ref (ad 0 0)), (1, .long d), (3, iv n)]) ?_ rfl rfl rfl
  have hc39 : ∀ (d39 : Nat) (j : Nat) (hj : j ≤ (qLen M 0 n).toNat), (qLen M 0 n).toNat - j = d39 → zV p l e (zrm 2 0 0) s m args below meth c (MQ below (zQl D ad okC (tmC ad tc) (digPC M n d) M (zA ad okC s.heap.size)) args s 0 0 (zA ad okC s.heap.size)) D ad okC (tmC ad tc) (zA ad okC s.heap.size) s.heap 7 0 0 M [(0, .ref (ad 0 0)), (3, iv n), (4, .long (dgo (fun j => qAt M 0 n j) (dgo (fun w => platFactC M n w) d 8) j)), (6, iv ((j : Nat) : Int))] 39 [] := by
    intro d39
    induction d39 using Nat.strongRecOn with
    | _ d39 ih39 =>
      intro j hj hd39
      refine z_iload hC 3 rfl dX8_digestPlatform_39 ?_
      refine z_aload_n hC 0 rfl dX8_digestPlatform_41 rfl ?_
      refine z_getR hC zfX8_21 (tmC_0 ad tc _) (okC_0 (by omega)) rfl dX8_digestPlatform_42 ?_
      refine z_iload_n hC 1 rfl dX8_digestPlatform_45 rfl ?_
      refine z_callVi hC zlX8_169 (k_X5_queueLength l D tc ad hI M 0 n (by omega) hW (by omega)) (tmC_12 ad tc _) rfl (okC_12 (by omega)) rfl rfl (Nat.le_of_ble_eq_true rfl) ⟨by decide, by decide⟩ ⟨by decide, by decide⟩ dX8_digestPlatform_46 ?_
      refine z_icmp_ge hC 78 dX8_digestPlatform_49 (by decide) (by omega) (by omega) (fun c49 => ?_) (fun c49 => ?_)
      · skip
        have he : j = (qLen M 0 n).toNat := by omega
        subst he
        refine z_lload hC 2 rfl dX8_digestPlatform_78 ?_
        exact z_lret hC hret hlk (by rfl) (by rfl) dX8_digestPlatform_80
      · skip
        refine z_lload hC 2 rfl dX8_digestPlatform_52 ?_
        refine z_ldc2 hC (v := (31 : Int64)) dX8_digestPlatform_54 (zin 431 (by decide +kernel) rfl) ?_
        refine z_lmul hC dX8_digestPlatform_57 ?_
        refine z_aload_n hC 0 rfl dX8_digestPlatform_58 rfl ?_
        refine z_getR hC zfX8_21 (tmC_0 ad tc _) (okC_0 (by omega)) rfl dX8_digestPlatform_59 ?_
        refine z_iload_n hC 1 rfl dX8_digestPlatform_62 rfl ?_
        refine z_iload hC 3 rfl dX8_digestPlatform_63 ?_
        refine z_callVi hC zlX8_174 (k_X5_inQueue l D tc ad hI M 0 n ((j : Nat) : Int) (by omega) hW (by omega) (by omega)) (tmC_12 ad tc _) rfl (okC_12 (by omega)) rfl rfl (Nat.le_of_ble_eq_true rfl) ⟨by decide, by decide⟩ ⟨by decide, by decide⟩ dX8_digestPlatform_65 ?_
        refine z_i2l hC dX8_digestPlatform_68 ?_
        refine z_ladd hC dX8_digestPlatform_69 ?_
        refine z_lstore hC (L' := [(4, .long (((dgo (fun j => qAt M 0 n j) (dgo (fun w => platFactC M n w) d 8) j) * (31 : Int64)) + ((Int32.ofInt (qAt M 0 n ((j : Nat) : Int))).toInt64))), (0, .ref (ad 0 0)), (3, iv n), (6, iv ((j : Nat) : Int))]) dX8_digestPlatform_70 (by decide) rfl ?_
        refine z_iinc hC 3 (L' := [(6, iv (((j : Nat) : Int) + 1)), (4, .long (((dgo (fun j => qAt M 0 n j) (dgo (fun w => platFactC M n w) d 8) j) * (31 : Int64)) + ((Int32.ofInt (qAt M 0 n ((j : Nat) : Int))).toInt64))), (0, .ref (ad 0 0)), (3, iv n)]) dX8_digestPlatform_72 rfl (by decide) rfl ?_
        refine z_goto hC 39 dX8_digestPlatform_75 (by decide) ?_
        refine z_perm [2, 3, 1, 0] (L' := [(0, .ref (ad 0 0)), (3, iv n), (4, .long (((dgo (fun j => qAt M 0 n j) (dgo (fun w => platFactC M n w) d 8) j) * (31 : Int64)) + ((Int32.ofInt (qAt M 0 n ((j : Nat) : Int))).toInt64))), (6, iv (((j : Nat) : Int) + 1))]) rfl ?_
        exact z_conv (ih39 _ (by omega) (j + 1) (by omega) rfl) (by rfl) (by rw [dgo_s]; rfl) (by rfl)
  have hc6 : ∀ (d6 : Nat) (j : Nat) (hj : j ≤ 8), 8 - j = d6 → zV p l e (zrm 2 0 0) s m args below meth c (MQ below (zQl D ad okC (tmC ad tc) (digPC M n d) M (zA ad okC s.heap.size)) args s 0 0 (zA ad okC s.heap.size)) D ad okC (tmC ad tc) (zA ad okC s.heap.size) s.heap 7 0 0 M [(0, .ref (ad 0 0)), (3, iv n), (4, .long (dgo (fun w => platFactC M n w) d j)), (6, iv ((j : Nat) : Int))] 6 [] := by
    intro d6
    induction d6 using Nat.strongRecOn with
    | _ d6 ih6 =>
      intro j hj hd6
      refine z_iload hC 3 rfl dX8_digestPlatform_6 ?_
      refine z_bipush hC dX8_digestPlatform_8 (by decide) ?_
      refine z_icmp_ge hC 36 dX8_digestPlatform_10 (by decide) (by omega) (by omega) (fun c10 => ?_) (fun c10 => ?_)
      · skip
        have he : j = 8 := by omega
        subst he
        refine z_iconst hC dX8_digestPlatform_36 ?_
        refine z_istore hC (L' := [(6, iv 0), (0, .ref (ad 0 0)), (3, iv n), (4, .long (dgo (fun w => platFactC M n w) d 8))]) dX8_digestPlatform_37 (by decide) rfl ?_
        refine z_perm [1, 2, 3, 0] (L' := [(0, .ref (ad 0 0)), (3, iv n), (4, .long (dgo (fun w => platFactC M n w) d 8)), (6, iv 0)]) rfl ?_
        exact z_conv (hc39 _ 0 (by omega) rfl) (by rfl) (by rw [dgo_0]; rfl) (by rfl)
      · skip
        refine z_lload hC 2 rfl dX8_digestPlatform_13 ?_
        refine z_ldc2 hC (v := (31 : Int64)) dX8_digestPlatform_15 (zin 431 (by decide +kernel) rfl) ?_
        refine z_lmul hC dX8_digestPlatform_18 ?_
        refine z_aload_n hC 0 rfl dX8_digestPlatform_19 rfl ?_
        refine z_iload_n hC 1 rfl dX8_digestPlatform_20 rfl ?_
        refine z_iload hC 3 rfl dX8_digestPlatform_21 ?_
        refine z_callVi hC zlX8_116 (k_X8_platformFact l D tc ad hI M n ((j : Nat) : Int) hW (by omega) (by omega)) (tmC_0 ad tc _) rfl (okC_0 (by omega)) rfl rfl (Nat.le_of_ble_eq_true rfl) ⟨by decide, by decide⟩ ⟨by decide, by decide⟩ dX8_digestPlatform_23 ?_
        refine z_i2l hC dX8_digestPlatform_26 ?_
        refine z_ladd hC dX8_digestPlatform_27 ?_
        refine z_lstore hC (L' := [(4, .long (((dgo (fun w => platFactC M n w) d j) * (31 : Int64)) + ((Int32.ofInt (platFactC M n ((j : Nat) : Int))).toInt64))), (0, .ref (ad 0 0)), (3, iv n), (6, iv ((j : Nat) : Int))]) dX8_digestPlatform_28 (by decide) rfl ?_
        refine z_iinc hC 3 (L' := [(6, iv (((j : Nat) : Int) + 1)), (4, .long (((dgo (fun w => platFactC M n w) d j) * (31 : Int64)) + ((Int32.ofInt (platFactC M n ((j : Nat) : Int))).toInt64))), (0, .ref (ad 0 0)), (3, iv n)]) dX8_digestPlatform_30 rfl (by decide) rfl ?_
        refine z_goto hC 6 dX8_digestPlatform_33 (by decide) ?_
        refine z_perm [2, 3, 1, 0] (L' := [(0, .ref (ad 0 0)), (3, iv n), (4, .long (((dgo (fun w => platFactC M n w) d j) * (31 : Int64)) + ((Int32.ofInt (platFactC M n ((j : Nat) : Int))).toInt64))), (6, iv (((j : Nat) : Int) + 1))]) rfl ?_
        exact z_conv (ih6 _ (by omega) (j + 1) (by omega) rfl) (by rfl) (by rw [dgo_s]; rfl) (by rfl)
  refine z_lload_n hC 1 rfl dX8_digestPlatform_0 rfl ?_
  refine z_lstore hC (L' := [(4, .long d), (0, .ref (ad 0 0)), (1, .long d), (3, iv n)]) dX8_digestPlatform_1 (by decide) rfl ?_
  refine z_iconst hC dX8_digestPlatform_3 ?_
  refine z_istore hC (L' := [(6, iv 0), (4, .long d), (0, .ref (ad 0 0)), (1, .long d), (3, iv n)]) dX8_digestPlatform_4 (by decide) rfl ?_
  refine z_perm [2, 4, 1, 0] (L' := [(0, .ref (ad 0 0)), (3, iv n), (4, .long d), (6, iv 0)]) rfl ?_
  exact z_conv (hc6 _ 0 (by omega) rfl) (by rfl) (by rw [dgo_0]; rfl) (by rfl)
