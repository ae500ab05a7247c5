set_option maxHeartbeats 4000000 in
set_option maxRecDepth 100000 in
theorem k_X10_platform (l : Launch) (D : va_G) (tc : Nat → ClassId) (ad : Nat → Nat → Nat) (hI : zI ad okM) (M : zM) {T U : Int} (n w : Int) (hW : WTM T U M) (hn : -2147483648 ≤ n ∧ n < 2147483648) (hw : -2147483648 ≤ w ∧ w < 2147483648) : zMi l yX10_platform cX10_platform 3 (some .int) 2 D (tysM tc) ad okM (tmM ad tc) [.ref (ad 0 0), iv n, iv w] M (platFR M n w) (platFM M n w) 1 8 := by
  have hpc : 0 ≤ M 0 0 1 ∧ M 0 0 1 ≤ 8 := hW.1 0 0 1
  refine z_met hI (plainFor_of_name (by decide)) (Nat.le_of_ble_eq_true rfl) ?_
  intro p e s m args below meth c hC hret hlk
  refine z_conv (L2 := [(0, .ref (ad 0 0)), (1, iv n), (2, iv w)]) ?_ rfl rfl rfl
  refine z_aload_n hC 0 rfl dX10_platform_0 rfl ?_
  refine z_iconst hC dX10_platform_1 ?_
  refine z_put hC zgX10_52 (tmM_0 ad tc _) (okM_0 (by omega)) rfl dX10_platform_2 ?_
  have hW1 : WTM T U (zup M 0 0 0 0) := hW.thr ⟨by omega, by omega⟩
  refine z_aload_n hC 0 rfl dX10_platform_5 rfl ?_
  refine z_iload_n hC 1 rfl dX10_platform_6 rfl ?_
  refine z_callVi hC zlX10_85 (k_X10_isPlatform l D tc ad hI (zup M 0 0 0 0) n hW1 (by omega)) (tmM_0 ad tc _) rfl (okM_0 (by omega)) rfl rfl (Nat.le_of_ble_eq_true rfl) ⟨by decide, by decide⟩ ⟨by decide, by decide⟩ dX10_platform_7 ?_
  refine z_conv (St2 := [iv (if 0 ≤ n ∧ n ≤ (M 0 0 1) - 1 then 1 else 0)]) ?_ rfl rfl (by simp [zup])
  refine z_if_eq_b hC 32 dX10_platform_10 (by decide) (fun c10 => ?_) (fun c10 => ?_)
  · skip
    refine z_aload_n hC 0 rfl dX10_platform_32 rfl ?_
    refine z_iconst hC dX10_platform_33 ?_
    refine z_callVi hC zlX10_82 (k_X10_no l D tc ad hI (zup M 0 0 0 0) 1 ) (tmM_0 ad tc _) rfl (okM_0 (by omega)) rfl rfl (Nat.le_of_ble_eq_true rfl) ⟨by decide, by decide⟩ ⟨by decide, by decide⟩ dX10_platform_34 ?_
    refine z_widen (k := 1) (n := 8) (by first | decide | omega) (by first | decide | omega) ?_
    exact z_iret hC hret hlk rfl (by simp only [platFR, kPlatM]; (repeat' split) <;> first | rfl | omega) (by simp only [platFM, thM, kPlatM]; (repeat' split) <;> first | rfl | omega) dX10_platform_37
  · skip
    refine z_iload_n hC 2 rfl dX10_platform_13 rfl ?_
    refine z_iconst hC dX10_platform_14 ?_
    refine z_bipush hC dX10_platform_15 (by decide) ?_
    refine z_callSi hC zlX10_59 (k_X10_isIn l D tc ad hI (zup M 0 0 0 0) w 0 7 (by omega) (by omega) (by omega)) rfl rfl (Nat.le_of_ble_eq_true rfl) ⟨by decide, by decide⟩ ⟨by decide, by decide⟩ dX10_platform_17 ?_
    refine z_if_eq_b hC 32 dX10_platform_20 (by decide) (fun c20 => ?_) (fun c20 => ?_)
    · skip
      refine z_aload_n hC 0 rfl dX10_platform_32 rfl ?_
      refine z_iconst hC dX10_platform_33 ?_
      refine z_callVi hC zlX10_82 (k_X10_no l D tc ad hI (zup M 0 0 0 0) 1 ) (tmM_0 ad tc _) rfl (okM_0 (by omega)) rfl rfl (Nat.le_of_ble_eq_true rfl) ⟨by decide, by decide⟩ ⟨by decide, by decide⟩ dX10_platform_34 ?_
      refine z_widen (k := 1) (n := 8) (by first | decide | omega) (by first | decide | omega) ?_
      exact z_iret hC hret hlk rfl (by simp only [platFR, kPlatM]; (repeat' split) <;> first | rfl | omega) (by simp only [platFM, thM, kPlatM]; (repeat' split) <;> first | rfl | omega) dX10_platform_37
    · skip
      refine z_aload_n hC 0 rfl dX10_platform_23 rfl ?_
      refine z_iload_n hC 1 rfl dX10_platform_24 rfl ?_
      refine z_iload_n hC 2 rfl dX10_platform_25 rfl ?_
      refine z_callVi hC zlX10_107 (k_X10_platformTold l D tc ad hI (zup M 0 0 0 0) n w hW1 ⟨by omega, by omega⟩ (by omega)) (tmM_0 ad tc _) rfl (okM_0 (by omega)) rfl rfl (Nat.le_of_ble_eq_true rfl) ⟨by decide, by decide⟩ ⟨by decide, by decide⟩ dX10_platform_26 ?_
      refine z_goto hC 37 dX10_platform_29 (by decide) ?_
      refine z_widen (k := 1) (n := 8) (by first | decide | omega) (by first | decide | omega) ?_
      exact z_iret hC hret hlk rfl (by simp only [platFR, kPlatM]; (repeat' split) <;> first | rfl | omega) (by simp only [platFM, thM, kPlatM]; (repeat' split) <;> first | rfl | omega) dX10_platform_37
set_option maxHeartbeats 4000000 in
set_option maxRecDepth 100000 in
theorem k_X10_line (l : Launch) (D : va_G) (tc : Nat → ClassId) (ad : Nat → Nat → Nat) (hI : zI ad okM) (M : zM) {T U : Int} (n w : Int) (hW : WTM T U M) (hn : -2147483648 ≤ n ∧ n < 2147483648) (hw : -2147483648 ≤ w ∧ w < 2147483648) : zMi l yX10_line cX10_line 3 (some .int) 4 D (tysM tc) ad okM (tmM ad tc) [.ref (ad 0 0), iv n, iv w] M (lineFR M n w) (lineFM M n w) 1 11 := by
  have hlc : 0 ≤ M 0 0 5 ∧ M 0 0 5 ≤ 12 := hW.1 0 0 5
  refine z_met hI (plainFor_of_name (by decide)) (Nat.le_of_ble_eq_true rfl) ?_
  intro p e s m args below meth c hC hret hlk
  refine z_conv (L2 := [(0, .ref (ad 0 0)), (1, iv n), (2, iv w)]) ?_ rfl rfl rfl
  refine z_aload_n hC 0 rfl dX10_line_0 rfl ?_
  refine z_iconst hC dX10_line_1 ?_
  refine z_put hC zgX10_52 (tmM_0 ad tc _) (okM_0 (by omega)) rfl dX10_line_2 ?_
  have hW1 : WTM T U (zup M 0 0 0 0) := hW.thr ⟨by omega, by omega⟩
  refine z_aload_n hC 0 rfl dX10_line_5 rfl ?_
  refine z_iload_n hC 1 rfl dX10_line_6 rfl ?_
  refine z_callVi hC zlX10_92 (k_X10_isLine l D tc ad hI (zup M 0 0 0 0) n hW1 (by omega)) (tmM_0 ad tc _) rfl (okM_0 (by omega)) rfl rfl (Nat.le_of_ble_eq_true rfl) ⟨by decide, by decide⟩ ⟨by decide, by decide⟩ dX10_line_7 ?_
  refine z_conv (St2 := [iv (if 0 ≤ n ∧ n ≤ (M 0 0 5) - 1 then 1 else 0)]) ?_ rfl rfl (by simp [zup])
  refine z_if_eq_b hC 32 dX10_line_10 (by decide) (fun c10 => ?_) (fun c10 => ?_)
  · skip
    refine z_aload_n hC 0 rfl dX10_line_32 rfl ?_
    refine z_iconst hC dX10_line_33 ?_
    refine z_callVi hC zlX10_82 (k_X10_no l D tc ad hI (zup M 0 0 0 0) 1 ) (tmM_0 ad tc _) rfl (okM_0 (by omega)) rfl rfl (Nat.le_of_ble_eq_true rfl) ⟨by decide, by decide⟩ ⟨by decide, by decide⟩ dX10_line_34 ?_
    refine z_widen (k := 1) (n := 11) (by first | decide | omega) (by first | decide | omega) ?_
    exact z_iret hC hret hlk rfl (by simp only [lineFR, kLineM]; (repeat' split) <;> first | rfl | omega) (by simp only [lineFM, thM, kLineM]; (repeat' split) <;> first | rfl | omega) dX10_line_37
  · skip
    refine z_iload_n hC 2 rfl dX10_line_13 rfl ?_
    refine z_iconst hC dX10_line_14 ?_
    refine z_bipush hC dX10_line_15 (by decide) ?_
    refine z_callSi hC zlX10_59 (k_X10_isIn l D tc ad hI (zup M 0 0 0 0) w 0 10 (by omega) (by omega) (by omega)) rfl rfl (Nat.le_of_ble_eq_true rfl) ⟨by decide, by decide⟩ ⟨by decide, by decide⟩ dX10_line_17 ?_
    refine z_if_eq_b hC 32 dX10_line_20 (by decide) (fun c20 => ?_) (fun c20 => ?_)
    · skip
      refine z_aload_n hC 0 rfl dX10_line_32 rfl ?_
      refine z_iconst hC dX10_line_33 ?_
      refine z_callVi hC zlX10_82 (k_X10_no l D tc ad hI (zup M 0 0 0 0) 1 ) (tmM_0 ad tc _) rfl (okM_0 (by omega)) rfl rfl (Nat.le_of_ble_eq_true rfl) ⟨by decide, by decide⟩ ⟨by decide, by decide⟩ dX10_line_34 ?_
      refine z_widen (k := 1) (n := 11) (by first | decide | omega) (by first | decide | omega) ?_
      exact z_iret hC hret hlk rfl (by simp only [lineFR, kLineM]; (repeat' split) <;> first | rfl | omega) (by simp only [lineFM, thM, kLineM]; (repeat' split) <;> first | rfl | omega) dX10_line_37
    · skip
      refine z_aload_n hC 0 rfl dX10_line_23 rfl ?_
      refine z_iload_n hC 1 rfl dX10_line_24 rfl ?_
      refine z_iload_n hC 2 rfl dX10_line_25 rfl ?_
      refine z_callVi hC zlX10_130 (k_X10_lineTold l D tc ad hI (zup M 0 0 0 0) n w hW1 (by have y0 : (zup M 0 0 0 0) 0 0 5 = M 0 0 5 := (by simp [zup]); have z1 : 0 ≤ M 0 0 5 ∧ M 0 0 5 ≤ 12 := hW.1 0 0 5; omega) (by omega)) (tmM_0 ad tc _) rfl (okM_0 (by omega)) rfl rfl (Nat.le_of_ble_eq_true rfl) ⟨by decide, by decide⟩ ⟨by decide, by decide⟩ dX10_line_26 ?_
      refine z_goto hC 37 dX10_line_29 (by decide) ?_
      refine z_widen (k := 1) (n := 11) (by first | decide | omega) (by first | decide | omega) ?_
      exact z_iret hC hret hlk rfl (by simp only [lineFR, kLineM]; (repeat' split) <;> first | rfl | omega) (by simp only [lineFM, thM, kLineM]; (repeat' split) <;> first | rfl | omega) dX10_line_37
set_option maxHeartbeats 4000000 in
set_option maxRecDepth 100000 in
theorem k_X10_rider (l : Launch) (D : va_G) (tc : Nat → ClassId) (ad : Nat → Nat → Nat) (hI : zI ad okM) (M : zM) {T U : Int} (n w : Int) (hW : WTM T U M) (hn : -2147483648 ≤ n ∧ n < 2147483648) (hw : -2147483648 ≤ w ∧ w < 2147483648) (hat : ∀ r : Nat, (r : Int) < M 0 0 10 → M 20 0 r = 0 → M 21 0 r ≤ 7) : zMi l yX10_rider cX10_rider 3 (some .int) 64 D (tysM tc) ad okM (tmM ad tc) [.ref (ad 0 0), iv n, iv w] M (riderFR M n w) (riderFM M n w) 0 0 := by
  have hrc : 0 ≤ M 0 0 10 ∧ M 0 0 10 ≤ 12 := hW.1 0 0 10
  refine z_met hI (plainFor_of_name (by decide)) (Nat.le_of_ble_eq_true rfl) ?_
  intro p e s m args below meth c hC hret hlk
  refine z_conv (L2 := [(0, .ref (ad 0 0)), (1, iv n), (2, iv w)]) ?_ rfl rfl rfl
  refine z_aload_n hC 0 rfl dX10_rider_0 rfl ?_
  refine z_iconst hC dX10_rider_1 ?_
  refine z_put hC zgX10_52 (tmM_0 ad tc _) (okM_0 (by omega)) rfl dX10_rider_2 ?_
  have hW1 : WTM T U (zup M 0 0 0 0) := hW.thr ⟨by omega, by omega⟩
  refine z_iload_n hC 1 rfl dX10_rider_5 rfl ?_
  refine z_iconst hC dX10_rider_6 ?_
  refine z_aload_n hC 0 rfl dX10_rider_7 rfl ?_
  have hq1 : 0 ≤ M 0 0 10 ∧ M 0 0 10 ≤ 12 := hW.1 0 0 10
  refine z_getI hC zfX10_95 (tmM_0 ad tc _) (okM_0 (by omega)) rfl (x := M 0 0 10) (by simp [zup]) dX10_rider_8 ?_
  refine z_iconst hC dX10_rider_11 ?_
  refine z_isub hC dX10_rider_12 ?_
  refine z_callSi hC zlX10_59 (k_X10_isIn l D tc ad hI (zup M 0 0 0 0) n 0 ((M 0 0 10) - 1) (by omega) (by omega) (by omega)) rfl rfl (Nat.le_of_ble_eq_true rfl) ⟨by decide, by decide⟩ ⟨by decide, by decide⟩ dX10_rider_13 ?_
  refine z_if_eq_b hC 38 dX10_rider_16 (by decide) (fun c16 => ?_) (fun c16 => ?_)
  · skip
    refine z_aload_n hC 0 rfl dX10_rider_38 rfl ?_
    refine z_iconst hC dX10_rider_39 ?_
    refine z_callVi hC zlX10_82 (k_X10_no l D tc ad hI (zup M 0 0 0 0) 1 ) (tmM_0 ad tc _) rfl (okM_0 (by omega)) rfl rfl (Nat.le_of_ble_eq_true rfl) ⟨by decide, by decide⟩ ⟨by decide, by decide⟩ dX10_rider_40 ?_
    exact z_iret hC hret hlk rfl (by simp only [riderFR, kRiderM]; (repeat' split) <;> first | rfl | omega) (by simp only [riderFM, thM, kRiderM]; (repeat' split) <;> first | rfl | omega) dX10_rider_43
  · skip
    refine z_iload_n hC 2 rfl dX10_rider_19 rfl ?_
    refine z_iconst hC dX10_rider_20 ?_
    refine z_bipush hC dX10_rider_21 (by decide) ?_
    refine z_callSi hC zlX10_59 (k_X10_isIn l D tc ad hI (zup M 0 0 0 0) w 0 10 (by omega) (by omega) (by omega)) rfl rfl (Nat.le_of_ble_eq_true rfl) ⟨by decide, by decide⟩ ⟨by decide, by decide⟩ dX10_rider_23 ?_
    refine z_if_eq_b hC 38 dX10_rider_26 (by decide) (fun c26 => ?_) (fun c26 => ?_)
    · skip
      refine z_aload_n hC 0 rfl dX10_rider_38 rfl ?_
      refine z_iconst hC dX10_rider_39 ?_
      refine z_callVi hC zlX10_82 (k_X10_no l D tc ad hI (zup M 0 0 0 0) 1 ) (tmM_0 ad tc _) rfl (okM_0 (by omega)) rfl rfl (Nat.le_of_ble_eq_true rfl) ⟨by decide, by decide⟩ ⟨by decide, by decide⟩ dX10_rider_40 ?_
      exact z_iret hC hret hlk rfl (by simp only [riderFR, kRiderM]; (repeat' split) <;> first | rfl | omega) (by simp only [riderFM, thM, kRiderM]; (repeat' split) <;> first | rfl | omega) dX10_rider_43
    · skip
      refine z_aload_n hC 0 rfl dX10_rider_29 rfl ?_
      refine z_iload_n hC 1 rfl dX10_rider_30 rfl ?_
      refine z_iload_n hC 2 rfl dX10_rider_31 rfl ?_
      refine z_callVi hC zlX10_161 (k_X10_riderTold l D tc ad hI (zup M 0 0 0 0) n w hW1 (by omega) (by omega) (by rw [zup_fr (show 20 ≠ 0 by decide), zup_fr (show 21 ≠ 0 by decide)]; exact hat n.toNat (by omega))) (tmM_0 ad tc _) rfl (okM_0 (by omega)) rfl rfl (Nat.le_of_ble_eq_true rfl) ⟨by decide, by decide⟩ ⟨by decide, by decide⟩ dX10_rider_32 ?_
      refine z_goto hC 43 dX10_rider_35 (by decide) ?_
      exact z_iret hC hret hlk rfl (by simp only [riderFR, kRiderM]; (repeat' split) <;> first | rfl | omega) (by simp only [riderFM, thM, kRiderM]; (repeat' split) <;> first | rfl | omega) dX10_rider_43
set_option maxHeartbeats 4000000 in
set_option maxRecDepth 100000 in
theorem k_X10_count (l : Launch) (D : va_G) (tc : Nat → ClassId) (ad : Nat → Nat → Nat) (hI : zI ad okM) (M : zM) {T U : Int} (w : Int) (hW : WTM T U M) (hw : -2147483648 ≤ w ∧ w < 2147483648) : zMi l yX10_count cX10_count 2 (some .int) 2 D (tysM tc) ad okM (tmM ad tc) [.ref (ad 0 0), iv w] M (countFR M w) (countFM M w) 1 10 := by
  refine z_met hI (plainFor_of_name (by decide)) (Nat.le_of_ble_eq_true rfl) ?_
  intro p e s m args below meth c hC hret hlk
  refine z_conv (L2 := [(0, .ref (ad 0 0)), (1, iv w)]) ?_ rfl rfl rfl
  refine z_aload_n hC 0 rfl dX10_count_0 rfl ?_
  refine z_iconst hC dX10_count_1 ?_
  refine z_put hC zgX10_52 (tmM_0 ad tc _) (okM_0 (by omega)) rfl dX10_count_2 ?_
  have hW1 : WTM T U (zup M 0 0 0 0) := hW.thr ⟨by omega, by omega⟩
  refine z_iload_n hC 1 rfl dX10_count_5 rfl ?_
  refine z_iconst hC dX10_count_6 ?_
  refine z_bipush hC dX10_count_7 (by decide) ?_
  refine z_callSi hC zlX10_59 (k_X10_isIn l D tc ad hI (zup M 0 0 0 0) w 0 9 (by omega) (by omega) (by omega)) rfl rfl (Nat.le_of_ble_eq_true rfl) ⟨by decide, by decide⟩ ⟨by decide, by decide⟩ dX10_count_9 ?_
  refine z_if_eq_b hC 23 dX10_count_12 (by decide) (fun c12 => ?_) (fun c12 => ?_)
  · skip
    refine z_aload_n hC 0 rfl dX10_count_23 rfl ?_
    refine z_iconst hC dX10_count_24 ?_
    refine z_callVi hC zlX10_82 (k_X10_no l D tc ad hI (zup M 0 0 0 0) 1 ) (tmM_0 ad tc _) rfl (okM_0 (by omega)) rfl rfl (Nat.le_of_ble_eq_true rfl) ⟨by decide, by decide⟩ ⟨by decide, by decide⟩ dX10_count_25 ?_
    refine z_widen (k := 1) (n := 10) (by first | decide | omega) (by first | decide | omega) ?_
    exact z_iret hC hret hlk rfl (by simp only [countFR, kCountM]; (repeat' split) <;> first | rfl | omega) (by simp only [countFM, thM, kCountM]; (repeat' split) <;> first | rfl | omega) dX10_count_28
  · skip
    refine z_aload_n hC 0 rfl dX10_count_15 rfl ?_
    refine z_iload_n hC 1 rfl dX10_count_16 rfl ?_
    refine z_callVi hC zlX10_171 (k_X10_counted l D tc ad hI (zup M 0 0 0 0) w hW1 (by omega)) (tmM_0 ad tc _) rfl (okM_0 (by omega)) rfl rfl (Nat.le_of_ble_eq_true rfl) ⟨by decide, by decide⟩ ⟨by decide, by decide⟩ dX10_count_17 ?_
    refine z_goto hC 28 dX10_count_20 (by decide) ?_
    refine z_widen (k := 1) (n := 10) (by first | decide | omega) (by first | decide | omega) ?_
    exact z_iret hC hret hlk rfl (by simp only [countFR, kCountM]; (repeat' split) <;> first | rfl | omega) (by simp only [countFM, thM, kCountM]; (repeat' split) <;> first | rfl | omega) dX10_count_28
