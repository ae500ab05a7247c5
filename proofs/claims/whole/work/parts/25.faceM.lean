set_option maxHeartbeats 4000000 in
set_option maxRecDepth 100000 in
theorem k_X10_setWind (l : Launch) (D : va_G) (tc : Nat → ClassId) (ad : Nat → Nat → Nat) (hI : zI ad okM) (M : zM) {T U : Int} (di w : Int) (hW : WTM T U M) (hd : -2147483648 ≤ di ∧ di < 2147483648) (hw : -2147483648 ≤ w ∧ w < 2147483648) : zMi l yX10_setWind cX10_setWind 4 (some .int) 1 D (tysM tc) ad okM (tmM ad tc) [.ref (ad 0 0), iv di, iv w] M (windR M di w) (windM M di w) 0 0 := by
  refine z_met hI (plainFor_of_name (by decide)) (Nat.le_of_ble_eq_true rfl) ?_
  intro p e s m args below meth c hC hret hlk
  refine z_conv (L2 := [(0, .ref (ad 0 0)), (1, iv di), (2, iv w)]) ?_ rfl rfl rfl
  refine z_aload_n hC 0 rfl dX10_setWind_0 rfl ?_
  refine z_iconst hC dX10_setWind_1 ?_
  refine z_put hC zgX10_52 (tmM_0 ad tc _) (okM_0 (by omega)) rfl dX10_setWind_2 ?_
  refine z_iload_n hC 1 rfl dX10_setWind_5 rfl ?_
  refine z_iconst hC dX10_setWind_6 ?_
  refine z_bipush hC dX10_setWind_7 (by decide) ?_
  refine z_callSi hC zlX10_59 (k_X10_isIn l D tc ad hI (zup M 0 0 0 0) di 0 11 (by omega) (by omega) (by omega)) rfl rfl (Nat.le_of_ble_eq_true rfl) ⟨by decide, by decide⟩ ⟨by decide, by decide⟩ dX10_setWind_9 ?_
  refine z_if_ne_b hC 21 dX10_setWind_12 (by decide) (fun c12 => ?_) (fun c12 => ?_)
  · skip
    refine z_iload_n hC 2 rfl dX10_setWind_21 rfl ?_
    refine z_iconst hC dX10_setWind_22 ?_
    refine z_bipush hC dX10_setWind_23 (by decide) ?_
    refine z_callSi hC zlX10_59 (k_X10_isIn l D tc ad hI (zup M 0 0 0 0) w 0 9 (by omega) (by omega) (by omega)) rfl rfl (Nat.le_of_ble_eq_true rfl) ⟨by decide, by decide⟩ ⟨by decide, by decide⟩ dX10_setWind_25 ?_
    refine z_if_ne_b hC 37 dX10_setWind_28 (by decide) (fun c28 => ?_) (fun c28 => ?_)
    · skip
      refine z_aload_n hC 0 rfl dX10_setWind_37 rfl ?_
      refine z_getR hC zfX10_28 (tmM_0 ad tc _) (okM_0 (by omega)) rfl dX10_setWind_38 ?_
      refine z_iload_n hC 1 rfl dX10_setWind_41 rfl ?_
      have hq1 : 0 ≤ M 7 0 ((di).toNat) ∧ M 7 0 ((di).toNat) ≤ 9 := hW.1 7 0 ((di).toNat)
      refine z_iaload hC 0 ((di).toNat) (tmM_7 ad tc _) (tysM_0 tc) (okM_7 (by omega)) (by omega) (by omega) (by decide) (x := M 7 0 ((di).toNat)) (by simp [zup]) dX10_setWind_42 ?_
      refine z_istore_n hC (L' := [(3, iv (M 7 0 ((di).toNat))), (0, .ref (ad 0 0)), (1, iv di), (2, iv w)]) dX10_setWind_43 rfl (by decide) rfl ?_
      refine z_aload_n hC 1 rfl dX10_setWind_44 rfl ?_
      refine z_getR hC zfX10_28 (tmM_0 ad tc _) (okM_0 (by omega)) rfl dX10_setWind_45 ?_
      refine z_iload_n hC 2 rfl dX10_setWind_48 rfl ?_
      refine z_iload_n hC 3 rfl dX10_setWind_49 rfl ?_
      refine z_iastore hC 0 ((di).toNat) (tmM_7 ad tc _) (tysM_0 tc) (okM_7 (by omega)) (by omega) (by omega) (by decide) dX10_setWind_50 ?_
      refine z_iload_n hC 0 rfl dX10_setWind_51 rfl ?_
      exact z_iret hC hret hlk rfl (by simp only [windR, kWindM]; (repeat' split) <;> first | rfl | omega) (by simp only [windM, thM, kWindM]; (repeat' split) <;> first | rfl | omega) dX10_setWind_52
    · skip
      refine z_aload_n hC 0 rfl dX10_setWind_31 rfl ?_
      refine z_iconst hC dX10_setWind_32 ?_
      refine z_callVi hC zlX10_82 (k_X10_no l D tc ad hI (zup M 0 0 0 0) 2 ) (tmM_0 ad tc _) rfl (okM_0 (by omega)) rfl rfl (Nat.le_of_ble_eq_true rfl) ⟨by decide, by decide⟩ ⟨by decide, by decide⟩ dX10_setWind_33 ?_
      exact z_iret hC hret hlk rfl (by simp only [windR, kWindM]; (repeat' split) <;> first | rfl | omega) (by simp only [windM, thM, kWindM]; (repeat' split) <;> first | rfl | omega) dX10_setWind_36
  · skip
    refine z_aload_n hC 0 rfl dX10_setWind_15 rfl ?_
    refine z_iconst hC dX10_setWind_16 ?_
    refine z_callVi hC zlX10_82 (k_X10_no l D tc ad hI (zup M 0 0 0 0) 1 ) (tmM_0 ad tc _) rfl (okM_0 (by omega)) rfl rfl (Nat.le_of_ble_eq_true rfl) ⟨by decide, by decide⟩ ⟨by decide, by decide⟩ dX10_setWind_17 ?_
    exact z_iret hC hret hlk rfl (by simp only [windR, kWindM]; (repeat' split) <;> first | rfl | omega) (by simp only [windM, thM, kWindM]; (repeat' split) <;> first | rfl | omega) dX10_setWind_20
set_option maxHeartbeats 4000000 in
set_option maxRecDepth 100000 in
theorem k_X10_ride (l : Launch) (D : va_G) (tc : Nat → ClassId) (ad : Nat → Nat → Nat) (hI : zI ad okM) (M : zM) {T U : Int} (q w : Int) (hW : WTM T U M) (hq : -2147483648 ≤ q ∧ q < 2147483648) (hw : -2147483648 ≤ w ∧ w < 2147483648) : zMi l yX10_ride cX10_ride 3 (some .int) 3 D (tysM tc) ad okM (tmM ad tc) [.ref (ad 0 0), iv q, iv w] M (rideFR M q w) (rideFM M q w) 0 0 := by
  have hlc : 0 ≤ M 0 0 5 ∧ M 0 0 5 ≤ 12 := hW.1 0 0 5
  refine z_met hI (plainFor_of_name (by decide)) (Nat.le_of_ble_eq_true rfl) ?_
  intro p e s m args below meth c hC hret hlk
  refine z_conv (L2 := [(0, .ref (ad 0 0)), (1, iv q), (2, iv w)]) ?_ rfl rfl rfl
  refine z_aload_n hC 0 rfl dX10_ride_0 rfl ?_
  refine z_iconst hC dX10_ride_1 ?_
  refine z_put hC zgX10_52 (tmM_0 ad tc _) (okM_0 (by omega)) rfl dX10_ride_2 ?_
  have hW1 : WTM T U (zup M 0 0 0 0) := hW.thr ⟨by omega, by omega⟩
  refine z_aload_n hC 0 rfl dX10_ride_5 rfl ?_
  refine z_iload_n hC 1 rfl dX10_ride_6 rfl ?_
  refine z_callVi hC zlX10_92 (k_X10_isLine l D tc ad hI (zup M 0 0 0 0) q hW1 (by omega)) (tmM_0 ad tc _) rfl (okM_0 (by omega)) rfl rfl (Nat.le_of_ble_eq_true rfl) ⟨by decide, by decide⟩ ⟨by decide, by decide⟩ dX10_ride_7 ?_
  refine z_conv (St2 := [iv (if 0 ≤ q ∧ q ≤ (M 0 0 5) - 1 then 1 else 0)]) ?_ rfl rfl (by simp [zup])
  refine z_if_ne_b hC 19 dX10_ride_10 (by decide) (fun c10 => ?_) (fun c10 => ?_)
  · skip
    refine z_iload_n hC 2 rfl dX10_ride_19 rfl ?_
    refine z_bipush hC dX10_ride_20 (by decide) ?_
    refine z_bipush hC dX10_ride_22 (by decide) ?_
    refine z_callSi hC zlX10_59 (k_X10_isIn l D tc ad hI (zup M 0 0 0 0) w 20 120 (by omega) (by omega) (by omega)) rfl rfl (Nat.le_of_ble_eq_true rfl) ⟨by decide, by decide⟩ ⟨by decide, by decide⟩ dX10_ride_24 ?_
    refine z_if_ne_b hC 36 dX10_ride_27 (by decide) (fun c27 => ?_) (fun c27 => ?_)
    · skip
      refine z_aload_n hC 0 rfl dX10_ride_36 rfl ?_
      refine z_getR hC zfX10_25 (tmM_0 ad tc _) (okM_0 (by omega)) rfl dX10_ride_37 ?_
      refine z_iload_n hC 1 rfl dX10_ride_40 rfl ?_
      have hq1 : 0 ≤ M 6 0 ((q).toNat) ∧ M 6 0 ((q).toNat) ≤ 150 := hW.1 6 0 ((q).toNat)
      refine z_iaload hC 0 ((q).toNat) (tmM_6 ad tc _) (tysM_0 tc) (okM_6 (by omega)) (by omega) (by omega) (by decide) (x := M 6 0 ((q).toNat)) (by simp [zup]) dX10_ride_41 ?_
      refine z_iload_n hC 2 rfl dX10_ride_42 rfl ?_
      refine z_icmp_ge hC 50 dX10_ride_43 (by decide) (by omega) (by omega) (fun c43 => ?_) (fun c43 => ?_)
      · skip
        refine z_aload_n hC 0 rfl dX10_ride_50 rfl ?_
        refine z_iload_n hC 1 rfl dX10_ride_51 rfl ?_
        refine z_iload_n hC 2 rfl dX10_ride_52 rfl ?_
        refine z_callVi hC zlX10_133 (k_X10_rideOf l D tc ad hI (zup M 0 0 0 0) q w hW1 (by have y0 : (zup M 0 0 0 0) 0 0 5 = M 0 0 5 := (by simp [zup]); have z1 : 0 ≤ M 0 0 5 ∧ M 0 0 5 ≤ 12 := hW.1 0 0 5; omega) (by omega)) (tmM_0 ad tc _) rfl (okM_0 (by omega)) rfl rfl (Nat.le_of_ble_eq_true rfl) ⟨by decide, by decide⟩ ⟨by decide, by decide⟩ dX10_ride_53 ?_
        exact z_iret hC hret hlk rfl (by simp only [rideFR, kRideM]; (repeat' split) <;> first | rfl | omega) (by simp only [rideFM, thM, kRideM]; (repeat' split) <;> first | rfl | omega) dX10_ride_56
      · skip
        refine z_iconst hC dX10_ride_46 ?_
        refine z_goto hC 56 dX10_ride_47 (by decide) ?_
        exact z_iret hC hret hlk rfl (by simp only [rideFR, kRideM]; (repeat' split) <;> first | rfl | omega) (by simp only [rideFM, thM, kRideM]; (repeat' split) <;> first | rfl | omega) dX10_ride_56
    · skip
      refine z_aload_n hC 0 rfl dX10_ride_30 rfl ?_
      refine z_iconst hC dX10_ride_31 ?_
      refine z_callVi hC zlX10_82 (k_X10_no l D tc ad hI (zup M 0 0 0 0) 2 ) (tmM_0 ad tc _) rfl (okM_0 (by omega)) rfl rfl (Nat.le_of_ble_eq_true rfl) ⟨by decide, by decide⟩ ⟨by decide, by decide⟩ dX10_ride_32 ?_
      exact z_iret hC hret hlk rfl (by simp only [rideFR, kRideM]; (repeat' split) <;> first | rfl | omega) (by simp only [rideFM, thM, kRideM]; (repeat' split) <;> first | rfl | omega) dX10_ride_35
  · skip
    refine z_aload_n hC 0 rfl dX10_ride_13 rfl ?_
    refine z_iconst hC dX10_ride_14 ?_
    refine z_callVi hC zlX10_82 (k_X10_no l D tc ad hI (zup M 0 0 0 0) 1 ) (tmM_0 ad tc _) rfl (okM_0 (by omega)) rfl rfl (Nat.le_of_ble_eq_true rfl) ⟨by decide, by decide⟩ ⟨by decide, by decide⟩ dX10_ride_15 ?_
    exact z_iret hC hret hlk rfl (by simp only [rideFR, kRideM]; (repeat' split) <;> first | rfl | omega) (by simp only [rideFM, thM, kRideM]; (repeat' split) <;> first | rfl | omega) dX10_ride_18
set_option maxHeartbeats 4000000 in
set_option maxRecDepth 100000 in
theorem k_X10_span (l : Launch) (D : va_G) (tc : Nat → ClassId) (ad : Nat → Nat → Nat) (hI : zI ad okM) (M : zM) {T U : Int} (t b mo tr : Int) (hW : WTM T U M) (ht : -2147483648 ≤ t ∧ t < 2147483648) (hb : -2147483648 ≤ b ∧ b < 2147483648) (hm : -2147483648 ≤ mo ∧ mo < 2147483648) (hr : -2147483648 ≤ tr ∧ tr < 2147483648) : zMi l yX10_span cX10_span 5 (some .int) 2 D (tysM tc) ad okM (tmM ad tc) [.ref (ad 0 0), iv t, iv b, iv mo, iv tr] M (spanR M t b mo tr) (spanM M t b mo tr) 0 0 := by
  have hlc : 0 ≤ M 0 0 5 ∧ M 0 0 5 ≤ 12 := hW.1 0 0 5
  have hpc : 0 ≤ M 0 0 1 ∧ M 0 0 1 ≤ 8 := hW.1 0 0 1
  refine z_met hI (plainFor_of_name (by decide)) (Nat.le_of_ble_eq_true rfl) ?_
  intro p e s m args below meth c hC hret hlk
  refine z_conv (L2 := [(0, .ref (ad 0 0)), (1, iv t), (2, iv b), (3, iv mo), (4, iv tr)]) ?_ rfl rfl rfl
  refine z_aload_n hC 0 rfl dX10_span_0 rfl ?_
  refine z_iconst hC dX10_span_1 ?_
  refine z_put hC zgX10_52 (tmM_0 ad tc _) (okM_0 (by omega)) rfl dX10_span_2 ?_
  have hW1 : WTM T U (zup M 0 0 0 0) := hW.thr ⟨by omega, by omega⟩
  refine z_aload_n hC 0 rfl dX10_span_5 rfl ?_
  refine z_iload_n hC 1 rfl dX10_span_6 rfl ?_
  refine z_callVi hC zlX10_85 (k_X10_isPlatform l D tc ad hI (zup M 0 0 0 0) t hW1 (by omega)) (tmM_0 ad tc _) rfl (okM_0 (by omega)) rfl rfl (Nat.le_of_ble_eq_true rfl) ⟨by decide, by decide⟩ ⟨by decide, by decide⟩ dX10_span_7 ?_
  refine z_conv (St2 := [iv (if 0 ≤ t ∧ t ≤ (M 0 0 1) - 1 then 1 else 0)]) ?_ rfl rfl (by simp [zup])
  refine z_if_eq_b hC 21 dX10_span_10 (by decide) (fun c10 => ?_) (fun c10 => ?_)
  · skip
    refine z_aload_n hC 0 rfl dX10_span_21 rfl ?_
    refine z_iconst hC dX10_span_22 ?_
    refine z_callVi hC zlX10_82 (k_X10_no l D tc ad hI (zup M 0 0 0 0) 1 ) (tmM_0 ad tc _) rfl (okM_0 (by omega)) rfl rfl (Nat.le_of_ble_eq_true rfl) ⟨by decide, by decide⟩ ⟨by decide, by decide⟩ dX10_span_23 ?_
    exact z_iret hC hret hlk rfl (by simp only [spanR, kSpanM]; (repeat' split) <;> first | rfl | omega) (by simp only [spanM, thM, kSpanM]; (repeat' split) <;> first | rfl | omega) dX10_span_26
  · skip
    refine z_aload_n hC 0 rfl dX10_span_13 rfl ?_
    refine z_iload_n hC 2 rfl dX10_span_14 rfl ?_
    refine z_callVi hC zlX10_85 (k_X10_isPlatform l D tc ad hI (zup M 0 0 0 0) b hW1 (by omega)) (tmM_0 ad tc _) rfl (okM_0 (by omega)) rfl rfl (Nat.le_of_ble_eq_true rfl) ⟨by decide, by decide⟩ ⟨by decide, by decide⟩ dX10_span_15 ?_
    refine z_conv (St2 := [iv (if 0 ≤ b ∧ b ≤ (M 0 0 1) - 1 then 1 else 0)]) ?_ rfl rfl (by simp [zup])
    refine z_if_ne_b hC 27 dX10_span_18 (by decide) (fun c18 => ?_) (fun c18 => ?_)
    · skip
      refine z_aload_n hC 0 rfl dX10_span_27 rfl ?_
      refine z_getR hC zfX10_16 (tmM_0 ad tc _) (okM_0 (by omega)) rfl dX10_span_28 ?_
      refine z_iload_n hC 2 rfl dX10_span_31 rfl ?_
      have hq1 : 0 ≤ M 3 0 ((b).toNat) ∧ M 3 0 ((b).toNat) ≤ 60 := hW.1 3 0 ((b).toNat)
      refine z_iaload hC 0 ((b).toNat) (tmM_3 ad tc _) (tysM_0 tc) (okM_3 (by omega)) (by omega) (by omega) (by decide) (x := M 3 0 ((b).toNat)) (by simp [zup]) dX10_span_32 ?_
      refine z_aload_n hC 0 rfl dX10_span_33 rfl ?_
      refine z_getR hC zfX10_16 (tmM_0 ad tc _) (okM_0 (by omega)) rfl dX10_span_34 ?_
      refine z_iload_n hC 1 rfl dX10_span_37 rfl ?_
      have hq2 : 0 ≤ M 3 0 ((t).toNat) ∧ M 3 0 ((t).toNat) ≤ 60 := hW.1 3 0 ((t).toNat)
      refine z_iaload hC 0 ((t).toNat) (tmM_3 ad tc _) (tysM_0 tc) (okM_3 (by omega)) (by omega) (by omega) (by decide) (x := M 3 0 ((t).toNat)) (by simp [zup]) dX10_span_38 ?_
      refine z_icmp_ge hC 64 dX10_span_39 (by decide) (by omega) (by omega) (fun c39 => ?_) (fun c39 => ?_)
      · skip
        refine z_aload_n hC 0 rfl dX10_span_64 rfl ?_
        refine z_iconst hC dX10_span_65 ?_
        refine z_callVi hC zlX10_82 (k_X10_no l D tc ad hI (zup M 0 0 0 0) 2 ) (tmM_0 ad tc _) rfl (okM_0 (by omega)) rfl rfl (Nat.le_of_ble_eq_true rfl) ⟨by decide, by decide⟩ ⟨by decide, by decide⟩ dX10_span_66 ?_
        exact z_iret hC hret hlk rfl (by simp only [spanR, kSpanM]; (repeat' split) <;> first | rfl | omega) (by simp only [spanM, thM, kSpanM]; (repeat' split) <;> first | rfl | omega) dX10_span_69
      · skip
        refine z_iload_n hC 3 rfl dX10_span_42 rfl ?_
        refine z_bipush hC dX10_span_43 (by decide) ?_
        refine z_sipush hC dX10_span_45 (by decide) ?_
        refine z_callSi hC zlX10_59 (k_X10_isIn l D tc ad hI (zup M 0 0 0 0) mo 20 150 (by omega) (by omega) (by omega)) rfl rfl (Nat.le_of_ble_eq_true rfl) ⟨by decide, by decide⟩ ⟨by decide, by decide⟩ dX10_span_48 ?_
        refine z_if_eq_b hC 64 dX10_span_51 (by decide) (fun c51 => ?_) (fun c51 => ?_)
        · skip
          refine z_aload_n hC 0 rfl dX10_span_64 rfl ?_
          refine z_iconst hC dX10_span_65 ?_
          refine z_callVi hC zlX10_82 (k_X10_no l D tc ad hI (zup M 0 0 0 0) 2 ) (tmM_0 ad tc _) rfl (okM_0 (by omega)) rfl rfl (Nat.le_of_ble_eq_true rfl) ⟨by decide, by decide⟩ ⟨by decide, by decide⟩ dX10_span_66 ?_
          exact z_iret hC hret hlk rfl (by simp only [spanR, kSpanM]; (repeat' split) <;> first | rfl | omega) (by simp only [spanM, thM, kSpanM]; (repeat' split) <;> first | rfl | omega) dX10_span_69
        · skip
          refine z_iload hC 4 rfl dX10_span_54 ?_
          refine z_iconst hC dX10_span_56 ?_
          refine z_iconst hC dX10_span_57 ?_
          refine z_callSi hC zlX10_59 (k_X10_isIn l D tc ad hI (zup M 0 0 0 0) tr 1 3 (by omega) (by omega) (by omega)) rfl rfl (Nat.le_of_ble_eq_true rfl) ⟨by decide, by decide⟩ ⟨by decide, by decide⟩ dX10_span_58 ?_
          refine z_if_ne_b hC 70 dX10_span_61 (by decide) (fun c61 => ?_) (fun c61 => ?_)
          · skip
            refine z_aload_n hC 0 rfl dX10_span_70 rfl ?_
            have hq3 : 0 ≤ M 0 0 5 ∧ M 0 0 5 ≤ 12 := hW.1 0 0 5
            refine z_getI hC zfX10_63 (tmM_0 ad tc _) (okM_0 (by omega)) rfl (x := M 0 0 5) (by simp [zup]) dX10_span_71 ?_
            refine z_bipush hC dX10_span_74 (by decide) ?_
            refine z_icmp_ne hC 85 dX10_span_76 (by decide) (by omega) (by omega) (fun c76 => ?_) (fun c76 => ?_)
            · skip
              refine z_aload_n hC 0 rfl dX10_span_85 rfl ?_
              refine z_getR hC zfX10_19 (tmM_0 ad tc _) (okM_0 (by omega)) rfl dX10_span_86 ?_
              refine z_aload_n hC 0 rfl dX10_span_89 rfl ?_
              have hq4 : 0 ≤ M 0 0 5 ∧ M 0 0 5 ≤ 12 := hW.1 0 0 5
              refine z_getI hC zfX10_63 (tmM_0 ad tc _) (okM_0 (by omega)) rfl (x := M 0 0 5) (by simp [zup]) dX10_span_90 ?_
              refine z_iload_n hC 1 rfl dX10_span_93 rfl ?_
              refine z_iastore hC 0 ((M 0 0 5).toNat) (tmM_4 ad tc _) (tysM_0 tc) (okM_4 (by omega)) (by omega) (by omega) (by decide) dX10_span_94 ?_
              refine z_aload_n hC 0 rfl dX10_span_95 rfl ?_
              refine z_getR hC zfX10_22 (tmM_0 ad tc _) (okM_0 (by omega)) rfl dX10_span_96 ?_
              refine z_aload_n hC 0 rfl dX10_span_99 rfl ?_
              have hq5 : 0 ≤ M 0 0 5 ∧ M 0 0 5 ≤ 12 := hW.1 0 0 5
              refine z_getI hC zfX10_63 (tmM_0 ad tc _) (okM_0 (by omega)) rfl (x := M 0 0 5) (by simp [zup]) dX10_span_100 ?_
              refine z_iload_n hC 2 rfl dX10_span_103 rfl ?_
              refine z_iastore hC 0 ((M 0 0 5).toNat) (tmM_5 ad tc _) (tysM_0 tc) (okM_5 (by omega)) (by omega) (by omega) (by decide) dX10_span_104 ?_
              refine z_aload_n hC 0 rfl dX10_span_105 rfl ?_
              refine z_getR hC zfX10_25 (tmM_0 ad tc _) (okM_0 (by omega)) rfl dX10_span_106 ?_
              refine z_aload_n hC 0 rfl dX10_span_109 rfl ?_
              have hq6 : 0 ≤ M 0 0 5 ∧ M 0 0 5 ≤ 12 := hW.1 0 0 5
              refine z_getI hC zfX10_63 (tmM_0 ad tc _) (okM_0 (by omega)) rfl (x := M 0 0 5) (by simp [zup]) dX10_span_110 ?_
              refine z_iload_n hC 3 rfl dX10_span_113 rfl ?_
              refine z_iastore hC 0 ((M 0 0 5).toNat) (tmM_6 ad tc _) (tysM_0 tc) (okM_6 (by omega)) (by omega) (by omega) (by decide) dX10_span_114 ?_
              refine z_aload_n hC 0 rfl dX10_span_115 rfl ?_
              refine z_getR hC zfX10_45 (tmM_0 ad tc _) (okM_0 (by omega)) rfl dX10_span_116 ?_
              refine z_getRN hC zfX10_89 (tmM_11 ad tc _) (okM_11 (by omega)) rfl dX10_span_119 ?_
              refine z_aload_n hC 0 rfl dX10_span_122 rfl ?_
              have hq7 : 0 ≤ M 0 0 5 ∧ M 0 0 5 ≤ 12 := hW.1 0 0 5
              refine z_getI hC zfX10_63 (tmM_0 ad tc _) (okM_0 (by omega)) rfl (x := M 0 0 5) (by simp [zup]) dX10_span_123 ?_
              refine z_iload hC 4 rfl dX10_span_126 ?_
              refine z_iastore hC 0 ((M 0 0 5).toNat) (tmM_12 ad tc _) (tysM_0 tc) (okM_12 (by omega)) (by omega) (by omega) (by decide) dX10_span_128 ?_
              refine z_aload_n hC 0 rfl dX10_span_129 rfl ?_
              refine z_dup hC dX10_span_130 rfl ?_
              have hq8 : 0 ≤ M 0 0 5 ∧ M 0 0 5 ≤ 12 := hW.1 0 0 5
              refine z_getI hC zfX10_63 (tmM_0 ad tc _) (okM_0 (by omega)) rfl (x := M 0 0 5) (by simp [zup]) dX10_span_131 ?_
              refine z_iconst hC dX10_span_134 ?_
              refine z_iadd hC dX10_span_135 ?_
              refine z_put hC zgX10_63 (tmM_0 ad tc _) (okM_0 (by omega)) rfl dX10_span_136 ?_
              refine z_aload_n hC 0 rfl dX10_span_139 rfl ?_
              refine z_getI hC zfX10_63 (tmM_0 ad tc _) (okM_0 (by omega)) rfl (x := (M 0 0 5) + 1) (by simp [zup]) dX10_span_140 ?_
              refine z_iconst hC dX10_span_143 ?_
              refine z_isub hC dX10_span_144 ?_
              exact z_iret hC hret hlk rfl (by simp only [spanR, kSpanM]; (repeat' split) <;> first | rfl | omega) (by simp only [spanM, thM, kSpanM]; (repeat' split) <;> first | rfl | omega) dX10_span_145
            · skip
              refine z_aload_n hC 0 rfl dX10_span_79 rfl ?_
              refine z_iconst hC dX10_span_80 ?_
              refine z_callVi hC zlX10_82 (k_X10_no l D tc ad hI (zup M 0 0 0 0) 3 ) (tmM_0 ad tc _) rfl (okM_0 (by omega)) rfl rfl (Nat.le_of_ble_eq_true rfl) ⟨by decide, by decide⟩ ⟨by decide, by decide⟩ dX10_span_81 ?_
              exact z_iret hC hret hlk rfl (by simp only [spanR, kSpanM]; (repeat' split) <;> first | rfl | omega) (by simp only [spanM, thM, kSpanM]; (repeat' split) <;> first | rfl | omega) dX10_span_84
          · skip
            refine z_aload_n hC 0 rfl dX10_span_64 rfl ?_
            refine z_iconst hC dX10_span_65 ?_
            refine z_callVi hC zlX10_82 (k_X10_no l D tc ad hI (zup M 0 0 0 0) 2 ) (tmM_0 ad tc _) rfl (okM_0 (by omega)) rfl rfl (Nat.le_of_ble_eq_true rfl) ⟨by decide, by decide⟩ ⟨by decide, by decide⟩ dX10_span_66 ?_
            exact z_iret hC hret hlk rfl (by simp only [spanR, kSpanM]; (repeat' split) <;> first | rfl | omega) (by simp only [spanM, thM, kSpanM]; (repeat' split) <;> first | rfl | omega) dX10_span_69
    · skip
      refine z_aload_n hC 0 rfl dX10_span_21 rfl ?_
      refine z_iconst hC dX10_span_22 ?_
      refine z_callVi hC zlX10_82 (k_X10_no l D tc ad hI (zup M 0 0 0 0) 1 ) (tmM_0 ad tc _) rfl (okM_0 (by omega)) rfl rfl (Nat.le_of_ble_eq_true rfl) ⟨by decide, by decide⟩ ⟨by decide, by decide⟩ dX10_span_23 ?_
      exact z_iret hC hret hlk rfl (by simp only [spanR, kSpanM]; (repeat' split) <;> first | rfl | omega) (by simp only [spanM, thM, kSpanM]; (repeat' split) <;> first | rfl | omega) dX10_span_26
set_option maxHeartbeats 4000000 in
set_option maxRecDepth 100000 in
theorem k_X10_queue (l : Launch) (D : va_G) (tc : Nat → ClassId) (ad : Nat → Nat → Nat) (hI : zI ad okM) (M : zM) {T U : Int} (n x : Int) (hW : WTM T U M) (hn : -2147483648 ≤ n ∧ n < 2147483648) (hx : -2147483648 ≤ x ∧ x < 2147483648) : zMi l yX10_queue cX10_queue 3 (some .int) 2 D (tysM tc) ad okM (tmM ad tc) [.ref (ad 0 0), iv n, iv x] M (queueFR M n x) (queueFM M n x) 0 0 := by
  have hpc : 0 ≤ M 0 0 1 ∧ M 0 0 1 ≤ 8 := hW.1 0 0 1
  have h18 : 0 ≤ M 18 0 n.toNat ∧ M 18 0 n.toNat ≤ 12 := hW.1 18 0 _
  refine z_met hI (plainFor_of_name (by decide)) (Nat.le_of_ble_eq_true rfl) ?_
  intro p e s m args below meth c hC hret hlk
  refine z_conv (L2 := [(0, .ref (ad 0 0)), (1, iv n), (2, iv x)]) ?_ rfl rfl rfl
  refine z_aload_n hC 0 rfl dX10_queue_0 rfl ?_
  refine z_iconst hC dX10_queue_1 ?_
  refine z_put hC zgX10_52 (tmM_0 ad tc _) (okM_0 (by omega)) rfl dX10_queue_2 ?_
  have hW1 : WTM T U (zup M 0 0 0 0) := hW.thr ⟨by omega, by omega⟩
  refine z_aload_n hC 0 rfl dX10_queue_5 rfl ?_
  refine z_iload_n hC 1 rfl dX10_queue_6 rfl ?_
  refine z_callVi hC zlX10_85 (k_X10_isPlatform l D tc ad hI (zup M 0 0 0 0) n hW1 (by omega)) (tmM_0 ad tc _) rfl (okM_0 (by omega)) rfl rfl (Nat.le_of_ble_eq_true rfl) ⟨by decide, by decide⟩ ⟨by decide, by decide⟩ dX10_queue_7 ?_
  refine z_conv (St2 := [iv (if 0 ≤ n ∧ n ≤ (M 0 0 1) - 1 then 1 else 0)]) ?_ rfl rfl (by simp [zup])
  refine z_if_eq_b hC 49 dX10_queue_10 (by decide) (fun c10 => ?_) (fun c10 => ?_)
  · skip
    refine z_aload_n hC 0 rfl dX10_queue_49 rfl ?_
    refine z_iconst hC dX10_queue_50 ?_
    refine z_callVi hC zlX10_82 (k_X10_no l D tc ad hI (zup M 0 0 0 0) 1 ) (tmM_0 ad tc _) rfl (okM_0 (by omega)) rfl rfl (Nat.le_of_ble_eq_true rfl) ⟨by decide, by decide⟩ ⟨by decide, by decide⟩ dX10_queue_51 ?_
    exact z_iret hC hret hlk rfl (by simp only [queueFR, kQueueM]; (repeat' split) <;> first | rfl | omega) (by simp only [queueFM, thM, kQueueM]; (repeat' split) <;> first | rfl | omega) dX10_queue_54
  · skip
    refine z_iload_n hC 2 rfl dX10_queue_13 rfl ?_
    refine z_iconst hC dX10_queue_14 ?_
    refine z_aload_n hC 0 rfl dX10_queue_15 rfl ?_
    refine z_getR hC zfX10_45 (tmM_0 ad tc _) (okM_0 (by omega)) rfl dX10_queue_16 ?_
    refine z_getRN hC zfX10_101 (tmM_11 ad tc _) (okM_11 (by omega)) rfl dX10_queue_19 ?_
    refine z_iload_n hC 1 rfl dX10_queue_22 rfl ?_
    have hq1 : 0 ≤ M 18 0 ((n).toNat) ∧ M 18 0 ((n).toNat) ≤ 12 := hW.1 18 0 ((n).toNat)
    refine z_iaload hC 0 ((n).toNat) (tmM_18 ad tc _) (tysM_0 tc) (okM_18 (by omega)) (by omega) (by omega) (by decide) (x := M 18 0 ((n).toNat)) (by simp [zup]) dX10_queue_23 ?_
    refine z_iconst hC dX10_queue_24 ?_
    refine z_isub hC dX10_queue_25 ?_
    refine z_callSi hC zlX10_59 (k_X10_isIn l D tc ad hI (zup M 0 0 0 0) x 0 ((M 18 0 ((n).toNat)) - 1) (by omega) (by omega) (by omega)) rfl rfl (Nat.le_of_ble_eq_true rfl) ⟨by decide, by decide⟩ ⟨by decide, by decide⟩ dX10_queue_26 ?_
    refine z_if_eq_b hC 49 dX10_queue_29 (by decide) (fun c29 => ?_) (fun c29 => ?_)
    · skip
      refine z_aload_n hC 0 rfl dX10_queue_49 rfl ?_
      refine z_iconst hC dX10_queue_50 ?_
      refine z_callVi hC zlX10_82 (k_X10_no l D tc ad hI (zup M 0 0 0 0) 1 ) (tmM_0 ad tc _) rfl (okM_0 (by omega)) rfl rfl (Nat.le_of_ble_eq_true rfl) ⟨by decide, by decide⟩ ⟨by decide, by decide⟩ dX10_queue_51 ?_
      exact z_iret hC hret hlk rfl (by simp only [queueFR, kQueueM]; (repeat' split) <;> first | rfl | omega) (by simp only [queueFM, thM, kQueueM]; (repeat' split) <;> first | rfl | omega) dX10_queue_54
    · skip
      refine z_aload_n hC 0 rfl dX10_queue_32 rfl ?_
      refine z_getR hC zfX10_45 (tmM_0 ad tc _) (okM_0 (by omega)) rfl dX10_queue_33 ?_
      refine z_getRN hC zfX10_104 (tmM_11 ad tc _) (okM_11 (by omega)) rfl dX10_queue_36 ?_
      refine z_bipush hC dX10_queue_39 (by decide) ?_
      refine z_iload_n hC 1 rfl dX10_queue_41 rfl ?_
      refine z_imul hC dX10_queue_42 ?_
      refine z_iload_n hC 2 rfl dX10_queue_43 rfl ?_
      refine z_iadd hC dX10_queue_44 ?_
      have hq2 : 0 ≤ M 19 0 (((12 * n) + x).toNat) ∧ M 19 0 (((12 * n) + x).toNat) ≤ 11 := hW.1 19 0 (((12 * n) + x).toNat)
      refine z_iaload hC 0 (((12 * n) + x).toNat) (tmM_19 ad tc _) (tysM_0 tc) (okM_19 (by omega)) (by omega) (by omega) (by decide) (x := M 19 0 (((12 * n) + x).toNat)) (by simp [zup]) dX10_queue_45 ?_
      refine z_goto hC 54 dX10_queue_46 (by decide) ?_
      exact z_iret hC hret hlk rfl (by simp only [queueFR, kQueueM]; (repeat' split) <;> first | rfl | omega) (by simp only [queueFM, thM, kQueueM]; (repeat' split) <;> first | rfl | omega) dX10_queue_54
set_option maxHeartbeats 4000000 in
set_option maxRecDepth 100000 in
theorem k_X10_build (l : Launch) (D : va_G) (tc : Nat → ClassId) (ad : Nat → Nat → Nat) (hI : zI ad okM) (M : zM) {T U : Int} (x9 y9 h9 : Int) (hW : WTM T U M) (hx : -2147483648 ≤ x9 ∧ x9 < 2147483648) (hy : -2147483648 ≤ y9 ∧ y9 < 2147483648) (hz : -2147483648 ≤ h9 ∧ h9 < 2147483648) : zMi l yX10_build cX10_build 6 (some .int) 1 D (tysM tc) ad okM (tmM ad tc) [.ref (ad 0 0), iv x9, iv y9, iv h9] M (buildR M x9 y9 h9) (buildM M x9 y9 h9) 0 0 := by
  have hpc : 0 ≤ M 0 0 1 ∧ M 0 0 1 ≤ 8 := hW.1 0 0 1
  refine z_met hI (plainFor_of_name (by decide)) (Nat.le_of_ble_eq_true rfl) ?_
  intro p e s m args below meth c hC hret hlk
  refine z_conv (L2 := [(0, .ref (ad 0 0)), (1, iv x9), (2, iv y9), (3, iv h9)]) ?_ rfl rfl rfl
  have hc60 : ∀ (d60 : Nat) (j : Nat) (hj : j ≤ (M 0 0 1).toNat) (hin : (0 ≤ x9 ∧ x9 ≤ 40) ∧ (0 ≤ y9 ∧ y9 ≤ 40) ∧ (0 ≤ h9 ∧ h9 ≤ 60)), (M 0 0 1).toNat - j = d60 → zV p l e (zrm 1 0 0) s m args below meth c (MQ below (zQi D ad okM (tmM ad tc) (buildR M x9 y9 h9) (buildM M x9 y9 h9) (zA ad okM s.heap.size)) args s 0 0 (zA ad okM s.heap.size)) D ad okM (tmM ad tc) (zA ad okM s.heap.size) s.heap 6 0 0 (zup M 0 0 0 0) [(0, .ref (ad 0 0)), (1, iv x9), (2, iv y9), (3, iv h9), (4, iv (bOk M x9 y9 j)), (5, iv ((j : Nat) : Int))] 60 [] := by
    intro d60
    induction d60 using Nat.strongRecOn with
    | _ d60 ih60 =>
      intro j hj hin hd60
      have hob := bOk_bd M x9 y9 j
      have h1j : 0 ≤ M 1 0 j ∧ M 1 0 j ≤ 40 := hW.1 1 0 j
      have h2j : 0 ≤ M 2 0 j ∧ M 2 0 j ≤ 40 := hW.1 2 0 j
      refine z_iload hC 5 rfl dX10_build_60 ?_
      refine z_aload_n hC 0 rfl dX10_build_62 rfl ?_
      have hq1 : 0 ≤ M 0 0 1 ∧ M 0 0 1 ≤ 8 := hW.1 0 0 1
      refine z_getI hC zfX10_56 (tmM_0 ad tc _) (okM_0 (by omega)) rfl (x := M 0 0 1) (by simp [zup]) dX10_build_63 ?_
      refine z_icmp_ge hC 109 dX10_build_66 (by decide) (by omega) (by omega) (fun c66 => ?_) (fun c66 => ?_)
      · skip
        have he : j = (M 0 0 1).toNat := by omega
        subst he
        refine z_iload hC 4 rfl dX10_build_109 ?_
        refine z_if_ne hC 120 dX10_build_111 (by decide) (by omega) (fun c111 => ?_) (fun c111 => ?_)
        · skip
          have hb8 : M 0 0 1 < 8 := bOk_lt (by assumption)
          refine z_aload_n hC 0 rfl dX10_build_120 rfl ?_
          refine z_getR hC zfX10_9 (tmM_0 ad tc _) (okM_0 (by omega)) rfl dX10_build_121 ?_
          refine z_aload_n hC 0 rfl dX10_build_124 rfl ?_
          have hq2 : 0 ≤ M 0 0 1 ∧ M 0 0 1 ≤ 8 := hW.1 0 0 1
          refine z_getI hC zfX10_56 (tmM_0 ad tc _) (okM_0 (by omega)) rfl (x := M 0 0 1) (by simp [zup]) dX10_build_125 ?_
          refine z_iload_n hC 1 rfl dX10_build_128 rfl ?_
          refine z_iastore hC 0 ((M 0 0 1).toNat) (tmM_1 ad tc _) (tysM_0 tc) (okM_1 (by omega)) (by omega) (by omega) (by decide) dX10_build_129 ?_
          refine z_aload_n hC 0 rfl dX10_build_130 rfl ?_
          refine z_getR hC zfX10_13 (tmM_0 ad tc _) (okM_0 (by omega)) rfl dX10_build_131 ?_
          refine z_aload_n hC 0 rfl dX10_build_134 rfl ?_
          have hq3 : 0 ≤ M 0 0 1 ∧ M 0 0 1 ≤ 8 := hW.1 0 0 1
          refine z_getI hC zfX10_56 (tmM_0 ad tc _) (okM_0 (by omega)) rfl (x := M 0 0 1) (by simp [zup]) dX10_build_135 ?_
          refine z_iload_n hC 2 rfl dX10_build_138 rfl ?_
          refine z_iastore hC 0 ((M 0 0 1).toNat) (tmM_2 ad tc _) (tysM_0 tc) (okM_2 (by omega)) (by omega) (by omega) (by decide) dX10_build_139 ?_
          refine z_aload_n hC 0 rfl dX10_build_140 rfl ?_
          refine z_getR hC zfX10_16 (tmM_0 ad tc _) (okM_0 (by omega)) rfl dX10_build_141 ?_
          refine z_aload_n hC 0 rfl dX10_build_144 rfl ?_
          have hq4 : 0 ≤ M 0 0 1 ∧ M 0 0 1 ≤ 8 := hW.1 0 0 1
          refine z_getI hC zfX10_56 (tmM_0 ad tc _) (okM_0 (by omega)) rfl (x := M 0 0 1) (by simp [zup]) dX10_build_145 ?_
          refine z_iload_n hC 3 rfl dX10_build_148 rfl ?_
          refine z_iastore hC 0 ((M 0 0 1).toNat) (tmM_3 ad tc _) (tysM_0 tc) (okM_3 (by omega)) (by omega) (by omega) (by decide) dX10_build_149 ?_
          refine z_aload_n hC 0 rfl dX10_build_150 rfl ?_
          refine z_dup hC dX10_build_151 rfl ?_
          have hq5 : 0 ≤ M 0 0 1 ∧ M 0 0 1 ≤ 8 := hW.1 0 0 1
          refine z_getI hC zfX10_56 (tmM_0 ad tc _) (okM_0 (by omega)) rfl (x := M 0 0 1) (by simp [zup]) dX10_build_152 ?_
          refine z_iconst hC dX10_build_155 ?_
          refine z_iadd hC dX10_build_156 ?_
          refine z_put hC zgX10_56 (tmM_0 ad tc _) (okM_0 (by omega)) rfl dX10_build_157 ?_
          refine z_aload_n hC 0 rfl dX10_build_160 rfl ?_
          refine z_getI hC zfX10_56 (tmM_0 ad tc _) (okM_0 (by omega)) rfl (x := (M 0 0 1) + 1) (by simp [zup]) dX10_build_161 ?_
          refine z_iconst hC dX10_build_164 ?_
          refine z_isub hC dX10_build_165 ?_
          exact z_iret hC hret hlk rfl (by simp only [buildR, kBuildM]; (repeat' split) <;> first | rfl | omega) (by simp only [buildM, thM, kBuildM]; (repeat' split) <;> first | rfl | omega) dX10_build_166
        · skip
          refine z_aload_n hC 0 rfl dX10_build_114 rfl ?_
          refine z_iconst hC dX10_build_115 ?_
          refine z_callVi hC zlX10_82 (k_X10_no l D tc ad hI (zup M 0 0 0 0) 2 ) (tmM_0 ad tc _) rfl (okM_0 (by omega)) rfl rfl (Nat.le_of_ble_eq_true rfl) ⟨by decide, by decide⟩ ⟨by decide, by decide⟩ dX10_build_116 ?_
          exact z_iret hC hret hlk rfl (by simp only [buildR, kBuildM]; (repeat' split) <;> first | rfl | omega) (by simp only [buildM, thM, kBuildM]; (repeat' split) <;> first | rfl | omega) dX10_build_119
      · skip
        refine z_iload hC 4 rfl dX10_build_69 ?_
        refine z_if_eq hC 100 dX10_build_71 (by decide) (by omega) (fun c71 => ?_) (fun c71 => ?_)
        · skip
          refine z_iconst hC dX10_build_100 ?_
          refine z_istore hC (L' := [(4, iv 0), (0, .ref (ad 0 0)), (1, iv x9), (2, iv y9), (3, iv h9), (5, iv ((j : Nat) : Int))]) dX10_build_101 (by decide) rfl ?_
          refine z_iinc hC 5 (L' := [(5, iv (((j : Nat) : Int) + 1)), (4, iv 0), (0, .ref (ad 0 0)), (1, iv x9), (2, iv y9), (3, iv h9)]) dX10_build_103 rfl (by decide) rfl ?_
          refine z_goto hC 60 dX10_build_106 (by decide) ?_
          refine z_perm [2, 3, 4, 5, 1, 0] (L' := [(0, .ref (ad 0 0)), (1, iv x9), (2, iv y9), (3, iv h9), (4, iv 0), (5, iv (((j : Nat) : Int) + 1))]) rfl ?_
          exact z_conv (ih60 _ (by omega) (j + 1) (by omega) hin rfl) (by rfl) (by simp only [bOk]; first | (rw [if_pos ⟨by omega, by omega⟩]; try rfl; done) | (rw [if_neg (by omega)]; try rfl; done)) (by rfl)
        · skip
          refine z_aload_n hC 0 rfl dX10_build_74 rfl ?_
          refine z_getR hC zfX10_9 (tmM_0 ad tc _) (okM_0 (by omega)) rfl dX10_build_75 ?_
          refine z_iload hC 5 rfl dX10_build_78 ?_
          have hq6 : 0 ≤ M 1 0 j ∧ M 1 0 j ≤ 40 := hW.1 1 0 j
          refine z_iaload hC 0 (j) (tmM_1 ad tc _) (tysM_0 tc) (okM_1 (by omega)) (rfl) (by omega) (by decide) (x := M 1 0 j) (by simp [zup]) dX10_build_80 ?_
          refine z_iload_n hC 1 rfl dX10_build_81 rfl ?_
          refine z_icmp_ne hC 96 dX10_build_82 (by decide) (by omega) (by omega) (fun c82 => ?_) (fun c82 => ?_)
          · skip
            refine z_iconst hC dX10_build_96 ?_
            refine z_goto hC 101 dX10_build_97 (by decide) ?_
            refine z_istore hC (L' := [(4, iv 1), (0, .ref (ad 0 0)), (1, iv x9), (2, iv y9), (3, iv h9), (5, iv ((j : Nat) : Int))]) dX10_build_101 (by decide) rfl ?_
            refine z_iinc hC 5 (L' := [(5, iv (((j : Nat) : Int) + 1)), (4, iv 1), (0, .ref (ad 0 0)), (1, iv x9), (2, iv y9), (3, iv h9)]) dX10_build_103 rfl (by decide) rfl ?_
            refine z_goto hC 60 dX10_build_106 (by decide) ?_
            refine z_perm [2, 3, 4, 5, 1, 0] (L' := [(0, .ref (ad 0 0)), (1, iv x9), (2, iv y9), (3, iv h9), (4, iv 1), (5, iv (((j : Nat) : Int) + 1))]) rfl ?_
            exact z_conv (ih60 _ (by omega) (j + 1) (by omega) hin rfl) (by rfl) (by simp only [bOk]; first | (rw [if_pos ⟨by omega, by omega⟩]; try rfl; done) | (rw [if_neg (by omega)]; try rfl; done)) (by rfl)
          · skip
            refine z_aload_n hC 0 rfl dX10_build_85 rfl ?_
            refine z_getR hC zfX10_13 (tmM_0 ad tc _) (okM_0 (by omega)) rfl dX10_build_86 ?_
            refine z_iload hC 5 rfl dX10_build_89 ?_
            have hq7 : 0 ≤ M 2 0 j ∧ M 2 0 j ≤ 40 := hW.1 2 0 j
            refine z_iaload hC 0 (j) (tmM_2 ad tc _) (tysM_0 tc) (okM_2 (by omega)) (rfl) (by omega) (by decide) (x := M 2 0 j) (by simp [zup]) dX10_build_91 ?_
            refine z_iload_n hC 2 rfl dX10_build_92 rfl ?_
            refine z_icmp_eq hC 100 dX10_build_93 (by decide) (by omega) (by omega) (fun c93 => ?_) (fun c93 => ?_)
            · skip
              refine z_iconst hC dX10_build_100 ?_
              refine z_istore hC (L' := [(4, iv 0), (0, .ref (ad 0 0)), (1, iv x9), (2, iv y9), (3, iv h9), (5, iv ((j : Nat) : Int))]) dX10_build_101 (by decide) rfl ?_
              refine z_iinc hC 5 (L' := [(5, iv (((j : Nat) : Int) + 1)), (4, iv 0), (0, .ref (ad 0 0)), (1, iv x9), (2, iv y9), (3, iv h9)]) dX10_build_103 rfl (by decide) rfl ?_
              refine z_goto hC 60 dX10_build_106 (by decide) ?_
              refine z_perm [2, 3, 4, 5, 1, 0] (L' := [(0, .ref (ad 0 0)), (1, iv x9), (2, iv y9), (3, iv h9), (4, iv 0), (5, iv (((j : Nat) : Int) + 1))]) rfl ?_
              exact z_conv (ih60 _ (by omega) (j + 1) (by omega) hin rfl) (by rfl) (by simp only [bOk]; first | (rw [if_pos ⟨by omega, by omega⟩]; try rfl; done) | (rw [if_neg (by omega)]; try rfl; done)) (by rfl)
            · skip
              refine z_iconst hC dX10_build_96 ?_
              refine z_goto hC 101 dX10_build_97 (by decide) ?_
              refine z_istore hC (L' := [(4, iv 1), (0, .ref (ad 0 0)), (1, iv x9), (2, iv y9), (3, iv h9), (5, iv ((j : Nat) : Int))]) dX10_build_101 (by decide) rfl ?_
              refine z_iinc hC 5 (L' := [(5, iv (((j : Nat) : Int) + 1)), (4, iv 1), (0, .ref (ad 0 0)), (1, iv x9), (2, iv y9), (3, iv h9)]) dX10_build_103 rfl (by decide) rfl ?_
              refine z_goto hC 60 dX10_build_106 (by decide) ?_
              refine z_perm [2, 3, 4, 5, 1, 0] (L' := [(0, .ref (ad 0 0)), (1, iv x9), (2, iv y9), (3, iv h9), (4, iv 1), (5, iv (((j : Nat) : Int) + 1))]) rfl ?_
              exact z_conv (ih60 _ (by omega) (j + 1) (by omega) hin rfl) (by rfl) (by simp only [bOk]; first | (rw [if_pos ⟨by omega, by omega⟩]; try rfl; done) | (rw [if_neg (by omega)]; try rfl; done)) (by rfl)
  refine z_aload_n hC 0 rfl dX10_build_0 rfl ?_
  refine z_iconst hC dX10_build_1 ?_
  refine z_put hC zgX10_52 (tmM_0 ad tc _) (okM_0 (by omega)) rfl dX10_build_2 ?_
  refine z_iload_n hC 1 rfl dX10_build_5 rfl ?_
  refine z_iconst hC dX10_build_6 ?_
  refine z_bipush hC dX10_build_7 (by decide) ?_
  refine z_callSi hC zlX10_59 (k_X10_isIn l D tc ad hI (zup M 0 0 0 0) x9 0 40 (by omega) (by omega) (by omega)) rfl rfl (Nat.le_of_ble_eq_true rfl) ⟨by decide, by decide⟩ ⟨by decide, by decide⟩ dX10_build_9 ?_
  refine z_if_eq_b hC 35 dX10_build_12 (by decide) (fun c12 => ?_) (fun c12 => ?_)
  · skip
    refine z_aload_n hC 0 rfl dX10_build_35 rfl ?_
    refine z_iconst hC dX10_build_36 ?_
    refine z_callVi hC zlX10_82 (k_X10_no l D tc ad hI (zup M 0 0 0 0) 1 ) (tmM_0 ad tc _) rfl (okM_0 (by omega)) rfl rfl (Nat.le_of_ble_eq_true rfl) ⟨by decide, by decide⟩ ⟨by decide, by decide⟩ dX10_build_37 ?_
    exact z_iret hC hret hlk rfl (by simp only [buildR, kBuildM]; (repeat' split) <;> first | rfl | omega) (by simp only [buildM, thM, kBuildM]; (repeat' split) <;> first | rfl | omega) dX10_build_40
  · skip
    refine z_iload_n hC 2 rfl dX10_build_15 rfl ?_
    refine z_iconst hC dX10_build_16 ?_
    refine z_bipush hC dX10_build_17 (by decide) ?_
    refine z_callSi hC zlX10_59 (k_X10_isIn l D tc ad hI (zup M 0 0 0 0) y9 0 40 (by omega) (by omega) (by omega)) rfl rfl (Nat.le_of_ble_eq_true rfl) ⟨by decide, by decide⟩ ⟨by decide, by decide⟩ dX10_build_19 ?_
    refine z_if_eq_b hC 35 dX10_build_22 (by decide) (fun c22 => ?_) (fun c22 => ?_)
    · skip
      refine z_aload_n hC 0 rfl dX10_build_35 rfl ?_
      refine z_iconst hC dX10_build_36 ?_
      refine z_callVi hC zlX10_82 (k_X10_no l D tc ad hI (zup M 0 0 0 0) 1 ) (tmM_0 ad tc _) rfl (okM_0 (by omega)) rfl rfl (Nat.le_of_ble_eq_true rfl) ⟨by decide, by decide⟩ ⟨by decide, by decide⟩ dX10_build_37 ?_
      exact z_iret hC hret hlk rfl (by simp only [buildR, kBuildM]; (repeat' split) <;> first | rfl | omega) (by simp only [buildM, thM, kBuildM]; (repeat' split) <;> first | rfl | omega) dX10_build_40
    · skip
      refine z_iload_n hC 3 rfl dX10_build_25 rfl ?_
      refine z_iconst hC dX10_build_26 ?_
      refine z_bipush hC dX10_build_27 (by decide) ?_
      refine z_callSi hC zlX10_59 (k_X10_isIn l D tc ad hI (zup M 0 0 0 0) h9 0 60 (by omega) (by omega) (by omega)) rfl rfl (Nat.le_of_ble_eq_true rfl) ⟨by decide, by decide⟩ ⟨by decide, by decide⟩ dX10_build_29 ?_
      refine z_if_ne_b hC 41 dX10_build_32 (by decide) (fun c32 => ?_) (fun c32 => ?_)
      · skip
        refine z_aload_n hC 0 rfl dX10_build_41 rfl ?_
        have hq8 : 0 ≤ M 0 0 1 ∧ M 0 0 1 ≤ 8 := hW.1 0 0 1
        refine z_getI hC zfX10_56 (tmM_0 ad tc _) (okM_0 (by omega)) rfl (x := M 0 0 1) (by simp [zup]) dX10_build_42 ?_
        refine z_bipush hC dX10_build_45 (by decide) ?_
        refine z_icmp_ge hC 54 dX10_build_47 (by decide) (by omega) (by omega) (fun c47 => ?_) (fun c47 => ?_)
        · skip
          refine z_iconst hC dX10_build_54 ?_
          refine z_istore hC (L' := [(4, iv 0), (0, .ref (ad 0 0)), (1, iv x9), (2, iv y9), (3, iv h9)]) dX10_build_55 (by decide) rfl ?_
          refine z_iconst hC dX10_build_57 ?_
          refine z_istore hC (L' := [(5, iv 0), (4, iv 0), (0, .ref (ad 0 0)), (1, iv x9), (2, iv y9), (3, iv h9)]) dX10_build_58 (by decide) rfl ?_
          refine z_perm [2, 3, 4, 5, 1, 0] (L' := [(0, .ref (ad 0 0)), (1, iv x9), (2, iv y9), (3, iv h9), (4, iv 0), (5, iv 0)]) rfl ?_
          exact z_conv (hc60 _ 0 (by omega) ⟨by assumption, by assumption, by assumption⟩ rfl) (by rfl) (by simp only [bOk]; first | (rw [if_pos (by assumption)]; try rfl; done) | (rw [if_neg (by omega)]; try rfl; done)) (by rfl)
        · skip
          refine z_iconst hC dX10_build_50 ?_
          refine z_goto hC 55 dX10_build_51 (by decide) ?_
          refine z_istore hC (L' := [(4, iv 1), (0, .ref (ad 0 0)), (1, iv x9), (2, iv y9), (3, iv h9)]) dX10_build_55 (by decide) rfl ?_
          refine z_iconst hC dX10_build_57 ?_
          refine z_istore hC (L' := [(5, iv 0), (4, iv 1), (0, .ref (ad 0 0)), (1, iv x9), (2, iv y9), (3, iv h9)]) dX10_build_58 (by decide) rfl ?_
          refine z_perm [2, 3, 4, 5, 1, 0] (L' := [(0, .ref (ad 0 0)), (1, iv x9), (2, iv y9), (3, iv h9), (4, iv 1), (5, iv 0)]) rfl ?_
          exact z_conv (hc60 _ 0 (by omega) ⟨by assumption, by assumption, by assumption⟩ rfl) (by rfl) (by simp only [bOk]; first | (rw [if_pos (by assumption)]; try rfl; done) | (rw [if_neg (by omega)]; try rfl; done)) (by rfl)
      · skip
        refine z_aload_n hC 0 rfl dX10_build_35 rfl ?_
        refine z_iconst hC dX10_build_36 ?_
        refine z_callVi hC zlX10_82 (k_X10_no l D tc ad hI (zup M 0 0 0 0) 1 ) (tmM_0 ad tc _) rfl (okM_0 (by omega)) rfl rfl (Nat.le_of_ble_eq_true rfl) ⟨by decide, by decide⟩ ⟨by decide, by decide⟩ dX10_build_37 ?_
        exact z_iret hC hret hlk rfl (by simp only [buildR, kBuildM]; (repeat' split) <;> first | rfl | omega) (by simp only [buildM, thM, kBuildM]; (repeat' split) <;> first | rfl | omega) dX10_build_40
