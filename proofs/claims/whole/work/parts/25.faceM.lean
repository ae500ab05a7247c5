set_option maxHeartbeats 4000000 in
set_option maxRecDepth 100000 in
theorem k_X10_setWind (l : Launch) (D : va_G) (tc : Nat → ClassId) (ad : Nat → Nat → Nat) (hI : zI ad okM) (M : zM) {T U : Int} (di w : Int) (hW : WTM T U M) (hd : -2147483648 ≤ di ∧ di < 2147483648) (hw : -2147483648 ≤ w ∧ w < 2147483648) : zMi l yX10_setWind cX10_setWind 4 (some .int) 1 D (tysM tc) ad okM (tmM ad tc) [.ref (ad 0 0), iv di, iv w] M (windR M di w) (windM M di w) 0 0 := by
  refine z_met hI (plainFor_of_name (by decide)) (Nat.le_of_ble_eq_true rfl) ?_
  intro p e s m args below meth c hC hret hlk
  refine z_conv (L2 := [(0, .ref (ad 0 0)), (1, iv di), (2, iv w)]) ?_ rfl rfl rfl
  refine z_aload_n hC 0 rfl dX10_setWind_0 rfl ?_
  refine z_iconst hC dX10_setWind_1 ?_
  refine z_put hC zgX10_52 (tmM_0 ad tc _) (okM_0 (by omega)) rfl dX10_setWind_2 ?_
  refine z_iload_n hC 1 rfl dX10_setWind_5 rfl ?_
  refine z_iconst hC dX10_setWind_6 ?_
  refine z_bipush hC dX10_setWind_7 (by decide) ?_
  refine z_callSi hC zlX10_59 (k_X10_isIn l D tc ad hI (zup M 0 0 0 0) di 0 11 (by omega) (by omega) (by omega)) rfl rfl (Nat.le_of_ble_eq_true rfl) ⟨by decide, by decide⟩ ⟨by decide, by decide⟩ dX10_setWind_9 ?_
  refine z_if_ne_b hC 21 dX10_setWind_12 (by decide) (fun c12 => ?_) (fun c12 => ?_)
  · skip
    refine z_iload_n hC 2 rfl dX10_setWind_21 rfl ?_
    refine z_iconst hC dX10_setWind_22 ?_
    refine z_bipush hC dX10_setWind_23 (by decide) ?_
    refine z_callSi hC zlX10_59 (k_X10_isIn l D tc ad hI (zup M 0 0 0 0) w 0 9 (by omega) (by omega) (by omega)) rfl rfl (Nat.le_of_ble_eq_true rfl) ⟨by decide, by decide⟩ ⟨by decide, by decide⟩ dX10_setWind_25 ?_
    refine z_if_ne_b hC 37 dX10_setWind_28 (by decide) (fun c28 => ?_) (fun c28 => ?_)
    · skip
      refine z_aload_n hC 0 rfl dX10_setWind_37 rfl ?_
      refine z_getR hC zfX10_28 (tmM_0 ad tc _) (okM_0 (by omega)) rfl dX10_setWind_38 ?_
      refine z_iload_n hC 1 rfl dX10_setWind_41 rfl ?_
      have hq1 : 0 ≤ M 7 0 ((di).toNat) ∧ M 7 0 ((di).toNat) ≤ 9 := hW.1 7 0 ((di).toNat)
      refine z_iaload hC 0 ((di).toNat) (tmM_7 ad tc _) (tysM_0 tc) (okM_7 (by omega)) (by omega) (by omega) (by decide) (x := M 7 0 ((di).toNat)) (by simp [zup]) dX10_setWind_42 ?_
      refine z_istore_n hC (L' := [(3, iv (M 7 0 ((di).toNat))), (0, .ref (ad 0 0)), (1, iv di), (2, iv w)]) dX10_setWind_43 rfl (by decide) rfl ?_
      refine z_aload_n hC 1 rfl dX10_setWind_44 rfl ?_
      refine z_getR hC zfX10_28 (tmM_0 ad tc _) (okM_0 (by omega)) rfl dX10_setWind_45 ?_
      refine z_iload_n hC 2 rfl dX10_setWind_48 rfl ?_
      refine z_iload_n hC 3 rfl dX10_setWind_49 rfl ?_
      refine z_iastore hC 0 ((di).toNat) (tmM_7 ad tc _) (tysM_0 tc) (okM_7 (by omega)) (by omega) (by omega) (by decide) dX10_setWind_50 ?_
      refine z_iload_n hC 0 rfl dX10_setWind_51 rfl ?_
      exact z_iret hC hret hlk rfl (by simp only [windR, kWindM]; (repeat' split) <;> first | rfl | omega) (by simp only [windM, thM, kWindM]; (repeat' split) <;> first | rfl | omega) dX10_setWind_52
    · skip
      refine z_aload_n hC 0 rfl dX10_setWind_31 rfl ?_
      refine z_iconst hC dX10_setWind_32 ?_
      refine z_callVi hC zlX10_82 (k_X10_no l D tc ad hI (zup M 0 0 0 0) 2 ) (tmM_0 ad tc _) rfl (okM_0 (by omega)) rfl rfl (Nat.le_of_ble_eq_true rfl) ⟨by decide, by decide⟩ ⟨by decide, by decide⟩ dX10_setWind_33 ?_
      exact z_iret hC hret hlk rfl (by simp only [windR, kWindM]; (repeat' split) <;> first | rfl | omega) (by simp only [windM, thM, kWindM]; (repeat' split) <;> first | rfl | omega) dX10_setWind_36
  · skip
    refine z_aload_n hC 0 rfl dX10_setWind_15 rfl ?_
    refine z_iconst hC dX10_setWind_16 ?_
    refine z_callVi hC zlX10_82 (k_X10_no l D tc ad hI (zup M 0 0 0 0) 1 ) (tmM_0 ad tc _) rfl (okM_0 (by omega)) rfl rfl (Nat.le_of_ble_eq_true rfl) ⟨by decide, by decide⟩ ⟨by decide, by decide⟩ dX10_setWind_17 ?_
    exact z_iret hC hret hlk rfl (by simp only [windR, kWindM]; (repeat' split) <;> first | rfl | omega) (by simp only [windM, thM, kWindM]; (repeat' split) <;> first | rfl | omega) dX10_setWind_20
set_option maxHeartbeats 4000000 in
set_option maxRecDepth 100000 in
theorem k_X10_ride (l : Launch) (D : va_G) (tc : Nat → ClassId) (ad : Nat → Nat → Nat) (hI : zI ad okM) (M : zM) {T U : Int} (q w : Int) (hW : WTM T U M) (hq : -2147483648 ≤ q ∧ q < 2147483648) (hw : -2147483648 ≤ w ∧ w < 2147483648) : zMi l yX10_ride cX10_ride 3 (some .int) 3 D (tysM tc) ad okM (tmM ad tc) [.ref (ad 0 0), iv q, iv w] M (rideFR M q w) (rideFM M q w) 0 0 := by
  have hlc : 0 ≤ M 0 0 5 ∧ M 0 0 5 ≤ 12 := hW.1 0 0 5
  refine z_met hI (plainFor_of_name (by decide)) (Nat.le_of_ble_eq_true rfl) ?_
  intro p e s m args below meth c hC hret hlk
  refine z_conv (L2 := [(0, .ref (ad 0 0)), (1, iv q), (2, iv w)]) ?_ rfl rfl rfl
  refine z_aload_n hC 0 rfl dX10_ride_0 rfl ?_
  refine z_iconst hC dX10_ride_1 ?_
  refine z_put hC zgX10_52 (tmM_0 ad tc _) (okM_0 (by omega)) rfl dX10_ride_2 ?_
  have hW1 : WTM T U (zup M 0 0 0 0) := hW.thr ⟨by omega, by omega⟩
  refine z_aload_n hC 0 rfl dX10_ride_5 rfl ?_
  refine z_iload_n hC 1 rfl dX10_ride_6 rfl ?_
  refine z_callVi hC zlX10_92 (k_X10_isLine l D tc ad hI (zup M 0 0 0 0) q hW1 (by omega)) (tmM_0 ad tc _) rfl (okM_0 (by omega)) rfl rfl (Nat.le_of_ble_eq_true rfl) ⟨by decide, by decide⟩ ⟨by decide, by decide⟩ dX10_ride_7 ?_
  refine z_conv (St2 := [iv (if 0 ≤ q ∧ q ≤ (M 0 0 5) - 1 then 1 else 0)]) ?_ rfl rfl (by simp [zup])
  refine z_if_ne_b hC 19 dX10_ride_10 (by decide) (fun c10 => ?_) (fun c10 => ?_)
  · skip
    refine z_iload_n hC 2 rfl dX10_ride_19 rfl ?_
    refine z_bipush hC dX10_ride_20 (by decide) ?_
    refine z_bipush hC dX10_ride_22 (by decide) ?_
    refine z_callSi hC zlX10_59 (k_X10_isIn l D tc ad hI (zup M 0 0 0 0) w 20 120 (by omega) (by omega) (by omega)) rfl rfl (Nat.le_of_ble_eq_true rfl) ⟨by decide, by decide⟩ ⟨by decide, by decide⟩ dX10_ride_24 ?_
    refine z_if_ne_b hC 36 dX10_ride_27 (by decide) (fun c27 => ?_) (fun c27 => ?_)
    · skip
      refine z_aload_n hC 0 rfl dX10_ride_36 rfl ?_
      refine z_getR hC zfX10_25 (tmM_0 ad tc _) (okM_0 (by omega)) rfl dX10_ride_37 ?_
      refine z_iload_n hC 1 rfl dX10_ride_40 rfl ?_
      have hq1 : 0 ≤ M 6 0 ((q).toNat) ∧ M 6 0 ((q).toNat) ≤ 150 := hW.1 6 0 ((q).toNat)
      refine z_iaload hC 0 ((q).toNat) (tmM_6 ad tc _) (tysM_0 tc) (okM_6 (by omega)) (by omega) (by omega) (by decide) (x := M 6 0 ((q).toNat)) (by simp [zup]) dX10_ride_41 ?_
      refine z_iload_n hC 2 rfl dX10_ride_42 rfl ?_
      refine z_icmp_ge hC 50 dX10_ride_43 (by decide) (by omega) (by omega) (fun c43 => ?_) (fun c43 => ?_)
      · skip
        refine z_aload_n hC 0 rfl dX10_ride_50 rfl ?_
        refine z_iload_n hC 1 rfl dX10_ride_51 rfl ?_
        refine z_iload_n hC 2 rfl dX10_ride_52 rfl ?_
        refine z_callVi hC zlX10_133 (k_X10_rideOf l D tc ad hI (zup M 0 0 0 0) q w hW1 (by have y0 : (zup M 0 0 0 0) 0 0 5 = M 0 0 5 := (by simp [zup]); have z1 : 0 ≤ M 0 0 5 ∧ M 0 0 5 ≤ 12 := hW.1 0 0 5; omega) (by omega)) (tmM_0 ad tc _) rfl (okM_0 (by omega)) rfl rfl (Nat.le_of_ble_eq_true rfl) ⟨by decide, by decide⟩ ⟨by decide, by decide⟩ dX10_ride_53 ?_
        exact z_iret hC hret hlk rfl (by simp only [rideFR, kRideM]; (repeat' split) <;> first | rfl | omega) (by simp only [rideFM, thM, kRideM]; (repeat' split) <;> first | rfl | omega) dX10_ride_56
      · skip
        refine z_iconst hC dX10_ride_46 ?_
        refine z_goto hC 56 dX10_ride_47 (by decide) ?_
        exact z_iret hC hret hlk rfl (by simp only [rideFR, kRideM]; (repeat' split) <;> first | rfl | omega) (by simp only [rideFM, thM, kRideM]; (repeat' split) <;> first | rfl | omega) dX10_ride_56
    · skip
      refine z_aload_n hC 0 rfl dX10_ride_30 rfl ?_
      refine z_iconst hC dX10_ride_31 ?_
      refine z_callVi hC zlX10_82 (k_X10_no l D tc ad hI (zup M 0 0 0 0) 2 ) (tmM_0 ad tc _) rfl (okM_0 (by omega)) rfl rfl (Nat.le_of_ble_eq_true rfl) ⟨by decide, by decide⟩ ⟨by decide, by decide⟩ dX10_ride_32 ?_
      exact z_iret hC hret hlk rfl (by simp only [rideFR, kRideM]; (repeat' split) <;> first | rfl | omega) (by simp only [rideFM, thM, kRideM]; (repeat' split) <;> first | rfl | omega) dX10_ride_35
  · skip
    refine z_aload_n hC 0 rfl dX10_ride_13 rfl ?_
    refine z_iconst hC dX10_ride_14 ?_
    refine z_callVi hC zlX10_82 (k_X10_no l D tc ad hI (zup M 0 0 0 0) 1 ) (tmM_0 ad tc _) rfl (okM_0 (by omega)) rfl rfl (Nat.le_of_ble_eq_true rfl) ⟨by decide, by decide⟩ ⟨by decide, by decide⟩ dX10_ride_15 ?_
    exact z_iret hC hret hlk rfl (by simp only [rideFR, kRideM]; (repeat' split) <;> first | rfl | omega) (by simp only [rideFM, thM, kRideM]; (repeat' split) <;> first | rfl | omega) dX10_ride_18
set_option maxHeartbeats 4000000 in
set_option maxRecDepth 100000 in
theorem k_X10_span (l : Launch) (D : va_G) (tc : Nat → ClassId) (ad : Nat → Nat → Nat) (hI : zI ad okM) (M : zM) {T U : Int} (t b mo tr : Int) (hW : WTM T U M) (ht : -2147483648 ≤ t ∧ t < 2147483648) (hb : -2147483648 ≤ b ∧ b < 2147483648) (hm : -2147483648 ≤ mo ∧ mo < 2147483648) (hr : -2147483648 ≤ tr ∧ tr < 2147483648) : zMi l yX10_span cX10_span 5 (some .int) 2 D (tysM tc) ad okM (tmM ad tc) [.ref (ad 0 0), iv t, iv b, iv mo, iv tr] M (spanR M t b mo tr) (spanM M t b mo tr) 0 0 := by
  have hlc : 0 ≤ M 0 0 5 ∧ M 0 0 5 ≤ 12 := hW.1 0 0 5
  have hpc : 0 ≤ M 0 0 1 ∧ M 0 0 1 ≤ 8 := hW.1 0 0 1
  refine z_met hI (plainFor_of_name (by decide)) (Nat.le_of_ble_eq_true rfl) ?_
  intro p e s m args below meth c hC hret hlk
  refine z_conv (L2 := [(0, .ref (ad 0 0)), (1, iv t), (2, iv b), (3, iv mo), (4, iv tr)]) ?_ rfl rfl rfl
  refine z_aload_n hC 0 rfl dX10_span_0 rfl ?_
  refine z_iconst hC dX10_span_1 ?_
  refine z_put hC zgX10_52 (tmM_0 ad tc _) (okM_0 (by omega)) rfl dX10_span_2 ?_
  have hW1 : WTM T U (zup M 0 0 0 0) := hW.thr ⟨by omega, by omega⟩
  refine z_aload_n hC 0 rfl dX10_span_5 rfl ?_
  refine z_iload_n hC 1 rfl dX10_span_6 rfl ?_
  refine z_callVi hC zlX10_85 (k_X10_isPlatform l D tc ad hI (zup M 0 0 0 0) t hW1 (by omega)) (tmM_0 ad tc _) rfl (okM_0 (by omega)) rfl rfl (Nat.le_of_ble_eq_true rfl) ⟨by decide, by decide⟩ ⟨by decide, by decide⟩ dX10_span_7 ?_
  refine z_conv (St2 := [iv (if 0 ≤ t ∧ t ≤ (M 0 0 1) - 1 then 1 else 0)]) ?_ rfl rfl (by simp [zup])
  refine z_if_eq_b hC 21 dX10_span_10 (by decide) (fun c10 => ?_) (fun c10 => ?_)
  · skip
    refine z_aload_n hC 0 rfl dX10_span_21 rfl ?_
    refine z_iconst hC dX10_span_22 ?_
    refine z_callVi hC zlX10_82 (k_X10_no l D tc ad hI (zup M 0 0 0 0) 1 ) (tmM_0 ad tc _) rfl (okM_0 (by omega)) rfl rfl (Nat.le_of_ble_eq_true rfl) ⟨by decide, by decide⟩ ⟨by decide, by decide⟩ dX10_span_23 ?_
    exact z_iret hC hret hlk rfl (by simp only [spanR, kSpanM]; (repeat' split) <;> first | rfl | omega) (by simp only [spanM, thM, kSpanM]; (repeat' split) <;> first | rfl | omega) dX10_span_26
  · skip
    refine z_aload_n hC 0 rfl dX10_span_13 rfl ?_
    refine z_iload_n hC 2 rfl dX10_span_14 rfl ?_
    refine z_callVi hC zlX10_85 (k_X10_isPlatform l D tc ad hI (zup M 0 0 0 0) b hW1 (by omega)) (tmM_0 ad tc _) rfl (okM_0 (by omega)) rfl rfl (Nat.le_of_ble_eq_true rfl) ⟨by decide, by decide⟩ ⟨by decide, by decide⟩ dX10_span_15 ?_
    refine z_conv (St2 := [iv (if 0 ≤ b ∧ b ≤ (M 0 0 1) - 1 then 1 else 0)]) ?_ rfl rfl (by simp [zup])
    refine z_if_ne_b hC 27 dX10_span_18 (by decide) (fun c18 => ?_) (fun c18 => ?_)
    · skip
      refine z_aload_n hC 0 rfl dX10_span_27 rfl ?_
      refine z_getR hC zfX10_16 (tmM_0 ad tc _) (okM_0 (by omega)) rfl dX10_span_28 ?_
      refine z_iload_n hC 2 rfl dX10_span_31 rfl ?_
      have hq1 : 0 ≤ M 3 0 ((b).toNat) ∧ M 3 0 ((b).toNat) ≤ 60 := hW.1 3 0 ((b).toNat)
      refine z_iaload hC 0 ((b).toNat) (tmM_3 ad tc _) (tysM_0 tc) (okM_3 (by omega)) (by omega) (by omega) (by decide) (x := M 3 0 ((b).toNat)) (by simp [zup]) dX10_span_32 ?_
      refine z_aload_n hC 0 rfl dX10_span_33 rfl ?_
      refine z_getR hC zfX10_16 (tmM_0 ad tc _) (okM_0 (by omega)) rfl dX10_span_34 ?_
      refine z_iload_n hC 1 rfl dX10_span_37 rfl ?_
      have hq2 : 0 ≤ M 3 0 ((t).toNat) ∧ M 3 0 ((t).toNat) ≤ 60 := hW.1 3 0 ((t).toNat)
      refine z_iaload hC 0 ((t).toNat) (tmM_3 ad tc _) (tysM_0 tc) (okM_3 (by omega)) (by omega) (by omega) (by decide) (x := M 3 0 ((t).toNat)) (by simp [zup]) dX10_span_38 ?_
      refine z_icmp_ge hC 64 dX10_span_39 (by decide) (by omega) (by omega) (fun c39 => ?_) (fun c39 => ?_)
      · skip
        refine z_aload_n hC 0 rfl dX10_span_64 rfl ?_
        refine z_iconst hC dX10_span_65 ?_
        refine z_callVi hC zlX10_82 (k_X10_no l D tc ad hI (zup M 0 0 0 0) 2 ) (tmM_0 ad tc _) rfl (okM_0 (by omega)) rfl rfl (Nat.le_of_ble_eq_true rfl) ⟨by decide, by decide⟩ ⟨by decide, by decide⟩ dX10_span_66 ?_
        exact z_iret hC hret hlk rfl (by simp only [spanR, kSpanM]; (repeat' split) <;> first | rfl | omega) (by simp only [spanM, thM, kSpanM]; (repeat' split) <;> first | rfl | omega) dX10_span_69
      · skip
        refine z_iload_n hC 3 rfl dX10_span_42 rfl ?_
        refine z_bipush hC dX10_span_43 (by decide) ?_
        refine z_sipush hC dX10_span_45 (by decide) ?_
        refine z_callSi hC zlX10_59 (k_X10_isIn l D tc ad hI (zup M 0 0 0 0) mo 20 150 (by omega) (by omega) (by omega)) rfl rfl (Nat.le_of_ble_eq_true rfl) ⟨by decide, by decide⟩ ⟨by decide, by decide⟩ dX10_span_48 ?_
        refine z_if_eq_b hC 64 dX10_span_51 (by decide) (fun c51 => ?_) (fun c51 => ?_)
        · skip
          refine z_aload_n hC 0 rfl dX10_span_64 rfl ?_
          refine z_iconst hC dX10_span_65 ?_
          refine z_callVi hC zlX10_82 (k_X10_no l D tc ad hI (zup M 0 0 0 0) 2 ) (tmM_0 ad tc _) rfl (okM_0 (by omega)) rfl rfl (Nat.le_of_ble_eq_true rfl) ⟨by decide, by decide⟩ ⟨by decide, by decide⟩ dX10_span_66 ?_
          exact z_iret hC hret hlk rfl (by simp only [spanR, kSpanM]; (repeat' split) <;> first | rfl | omega) (by simp only [spanM, thM, kSpanM]; (repeat' split) <;> first | rfl | omega) dX10_span_69
        · skip
          refine z_iload hC 4 rfl dX10_span_54 ?_
          refine z_iconst hC dX10_span_56 ?_
          refine z_iconst hC dX10_span_57 ?_
          refine z_callSi hC zlX10_59 (k_X10_isIn l D tc ad hI (zup M 0 0 0 0) tr 1 3 (by omega) (by omega) (by omega)) rfl rfl (Nat.le_of_ble_eq_true rfl) ⟨by decide, by decide⟩ ⟨by decide, by decide⟩ dX10_span_58 ?_
          refine z_if_ne_b hC 70 dX10_span_61 (by decide) (fun c61 => ?_) (fun c61 => ?_)
          · skip
            refine z_aload_n hC 0 rfl dX10_span_70 rfl ?_
            have hq3 : 0 ≤ M 0 0 5 ∧ M 0 0 5 ≤ 12 := hW.1 0 0 5
            refine z_getI hC zfX10_63 (tmM_0 ad tc _) (okM_0 (by omega)) rfl (x := M 0 0 5) (by simp [zup]) dX10_span_71 ?_
            refine z_bipush hC dX10_span_74 (by decide) ?_
            refine z_icmp_ne hC 85 dX10_span_76 (by decide) (by omega) (by omega) (fun c76 => ?_) (fun c76 => ?_)
            · skip
              refine z_aload_n hC 0 rfl dX10_span_85 rfl ?_
              refine z_getR hC zfX10_19 (tmM_0 ad tc _) (okM_0 (by omega)) rfl dX10_span_86 ?_
              refine z_aload_n hC 0 rfl dX10_span_89 rfl ?_
              have hq4 : 0 ≤ M 0 0 5 ∧ M 0 0 5 ≤ 12 := hW.1 0 0 5
              refine z_getI hC zfX10_63 (tmM_0 ad tc _) (okM_0 (by omega)) rfl (x := M 0 0 5) (by simp [zup]) dX10_span_90 ?_
              refine z_iload_n hC 1 rfl dX10_span_93 rfl ?_
              refine z_iastore hC 0 ((M 0 0 5).toNat) (tmM_4 ad tc _) (tysM_0 tc) (okM_4 (by omega)) (by omega) (by omega) (by decide) dX10_span_94 ?_
              refine z_aload_n hC 0 rfl dX10_span_95 rfl ?_
              refine z_getR hC zfX10_22 (tmM_0 ad tc _) (okM_0 (by omega)) rfl dX10_span_96 ?_
              refine z_aload_n hC 0 rfl dX10_span_99 rfl ?_
              have hq5 : 0 ≤ M 0 0 5 ∧ M 0 0 5 ≤ 12 := hW.1 0 0 5
              refine z_getI hC zfX10_63 (tmM_0 ad tc _) (okM_0 (by omega)) rfl (x := M 0 0 5) (by simp [zup]) dX10_span_100 ?_
              refine z_iload_n hC 2 rfl dX10_span_103 rfl ?_
              refine z_iastore hC 0 ((M 0 0 5).toNat) (tmM_5 ad tc _) (tysM_0 tc) (okM_5 (by omega)) (by omega) (by omega) (by decide) dX10_span_104 ?_
              refine z_aload_n hC 0 rfl dX10_span_105 rfl ?_
              refine z_getR hC zfX10_25 (tmM_0 ad tc _) (okM_0 (by omega)) rfl dX10_span_106 ?_
              refine z_aload_n hC 0 rfl dX10_span_109 rfl ?_
              have hq6 : 0 ≤ M 0 0 5 ∧ M 0 0 5 ≤ 12 := hW.1 0 0 5
              refine z_getI hC zfX10_63 (tmM_0 ad tc _) (okM_0 (by omega)) rfl (x := M 0 0 5) (by simp [zup]) dX10_span_110 ?_
              refine z_iload_n hC 3 rfl dX10_span_113 rfl ?_
              refine z_iastore hC 0 ((M 0 0 5).toNat) (tmM_6 ad tc _) (tysM_0 tc) (okM_6 (by omega)) (by omega) (by omega) (by decide) dX10_span_114 ?_
              refine z_aload_n hC 0 rfl dX10_span_115 rfl ?_
              refine z_getR hC zfX10_45 (tmM_0 ad tc _) (okM_0 (by omega)) rfl dX10_span_116 ?_
              refine z_getRN hC zfX10_89 (tmM_11 ad tc _) (okM_11 (by omega)) rfl dX10_span_119 ?_
              refine z_aload_n hC 0 rfl dX10_span_122 rfl ?_
              have hq7 : 0 ≤ M 0 0 5 ∧ M 0 0 5 ≤ 12 := hW.1 0 0 5
              refine z_getI hC zfX10_63 (tmM_0 ad tc _) (okM_0 (by omega)) rfl (x := M 0 0 5) (by simp [zup]) dX10_span_123 ?_
              refine z_iload hC 4 rfl dX10_span_126 ?_
              refine z_iastore hC 0 ((M 0 0 5).toNat) (tmM_12 ad tc _) (tysM_0 tc) (okM_12 (by omega)) (by omega) (by omega) (by decide) dX10_span_128 ?_
              refine z_aload_n hC 0 rfl dX10_span_129 rfl ?_
              refine z_dup hC dX10_span_130 rfl ?_
              have hq8 : 0 ≤ M 0 0 5 ∧ M 0 0 5 ≤ 12 := hW.1 0 0 5
              refine z_getI hC zfX10_63 (tmM_0 ad tc _) (okM_0 (by omega)) rfl (x := M 0 0 5) (by simp [zup]) dX10_span_131 ?_
              refine z_iconst hC dX10_span_134 ?_
              refine z_iadd hC dX10_span_135 ?_
              refine z_put hC zgX10_63 (tmM_0 ad tc _) (okM_0 (by omega)) rfl dX10_span_136 ?_
              refine z_aload_n hC 0 rfl dX10_span_139 rfl ?_
              refine z_getI hC zfX10_63 (tmM_0 ad tc _) (okM_0 (by omega)) rfl (x := (M 0 0 5) + 1) (by simp [zup]) dX10_span_140 ?_
              refine z_iconst hC dX10_span_143 ?_
              refine z_isub hC dX10_span_144 ?_
              exact z_iret hC hret hlk rfl (by simp only [spanR, kSpanM]; (repeat' split) <;> first | rfl | omega) (by simp only [spanM, thM, kSpanM]; (repeat' split) <;> first | rfl | omega) dX10_span_145
            · skip
              refine z_aload_n hC 0 rfl dX10_span_79 rfl ?_
              refine z_iconst hC dX10_span_80 ?_
              refine z_callVi hC zlX10_82 (k_X10_no l D tc ad hI (zup M 0 0 0 0) 3 ) (tmM_0 ad tc _) rfl (okM_0 (by omega)) rfl rfl (Nat.le_of_ble_eq_true rfl) ⟨by decide, by decide⟩ ⟨by decide, by decide⟩ dX10_span_81 ?_
              exact z_iret hC hret hlk rfl (by simp only [spanR, kSpanM]; (repeat' split) <;> first | rfl | omega) (by simp only [spanM, thM, kSpanM]; (repeat' split) <;> first | rfl | omega) dX10_span_84
          · skip
            refine z_aload_n hC 0 rfl dX10_span_64 rfl ?_
            refine z_iconst hC dX10_span_65 ?_
            refine z_callVi hC zlX10_82 (k_X10_no l D tc ad hI (zup M 0 0 0 0) 2 ) (tmM_0 ad tc _) rfl (okM_0 (by omega)) rfl rfl (Nat.le_of_ble_eq_true rfl) ⟨by decide, by decide⟩ ⟨by decide, by decide⟩ dX10_span_66 ?_
            exact z_iret hC hret hlk rfl (by simp only [spanR, kSpanM]; (repeat' split) <;> first | rfl | omega) (by simp only [spanM, thM, kSpanM]; (repeat' split) <;> first | rfl | omega) dX10_span_69
    · skip
      refine z_aload_n hC 0 rfl dX10_span_21 rfl ?_
      refine z_iconst hC dX10_span_22 ?_
      refine z_callVi hC zlX10_82 (k_X10_no l D tc ad hI (zup M 0 0 0 0) 1 ) (tmM_0 ad tc _) rfl (okM_0 (by omega)) rfl rfl (Nat.le_of_ble_eq_true rfl) ⟨by decide, by decide⟩ ⟨by decide, by decide⟩ dX10_span_23 ?_
      exact z_iret hC hret hlk rfl (by simp only [spanR, kSpanM]; (repeat' split) <;> first | rfl | omega) (by simp only [spanM, thM, kSpanM]; (repeat' split) <;> first | rfl | omega) dX10_span_26
