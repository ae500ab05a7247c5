set_option maxHeartbeats 4000000 in
set_option maxRecDepth 100000 in
theorem k_X10_add (l : Launch) (D : va_G) (tc : Nat → ClassId) (ad : Nat → Nat → Nat) (hI : zI ad okM) (M : zM) {T U : Int} (q : Int) (hW : WTM T U M) (hq : -2147483648 ≤ q ∧ q < 2147483648) : zMi l yX10_add cX10_add 2 (some .int) 2 D (tysM tc) ad okM (tmM ad tc) [.ref (ad 0 0), iv q] M (addR M q) (addM M q) 0 0 := by
  have hlc : 0 ≤ M 0 0 5 ∧ M 0 0 5 ≤ 12 := hW.1 0 0 5
  have h12 : 0 ≤ M 12 0 q.toNat ∧ M 12 0 q.toNat ≤ 3 := hW.1 12 0 _
  refine z_met hI (plainFor_of_name (by decide)) (Nat.le_of_ble_eq_true rfl) ?_
  intro p e s m args below meth c hC hret hlk
  refine z_conv (L2 := [(0, .ref (ad 0 0)), (1, iv q)]) ?_ rfl rfl rfl
  refine z_aload_n hC 0 rfl dX10_add_0 rfl ?_
  refine z_iconst hC dX10_add_1 ?_
  refine z_put hC zgX10_52 (tmM_0 ad tc _) (okM_0 (by omega)) rfl dX10_add_2 ?_
  have hW1 : WTM T U (zup M 0 0 0 0) := hW.thr ⟨by omega, by omega⟩
  refine z_aload_n hC 0 rfl dX10_add_5 rfl ?_
  refine z_iload_n hC 1 rfl dX10_add_6 rfl ?_
  refine z_callVi hC zlX10_92 (k_X10_isLine l D tc ad hI (zup M 0 0 0 0) q hW1 (by omega)) (tmM_0 ad tc _) rfl (okM_0 (by omega)) rfl rfl (Nat.le_of_ble_eq_true rfl) ⟨by decide, by decide⟩ ⟨by decide, by decide⟩ dX10_add_7 ?_
  refine z_conv (St2 := [iv (if 0 ≤ q ∧ q ≤ (M 0 0 5) - 1 then 1 else 0)]) ?_ rfl rfl (by simp [zup])
  refine z_if_ne_b hC 19 dX10_add_10 (by decide) (fun c10 => ?_) (fun c10 => ?_)
  · skip
    refine z_aload_n hC 0 rfl dX10_add_19 rfl ?_
    refine z_getR hC zfX10_45 (tmM_0 ad tc _) (okM_0 (by omega)) rfl dX10_add_20 ?_
    refine z_getRN hC zfX10_89 (tmM_11 ad tc _) (okM_11 (by omega)) rfl dX10_add_23 ?_
    refine z_iload_n hC 1 rfl dX10_add_26 rfl ?_
    have hq1 : 0 ≤ M 12 0 ((q).toNat) ∧ M 12 0 ((q).toNat) ≤ 3 := hW.1 12 0 ((q).toNat)
    refine z_iaload hC 0 ((q).toNat) (tmM_12 ad tc _) (tysM_0 tc) (okM_12 (by omega)) (by omega) (by omega) (by decide) (x := M 12 0 ((q).toNat)) (by simp [zup]) dX10_add_27 ?_
    refine z_iconst hC dX10_add_28 ?_
    refine z_icmp_ne hC 38 dX10_add_29 (by decide) (by omega) (by omega) (fun c29 => ?_) (fun c29 => ?_)
    · skip
      refine z_aload_n hC 0 rfl dX10_add_38 rfl ?_
      refine z_getR hC zfX10_45 (tmM_0 ad tc _) (okM_0 (by omega)) rfl dX10_add_39 ?_
      refine z_getRN hC zfX10_89 (tmM_11 ad tc _) (okM_11 (by omega)) rfl dX10_add_42 ?_
      refine z_iload_n hC 1 rfl dX10_add_45 rfl ?_
      refine z_dup2 hC dX10_add_46 rfl rfl ?_
      have hq2 : 0 ≤ M 12 0 ((q).toNat) ∧ M 12 0 ((q).toNat) ≤ 3 := hW.1 12 0 ((q).toNat)
      refine z_iaload hC 0 ((q).toNat) (tmM_12 ad tc _) (tysM_0 tc) (okM_12 (by omega)) (by omega) (by omega) (by decide) (x := M 12 0 ((q).toNat)) (by simp [zup]) dX10_add_47 ?_
      refine z_iconst hC dX10_add_48 ?_
      refine z_iadd hC dX10_add_49 ?_
      refine z_iastore hC 0 ((q).toNat) (tmM_12 ad tc _) (tysM_0 tc) (okM_12 (by omega)) (by omega) (by omega) (by decide) dX10_add_50 ?_
      refine z_aload_n hC 0 rfl dX10_add_51 rfl ?_
      refine z_getR hC zfX10_45 (tmM_0 ad tc _) (okM_0 (by omega)) rfl dX10_add_52 ?_
      refine z_getRN hC zfX10_89 (tmM_11 ad tc _) (okM_11 (by omega)) rfl dX10_add_55 ?_
      refine z_iload_n hC 1 rfl dX10_add_58 rfl ?_
      refine z_iaload hC 0 ((q).toNat) (tmM_12 ad tc _) (tysM_0 tc) (okM_12 (by omega)) (by omega) (by omega) (by decide) (x := (M 12 0 ((q).toNat)) + 1) (by simp [zup]) dX10_add_59 ?_
      exact z_iret hC hret hlk rfl (by simp only [addR, kAddM]; (repeat' split) <;> first | rfl | omega) (by simp only [addM, thM, kAddM]; (repeat' split) <;> first | rfl | omega) dX10_add_60
    · skip
      refine z_aload_n hC 0 rfl dX10_add_32 rfl ?_
      refine z_iconst hC dX10_add_33 ?_
      refine z_callVi hC zlX10_82 (k_X10_no l D tc ad hI (zup M 0 0 0 0) 2 ) (tmM_0 ad tc _) rfl (okM_0 (by omega)) rfl rfl (Nat.le_of_ble_eq_true rfl) ⟨by decide, by decide⟩ ⟨by decide, by decide⟩ dX10_add_34 ?_
      exact z_iret hC hret hlk rfl (by simp only [addR, kAddM]; (repeat' split) <;> first | rfl | omega) (by simp only [addM, thM, kAddM]; (repeat' split) <;> first | rfl | omega) dX10_add_37
  · skip
    refine z_aload_n hC 0 rfl dX10_add_13 rfl ?_
    refine z_iconst hC dX10_add_14 ?_
    refine z_callVi hC zlX10_82 (k_X10_no l D tc ad hI (zup M 0 0 0 0) 1 ) (tmM_0 ad tc _) rfl (okM_0 (by omega)) rfl rfl (Nat.le_of_ble_eq_true rfl) ⟨by decide, by decide⟩ ⟨by decide, by decide⟩ dX10_add_15 ?_
    exact z_iret hC hret hlk rfl (by simp only [addR, kAddM]; (repeat' split) <;> first | rfl | omega) (by simp only [addM, thM, kAddM]; (repeat' split) <;> first | rfl | omega) dX10_add_18
set_option maxHeartbeats 4000000 in
set_option maxRecDepth 100000 in
theorem k_X10_way (l : Launch) (D : va_G) (tc : Nat → ClassId) (ad : Nat → Nat → Nat) (hI : zI ad okM) (M : zM) {T U : Int} (a to w : Int) (hW : WTM T U M) (ha : -2147483648 ≤ a ∧ a < 2147483648) (ht : -2147483648 ≤ to ∧ to < 2147483648) (hw : -2147483648 ≤ w ∧ w < 2147483648) : zMi l yX10_way cX10_way 4 (some .int) 62 D (tysM tc) ad okM (tmM ad tc) [.ref (ad 0 0), iv a, iv to, iv w] M (wayR M a to w) (wayM M a to w) 0 0 := by
  have hpc : 0 ≤ M 0 0 1 ∧ M 0 0 1 ≤ 8 := hW.1 0 0 1
  refine z_met hI (plainFor_of_name (by decide)) (Nat.le_of_ble_eq_true rfl) ?_
  intro p e s m args below meth c hC hret hlk
  refine z_conv (L2 := [(0, .ref (ad 0 0)), (1, iv a), (2, iv to), (3, iv w)]) ?_ rfl rfl rfl
  refine z_aload_n hC 0 rfl dX10_way_0 rfl ?_
  refine z_iconst hC dX10_way_1 ?_
  refine z_put hC zgX10_52 (tmM_0 ad tc _) (okM_0 (by omega)) rfl dX10_way_2 ?_
  have hW1 : WTM T U (zup M 0 0 0 0) := hW.thr ⟨by omega, by omega⟩
  refine z_aload_n hC 0 rfl dX10_way_5 rfl ?_
  refine z_iload_n hC 1 rfl dX10_way_6 rfl ?_
  refine z_callVi hC zlX10_85 (k_X10_isPlatform l D tc ad hI (zup M 0 0 0 0) a hW1 (by omega)) (tmM_0 ad tc _) rfl (okM_0 (by omega)) rfl rfl (Nat.le_of_ble_eq_true rfl) ⟨by decide, by decide⟩ ⟨by decide, by decide⟩ dX10_way_7 ?_
  refine z_conv (St2 := [iv (if 0 ≤ a ∧ a ≤ (M 0 0 1) - 1 then 1 else 0)]) ?_ rfl rfl (by simp [zup])
  refine z_if_eq_b hC 21 dX10_way_10 (by decide) (fun c10 => ?_) (fun c10 => ?_)
  · skip
    refine z_aload_n hC 0 rfl dX10_way_21 rfl ?_
    refine z_iconst hC dX10_way_22 ?_
    refine z_callVi hC zlX10_82 (k_X10_no l D tc ad hI (zup M 0 0 0 0) 1 ) (tmM_0 ad tc _) rfl (okM_0 (by omega)) rfl rfl (Nat.le_of_ble_eq_true rfl) ⟨by decide, by decide⟩ ⟨by decide, by decide⟩ dX10_way_23 ?_
    exact z_iret hC hret hlk rfl (by simp only [wayR, kWayM]; (repeat' split) <;> first | rfl | omega) (by simp only [wayM, thM, kWayM]; (repeat' split) <;> first | rfl | omega) dX10_way_26
  · skip
    refine z_aload_n hC 0 rfl dX10_way_13 rfl ?_
    refine z_iload_n hC 2 rfl dX10_way_14 rfl ?_
    refine z_callVi hC zlX10_85 (k_X10_isPlatform l D tc ad hI (zup M 0 0 0 0) to hW1 (by omega)) (tmM_0 ad tc _) rfl (okM_0 (by omega)) rfl rfl (Nat.le_of_ble_eq_true rfl) ⟨by decide, by decide⟩ ⟨by decide, by decide⟩ dX10_way_15 ?_
    refine z_conv (St2 := [iv (if 0 ≤ to ∧ to ≤ (M 0 0 1) - 1 then 1 else 0)]) ?_ rfl rfl (by simp [zup])
    refine z_if_ne_b hC 27 dX10_way_18 (by decide) (fun c18 => ?_) (fun c18 => ?_)
    · skip
      refine z_iload_n hC 3 rfl dX10_way_27 rfl ?_
      refine z_bipush hC dX10_way_28 (by decide) ?_
      refine z_bipush hC dX10_way_30 (by decide) ?_
      refine z_callSi hC zlX10_59 (k_X10_isIn l D tc ad hI (zup M 0 0 0 0) w 20 120 (by omega) (by omega) (by omega)) rfl rfl (Nat.le_of_ble_eq_true rfl) ⟨by decide, by decide⟩ ⟨by decide, by decide⟩ dX10_way_32 ?_
      refine z_if_eq_b hC 48 dX10_way_35 (by decide) (fun c35 => ?_) (fun c35 => ?_)
      · skip
        refine z_aload_n hC 0 rfl dX10_way_48 rfl ?_
        refine z_iconst hC dX10_way_49 ?_
        refine z_callVi hC zlX10_82 (k_X10_no l D tc ad hI (zup M 0 0 0 0) 2 ) (tmM_0 ad tc _) rfl (okM_0 (by omega)) rfl rfl (Nat.le_of_ble_eq_true rfl) ⟨by decide, by decide⟩ ⟨by decide, by decide⟩ dX10_way_50 ?_
        exact z_iret hC hret hlk rfl (by simp only [wayR, kWayM]; (repeat' split) <;> first | rfl | omega) (by simp only [wayM, thM, kWayM]; (repeat' split) <;> first | rfl | omega) dX10_way_53
      · skip
        refine z_aload_n hC 0 rfl dX10_way_38 rfl ?_
        refine z_iload_n hC 1 rfl dX10_way_39 rfl ?_
        refine z_iload_n hC 2 rfl dX10_way_40 rfl ?_
        refine z_iload_n hC 3 rfl dX10_way_41 rfl ?_
        refine z_callVi hC zlX10_78 (k_X10_fewR l D tc ad hI (zup M 0 0 0 0) 61 a to w hW1 (by omega) (by omega) (by omega) (by have h3 := hW1.1 3 0 a.toNat; have h4 : 0 ≤ zup M 0 0 0 0 3 0 a.toNat ∧ zup M 0 0 0 0 3 0 a.toNat ≤ 60 := h3; exact ⟨by omega, by omega⟩)) (tmM_0 ad tc _) rfl (okM_0 (by omega)) rfl rfl (Nat.le_of_ble_eq_true rfl) ⟨by decide, by decide⟩ ⟨by decide, by decide⟩ dX10_way_42 ?_
        refine z_goto hC 53 dX10_way_45 (by decide) ?_
        exact z_iret hC hret hlk rfl (by simp only [wayR, kWayM]; (repeat' split) <;> first | rfl | omega) (by simp only [wayM, thM, kWayM]; (repeat' split) <;> first | rfl | omega) dX10_way_53
    · skip
      refine z_aload_n hC 0 rfl dX10_way_21 rfl ?_
      refine z_iconst hC dX10_way_22 ?_
      refine z_callVi hC zlX10_82 (k_X10_no l D tc ad hI (zup M 0 0 0 0) 1 ) (tmM_0 ad tc _) rfl (okM_0 (by omega)) rfl rfl (Nat.le_of_ble_eq_true rfl) ⟨by decide, by decide⟩ ⟨by decide, by decide⟩ dX10_way_23 ?_
      exact z_iret hC hret hlk rfl (by simp only [wayR, kWayM]; (repeat' split) <;> first | rfl | omega) (by simp only [wayM, thM, kWayM]; (repeat' split) <;> first | rfl | omega) dX10_way_26
set_option maxHeartbeats 4000000 in
set_option maxRecDepth 100000 in
theorem k_X10_come (l : Launch) (D : va_G) (tc : Nat → ClassId) (ad : Nat → Nat → Nat) (hI : zI ad okM) (M : zM) {T U : Int} (t g9 w pt : Int) (hW : WTM T U M) (ht : -2147483648 ≤ t ∧ t < 2147483648) (hg : -2147483648 ≤ g9 ∧ g9 < 2147483648) (hw : -2147483648 ≤ w ∧ w < 2147483648) (hp : -2147483648 ≤ pt ∧ pt < 2147483648) (hsz : M 0 0 10 < 12 → M 18 0 t.toNat ≤ 11) : zMi l yX10_come cX10_come 5 (some .int) 2 D (tysM tc) ad okM (tmM ad tc) [.ref (ad 0 0), iv t, iv g9, iv w, iv pt] M (comeFR M t g9 w pt) (comeFM M t g9 w pt) 0 0 := by
  have hpc : 0 ≤ M 0 0 1 ∧ M 0 0 1 ≤ 8 := hW.1 0 0 1
  have hrc : 0 ≤ M 0 0 10 ∧ M 0 0 10 ≤ 12 := hW.1 0 0 10
  refine z_met hI (plainFor_of_name (by decide)) (Nat.le_of_ble_eq_true rfl) ?_
  intro p e s m args below meth c hC hret hlk
  refine z_conv (L2 := [(0, .ref (ad 0 0)), (1, iv t), (2, iv g9), (3, iv w), (4, iv pt)]) ?_ rfl rfl rfl
  refine z_aload_n hC 0 rfl dX10_come_0 rfl ?_
  refine z_iconst hC dX10_come_1 ?_
  refine z_put hC zgX10_52 (tmM_0 ad tc _) (okM_0 (by omega)) rfl dX10_come_2 ?_
  have hW1 : WTM T U (zup M 0 0 0 0) := hW.thr ⟨by omega, by omega⟩
  refine z_aload_n hC 0 rfl dX10_come_5 rfl ?_
  refine z_iload_n hC 1 rfl dX10_come_6 rfl ?_
  refine z_callVi hC zlX10_85 (k_X10_isPlatform l D tc ad hI (zup M 0 0 0 0) t hW1 (by omega)) (tmM_0 ad tc _) rfl (okM_0 (by omega)) rfl rfl (Nat.le_of_ble_eq_true rfl) ⟨by decide, by decide⟩ ⟨by decide, by decide⟩ dX10_come_7 ?_
  refine z_conv (St2 := [iv (if 0 ≤ t ∧ t ≤ (M 0 0 1) - 1 then 1 else 0)]) ?_ rfl rfl (by simp [zup])
  refine z_if_eq_b hC 21 dX10_come_10 (by decide) (fun c10 => ?_) (fun c10 => ?_)
  · skip
    refine z_aload_n hC 0 rfl dX10_come_21 rfl ?_
    refine z_iconst hC dX10_come_22 ?_
    refine z_callVi hC zlX10_82 (k_X10_no l D tc ad hI (zup M 0 0 0 0) 1 ) (tmM_0 ad tc _) rfl (okM_0 (by omega)) rfl rfl (Nat.le_of_ble_eq_true rfl) ⟨by decide, by decide⟩ ⟨by decide, by decide⟩ dX10_come_23 ?_
    exact z_iret hC hret hlk rfl (by simp only [comeFR, kComeM]; (repeat' split) <;> first | rfl | omega) (by simp only [comeFM, comeFM0, thM, kComeM]; (repeat' split) <;> first | rfl | omega) dX10_come_26
  · skip
    refine z_aload_n hC 0 rfl dX10_come_13 rfl ?_
    refine z_iload_n hC 2 rfl dX10_come_14 rfl ?_
    refine z_callVi hC zlX10_85 (k_X10_isPlatform l D tc ad hI (zup M 0 0 0 0) g9 hW1 (by omega)) (tmM_0 ad tc _) rfl (okM_0 (by omega)) rfl rfl (Nat.le_of_ble_eq_true rfl) ⟨by decide, by decide⟩ ⟨by decide, by decide⟩ dX10_come_15 ?_
    refine z_conv (St2 := [iv (if 0 ≤ g9 ∧ g9 ≤ (M 0 0 1) - 1 then 1 else 0)]) ?_ rfl rfl (by simp [zup])
    refine z_if_ne_b hC 27 dX10_come_18 (by decide) (fun c18 => ?_) (fun c18 => ?_)
    · skip
      refine z_iload_n hC 3 rfl dX10_come_27 rfl ?_
      refine z_bipush hC dX10_come_28 (by decide) ?_
      refine z_bipush hC dX10_come_30 (by decide) ?_
      refine z_callSi hC zlX10_59 (k_X10_isIn l D tc ad hI (zup M 0 0 0 0) w 20 120 (by omega) (by omega) (by omega)) rfl rfl (Nat.le_of_ble_eq_true rfl) ⟨by decide, by decide⟩ ⟨by decide, by decide⟩ dX10_come_32 ?_
      refine z_if_eq_b hC 49 dX10_come_35 (by decide) (fun c35 => ?_) (fun c35 => ?_)
      · skip
        refine z_aload_n hC 0 rfl dX10_come_49 rfl ?_
        refine z_iconst hC dX10_come_50 ?_
        refine z_callVi hC zlX10_82 (k_X10_no l D tc ad hI (zup M 0 0 0 0) 2 ) (tmM_0 ad tc _) rfl (okM_0 (by omega)) rfl rfl (Nat.le_of_ble_eq_true rfl) ⟨by decide, by decide⟩ ⟨by decide, by decide⟩ dX10_come_51 ?_
        exact z_iret hC hret hlk rfl (by simp only [comeFR, kComeM]; (repeat' split) <;> first | rfl | omega) (by simp only [comeFM, comeFM0, thM, kComeM]; (repeat' split) <;> first | rfl | omega) dX10_come_54
      · skip
        refine z_iload hC 4 rfl dX10_come_38 ?_
        refine z_iconst hC dX10_come_40 ?_
        refine z_bipush hC dX10_come_41 (by decide) ?_
        refine z_callSi hC zlX10_59 (k_X10_isIn l D tc ad hI (zup M 0 0 0 0) pt 1 60 (by omega) (by omega) (by omega)) rfl rfl (Nat.le_of_ble_eq_true rfl) ⟨by decide, by decide⟩ ⟨by decide, by decide⟩ dX10_come_43 ?_
        refine z_if_ne_b hC 55 dX10_come_46 (by decide) (fun c46 => ?_) (fun c46 => ?_)
        · skip
          refine z_aload_n hC 0 rfl dX10_come_55 rfl ?_
          have hq1 : 0 ≤ M 0 0 10 ∧ M 0 0 10 ≤ 12 := hW.1 0 0 10
          refine z_getI hC zfX10_95 (tmM_0 ad tc _) (okM_0 (by omega)) rfl (x := M 0 0 10) (by simp [zup]) dX10_come_56 ?_
          refine z_bipush hC dX10_come_59 (by decide) ?_
          refine z_icmp_ne hC 70 dX10_come_61 (by decide) (by omega) (by omega) (fun c61 => ?_) (fun c61 => ?_)
          · skip
            refine z_aload_n hC 0 rfl dX10_come_70 rfl ?_
            refine z_getR hC zfX10_31 (tmM_0 ad tc _) (okM_0 (by omega)) rfl dX10_come_71 ?_
            refine z_aload_n hC 0 rfl dX10_come_74 rfl ?_
            have hq2 : 0 ≤ M 0 0 10 ∧ M 0 0 10 ≤ 12 := hW.1 0 0 10
            refine z_getI hC zfX10_95 (tmM_0 ad tc _) (okM_0 (by omega)) rfl (x := M 0 0 10) (by simp [zup]) dX10_come_75 ?_
            refine z_iload_n hC 3 rfl dX10_come_78 rfl ?_
            refine z_iastore hC 0 ((M 0 0 10).toNat) (tmM_8 ad tc _) (tysM_0 tc) (okM_8 (by omega)) (by omega) (by omega) (by decide) dX10_come_79 ?_
            refine z_aload_n hC 0 rfl dX10_come_80 rfl ?_
            refine z_getR hC zfX10_34 (tmM_0 ad tc _) (okM_0 (by omega)) rfl dX10_come_81 ?_
            refine z_aload_n hC 0 rfl dX10_come_84 rfl ?_
            have hq3 : 0 ≤ M 0 0 10 ∧ M 0 0 10 ≤ 12 := hW.1 0 0 10
            refine z_getI hC zfX10_95 (tmM_0 ad tc _) (okM_0 (by omega)) rfl (x := M 0 0 10) (by simp [zup]) dX10_come_85 ?_
            refine z_iload hC 4 rfl dX10_come_88 ?_
            refine z_iastore hC 0 ((M 0 0 10).toNat) (tmM_9 ad tc _) (tysM_0 tc) (okM_9 (by omega)) (by omega) (by omega) (by decide) dX10_come_90 ?_
            refine z_aload_n hC 0 rfl dX10_come_91 rfl ?_
            refine z_getR hC zfX10_37 (tmM_0 ad tc _) (okM_0 (by omega)) rfl dX10_come_92 ?_
            refine z_aload_n hC 0 rfl dX10_come_95 rfl ?_
            have hq4 : 0 ≤ M 0 0 10 ∧ M 0 0 10 ≤ 12 := hW.1 0 0 10
            refine z_getI hC zfX10_95 (tmM_0 ad tc _) (okM_0 (by omega)) rfl (x := M 0 0 10) (by simp [zup]) dX10_come_96 ?_
            refine z_iload_n hC 2 rfl dX10_come_99 rfl ?_
            refine z_iastore hC 0 ((M 0 0 10).toNat) (tmM_10 ad tc _) (tysM_0 tc) (okM_10 (by omega)) (by omega) (by omega) (by decide) dX10_come_100 ?_
            refine z_aload_n hC 0 rfl dX10_come_101 rfl ?_
            refine z_getR hC zfX10_45 (tmM_0 ad tc _) (okM_0 (by omega)) rfl dX10_come_102 ?_
            refine z_getRN hC zfX10_136 (tmM_11 ad tc _) (okM_11 (by omega)) rfl dX10_come_105 ?_
            refine z_aload_n hC 0 rfl dX10_come_108 rfl ?_
            have hq5 : 0 ≤ M 0 0 10 ∧ M 0 0 10 ≤ 12 := hW.1 0 0 10
            refine z_getI hC zfX10_95 (tmM_0 ad tc _) (okM_0 (by omega)) rfl (x := M 0 0 10) (by simp [zup]) dX10_come_109 ?_
            refine z_iconst hC dX10_come_112 ?_
            refine z_iastore hC 0 ((M 0 0 10).toNat) (tmM_24 ad tc _) (tysM_0 tc) (okM_24 (by omega)) (by omega) (by omega) (by decide) dX10_come_113 ?_
            refine z_aload_n hC 0 rfl dX10_come_114 rfl ?_
            refine z_dup hC dX10_come_115 rfl ?_
            have hq6 : 0 ≤ M 0 0 10 ∧ M 0 0 10 ≤ 12 := hW.1 0 0 10
            refine z_getI hC zfX10_95 (tmM_0 ad tc _) (okM_0 (by omega)) rfl (x := M 0 0 10) (by simp [zup]) dX10_come_116 ?_
            refine z_iconst hC dX10_come_119 ?_
            refine z_iadd hC dX10_come_120 ?_
            refine z_put hC zgX10_95 (tmM_0 ad tc _) (okM_0 (by omega)) rfl dX10_come_121 ?_
            have hW4 : WTM T U (zup (zup (zup (zup (zup (zup M 0 0 0 0) 8 0 ((M 0 0 10).toNat) w) 9 0 ((M 0 0 10).toNat) pt) 10 0 ((M 0 0 10).toNat) g9) 24 0 ((M 0 0 10).toNat) (-1)) 0 0 10 ((M 0 0 10) + 1)) := (((((hW.thr ⟨by omega, by omega⟩).up (f := 8) (by decide) ⟨by omega, by omega⟩).up (f := 9) (by decide) ⟨by omega, by omega⟩).up (f := 10) (by decide) ⟨by omega, by omega⟩).up (f := 24) (by decide) trivial).rc ⟨by omega, by omega⟩
            have hs9 := hsz (by omega)
            refine z_aload_n hC 0 rfl dX10_come_124 rfl ?_
            refine z_getR hC zfX10_45 (tmM_0 ad tc _) (okM_0 (by omega)) rfl dX10_come_125 ?_
            refine z_aload_n hC 0 rfl dX10_come_128 rfl ?_
            refine z_getI hC zfX10_95 (tmM_0 ad tc _) (okM_0 (by omega)) rfl (x := (M 0 0 10) + 1) (by simp [zup]) dX10_come_129 ?_
            refine z_iconst hC dX10_come_132 ?_
            refine z_isub hC dX10_come_133 ?_
            refine z_iload_n hC 1 rfl dX10_come_134 rfl ?_
            refine z_callVv hC zlX10_139 (k_X9_come l D tc ad hI (zup (zup (zup (zup (zup (zup M 0 0 0 0) 8 0 ((M 0 0 10).toNat) w) 9 0 ((M 0 0 10).toNat) pt) 10 0 ((M 0 0 10).toNat) g9) 24 0 ((M 0 0 10).toNat) (-1)) 0 0 10 ((M 0 0 10) + 1)) 0 (((M 0 0 10) + 1) - 1) t (by omega) hW4 (by omega) (by omega) (by have y0 : (zup (zup (zup (zup (zup (zup M 0 0 0 0) 8 0 ((M 0 0 10).toNat) w) 9 0 ((M 0 0 10).toNat) pt) 10 0 ((M 0 0 10).toNat) g9) 24 0 ((M 0 0 10).toNat) (-1)) 0 0 10 ((M 0 0 10) + 1)) 18 0 t.toNat = M 18 0 t.toNat := (by simp [zup]); have z1 : 0 ≤ M 18 0 t.toNat ∧ M 18 0 t.toNat ≤ 12 := hW.1 18 0 t.toNat; omega)) (tmM_11 ad tc _) rfl (okM_11 (by omega)) rfl rfl (Nat.le_of_ble_eq_true rfl) ⟨by decide, by decide⟩ ⟨by decide, by decide⟩ dX10_come_135 ?_
            refine z_aload_n hC 0 rfl dX10_come_138 rfl ?_
            refine z_getI hC zfX10_95 (tmM_0 ad tc _) (okM_0 (by omega)) rfl (x := (M 0 0 10) + 1) (by simp [zup, comeM_fr (f := 0) (by decide)]) dX10_come_139 ?_
            refine z_iconst hC dX10_come_142 ?_
            refine z_isub hC dX10_come_143 ?_
            exact z_iret hC hret hlk rfl (by simp only [comeFR, kComeM]; (repeat' split) <;> first | rfl | omega) (by simp only [comeFM, comeFM0, thM, kComeM]; (repeat' split) <;> first | rfl | omega) dX10_come_144
          · skip
            refine z_aload_n hC 0 rfl dX10_come_64 rfl ?_
            refine z_iconst hC dX10_come_65 ?_
            refine z_callVi hC zlX10_82 (k_X10_no l D tc ad hI (zup M 0 0 0 0) 3 ) (tmM_0 ad tc _) rfl (okM_0 (by omega)) rfl rfl (Nat.le_of_ble_eq_true rfl) ⟨by decide, by decide⟩ ⟨by decide, by decide⟩ dX10_come_66 ?_
            exact z_iret hC hret hlk rfl (by simp only [comeFR, kComeM]; (repeat' split) <;> first | rfl | omega) (by simp only [comeFM, comeFM0, thM, kComeM]; (repeat' split) <;> first | rfl | omega) dX10_come_69
        · skip
          refine z_aload_n hC 0 rfl dX10_come_49 rfl ?_
          refine z_iconst hC dX10_come_50 ?_
          refine z_callVi hC zlX10_82 (k_X10_no l D tc ad hI (zup M 0 0 0 0) 2 ) (tmM_0 ad tc _) rfl (okM_0 (by omega)) rfl rfl (Nat.le_of_ble_eq_true rfl) ⟨by decide, by decide⟩ ⟨by decide, by decide⟩ dX10_come_51 ?_
          exact z_iret hC hret hlk rfl (by simp only [comeFR, kComeM]; (repeat' split) <;> first | rfl | omega) (by simp only [comeFM, comeFM0, thM, kComeM]; (repeat' split) <;> first | rfl | omega) dX10_come_54
    · skip
      refine z_aload_n hC 0 rfl dX10_come_21 rfl ?_
      refine z_iconst hC dX10_come_22 ?_
      refine z_callVi hC zlX10_82 (k_X10_no l D tc ad hI (zup M 0 0 0 0) 1 ) (tmM_0 ad tc _) rfl (okM_0 (by omega)) rfl rfl (Nat.le_of_ble_eq_true rfl) ⟨by decide, by decide⟩ ⟨by decide, by decide⟩ dX10_come_23 ?_
      exact z_iret hC hret hlk rfl (by simp only [comeFR, kComeM]; (repeat' split) <;> first | rfl | omega) (by simp only [comeFM, comeFM0, thM, kComeM]; (repeat' split) <;> first | rfl | omega) dX10_come_26
