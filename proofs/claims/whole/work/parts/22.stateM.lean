set_option maxHeartbeats 4000000 in
set_option maxRecDepth 100000 in
theorem k_X9_become (l : Launch) (D : va_G) (tc : Nat → ClassId) (ad : Nat → Nat → Nat) (hI : zI ad okM) (M : zM) (u v : Nat) (hu : u < 2) (hv : v < 2) : zMv l yX9_become cX9_become 2 none 3 D (tysM tc) ad okM (tmM ad tc) [.ref (ad 11 u), .ref (ad 11 v)] M (becomeM M u v) 0 0 := by
  refine z_met hI (plainFor_of_name (by decide)) (Nat.le_of_ble_eq_true rfl) ?_
  intro p e s m args below meth c hC hret hlk
  refine z_conv (L2 := [(0, .ref (ad 11 u)), (1, .ref (ad 11 v))]) ?_ rfl rfl rfl
  refine z_aload_n hC 0 rfl dX9_become_0 rfl ?_
  refine z_aload_n hC 1 rfl dX9_become_1 rfl ?_
  refine z_getI hC zfX9_61 (tmM_11 ad tc _) (okM_11 (by omega)) rfl (x := M 11 v 0) (rfl) dX9_become_2 ?_
  refine z_put hC zgX9_61 (tmM_11 ad tc _) (okM_11 (by omega)) rfl dX9_become_5 ?_
  refine z_aload_n hC 0 rfl dX9_become_8 rfl ?_
  refine z_aload_n hC 1 rfl dX9_become_9 rfl ?_
  refine z_getR hC zfX9_15 (tmM_11 ad tc _) (okM_11 (by omega)) rfl dX9_become_10 ?_
  refine z_aload_n hC 0 rfl dX9_become_13 rfl ?_
  refine z_getR hC zfX9_15 (tmM_11 ad tc _) (okM_11 (by omega)) rfl dX9_become_14 ?_
  refine z_callVv hC zlX9_65 (k_X9_copy l D (tysM tc) ad okM (tmM ad tc) hI (zup M 11 u 0 (M 11 v 0)) _ 12 v 12 u 12 0 (tmM_12 ad tc _) (tmM_12 ad tc _) (tysM_0 tc) (okM_12 (by omega)) (okM_12 (by omega)) (by decide)) (tmM_11 ad tc _) rfl (okM_11 (by omega)) rfl rfl (Nat.le_of_ble_eq_true rfl) ⟨by decide, by decide⟩ ⟨by decide, by decide⟩ dX9_become_17 ?_
  refine z_aload_n hC 0 rfl dX9_become_20 rfl ?_
  refine z_aload_n hC 1 rfl dX9_become_21 rfl ?_
  refine z_getR hC zfX9_19 (tmM_11 ad tc _) (okM_11 (by omega)) rfl dX9_become_22 ?_
  refine z_aload_n hC 0 rfl dX9_become_25 rfl ?_
  refine z_getR hC zfX9_19 (tmM_11 ad tc _) (okM_11 (by omega)) rfl dX9_become_26 ?_
  refine z_callVv hC zlX9_65 (k_X9_copy l D (tysM tc) ad okM (tmM ad tc) hI (zcp (zup M 11 u 0 (M 11 v 0)) 12 v 12 u 12) _ 13 v 13 u 12 0 (tmM_13 ad tc _) (tmM_13 ad tc _) (tysM_0 tc) (okM_13 (by omega)) (okM_13 (by omega)) (by decide)) (tmM_11 ad tc _) rfl (okM_11 (by omega)) rfl rfl (Nat.le_of_ble_eq_true rfl) ⟨by decide, by decide⟩ ⟨by decide, by decide⟩ dX9_become_29 ?_
  refine z_aload_n hC 0 rfl dX9_become_32 rfl ?_
  refine z_aload_n hC 1 rfl dX9_become_33 rfl ?_
  refine z_getR hC zfX9_22 (tmM_11 ad tc _) (okM_11 (by omega)) rfl dX9_become_34 ?_
  refine z_aload_n hC 0 rfl dX9_become_37 rfl ?_
  refine z_getR hC zfX9_22 (tmM_11 ad tc _) (okM_11 (by omega)) rfl dX9_become_38 ?_
  refine z_callVv hC zlX9_65 (k_X9_copy l D (tysM tc) ad okM (tmM ad tc) hI (zcp (zcp (zup M 11 u 0 (M 11 v 0)) 12 v 12 u 12) 13 v 13 u 12) _ 14 v 14 u 36 0 (tmM_14 ad tc _) (tmM_14 ad tc _) (tysM_0 tc) (okM_14 (by omega)) (okM_14 (by omega)) (by decide)) (tmM_11 ad tc _) rfl (okM_11 (by omega)) rfl rfl (Nat.le_of_ble_eq_true rfl) ⟨by decide, by decide⟩ ⟨by decide, by decide⟩ dX9_become_41 ?_
  refine z_aload_n hC 0 rfl dX9_become_44 rfl ?_
  refine z_aload_n hC 1 rfl dX9_become_45 rfl ?_
  refine z_getR hC zfX9_25 (tmM_11 ad tc _) (okM_11 (by omega)) rfl dX9_become_46 ?_
  refine z_aload_n hC 0 rfl dX9_become_49 rfl ?_
  refine z_getR hC zfX9_25 (tmM_11 ad tc _) (okM_11 (by omega)) rfl dX9_become_50 ?_
  refine z_callVv hC zlX9_65 (k_X9_copy l D (tysM tc) ad okM (tmM ad tc) hI (zcp (zcp (zcp (zup M 11 u 0 (M 11 v 0)) 12 v 12 u 12) 13 v 13 u 12) 14 v 14 u 36) _ 15 v 15 u 36 0 (tmM_15 ad tc _) (tmM_15 ad tc _) (tysM_0 tc) (okM_15 (by omega)) (okM_15 (by omega)) (by decide)) (tmM_11 ad tc _) rfl (okM_11 (by omega)) rfl rfl (Nat.le_of_ble_eq_true rfl) ⟨by decide, by decide⟩ ⟨by decide, by decide⟩ dX9_become_53 ?_
  refine z_aload_n hC 0 rfl dX9_become_56 rfl ?_
  refine z_aload_n hC 1 rfl dX9_become_57 rfl ?_
  refine z_getR hC zfX9_28 (tmM_11 ad tc _) (okM_11 (by omega)) rfl dX9_become_58 ?_
  refine z_aload_n hC 0 rfl dX9_become_61 rfl ?_
  refine z_getR hC zfX9_28 (tmM_11 ad tc _) (okM_11 (by omega)) rfl dX9_become_62 ?_
  refine z_callVv hC zlX9_65 (k_X9_copy l D (tysM tc) ad okM (tmM ad tc) hI (zcp (zcp (zcp (zcp (zup M 11 u 0 (M 11 v 0)) 12 v 12 u 12) 13 v 13 u 12) 14 v 14 u 36) 15 v 15 u 36) _ 16 v 16 u 12 0 (tmM_16 ad tc _) (tmM_16 ad tc _) (tysM_0 tc) (okM_16 (by omega)) (okM_16 (by omega)) (by decide)) (tmM_11 ad tc _) rfl (okM_11 (by omega)) rfl rfl (Nat.le_of_ble_eq_true rfl) ⟨by decide, by decide⟩ ⟨by decide, by decide⟩ dX9_become_65 ?_
  refine z_aload_n hC 0 rfl dX9_become_68 rfl ?_
  refine z_aload_n hC 1 rfl dX9_become_69 rfl ?_
  refine z_getR hC zfX9_31 (tmM_11 ad tc _) (okM_11 (by omega)) rfl dX9_become_70 ?_
  refine z_aload_n hC 0 rfl dX9_become_73 rfl ?_
  refine z_getR hC zfX9_31 (tmM_11 ad tc _) (okM_11 (by omega)) rfl dX9_become_74 ?_
  refine z_callVv hC zlX9_65 (k_X9_copy l D (tysM tc) ad okM (tmM ad tc) hI (zcp (zcp (zcp (zcp (zcp (zup M 11 u 0 (M 11 v 0)) 12 v 12 u 12) 13 v 13 u 12) 14 v 14 u 36) 15 v 15 u 36) 16 v 16 u 12) _ 17 v 17 u 12 0 (tmM_17 ad tc _) (tmM_17 ad tc _) (tysM_0 tc) (okM_17 (by omega)) (okM_17 (by omega)) (by decide)) (tmM_11 ad tc _) rfl (okM_11 (by omega)) rfl rfl (Nat.le_of_ble_eq_true rfl) ⟨by decide, by decide⟩ ⟨by decide, by decide⟩ dX9_become_77 ?_
  refine z_aload_n hC 0 rfl dX9_become_80 rfl ?_
  refine z_aload_n hC 1 rfl dX9_become_81 rfl ?_
  refine z_getR hC zfX9_34 (tmM_11 ad tc _) (okM_11 (by omega)) rfl dX9_become_82 ?_
  refine z_aload_n hC 0 rfl dX9_become_85 rfl ?_
  refine z_getR hC zfX9_34 (tmM_11 ad tc _) (okM_11 (by omega)) rfl dX9_become_86 ?_
  refine z_callVv hC zlX9_65 (k_X9_copy l D (tysM tc) ad okM (tmM ad tc) hI (zcp (zcp (zcp (zcp (zcp (zcp (zup M 11 u 0 (M 11 v 0)) 12 v 12 u 12) 13 v 13 u 12) 14 v 14 u 36) 15 v 15 u 36) 16 v 16 u 12) 17 v 17 u 12) _ 18 v 18 u 8 0 (tmM_18 ad tc _) (tmM_18 ad tc _) (tysM_0 tc) (okM_18 (by omega)) (okM_18 (by omega)) (by decide)) (tmM_11 ad tc _) rfl (okM_11 (by omega)) rfl rfl (Nat.le_of_ble_eq_true rfl) ⟨by decide, by decide⟩ ⟨by decide, by decide⟩ dX9_become_89 ?_
  refine z_aload_n hC 0 rfl dX9_become_92 rfl ?_
  refine z_aload_n hC 1 rfl dX9_become_93 rfl ?_
  refine z_getR hC zfX9_37 (tmM_11 ad tc _) (okM_11 (by omega)) rfl dX9_become_94 ?_
  refine z_aload_n hC 0 rfl dX9_become_97 rfl ?_
  refine z_getR hC zfX9_37 (tmM_11 ad tc _) (okM_11 (by omega)) rfl dX9_become_98 ?_
  refine z_callVv hC zlX9_65 (k_X9_copy l D (tysM tc) ad okM (tmM ad tc) hI (zcp (zcp (zcp (zcp (zcp (zcp (zcp (zup M 11 u 0 (M 11 v 0)) 12 v 12 u 12) 13 v 13 u 12) 14 v 14 u 36) 15 v 15 u 36) 16 v 16 u 12) 17 v 17 u 12) 18 v 18 u 8) _ 19 v 19 u 96 0 (tmM_19 ad tc _) (tmM_19 ad tc _) (tysM_0 tc) (okM_19 (by omega)) (okM_19 (by omega)) (by decide)) (tmM_11 ad tc _) rfl (okM_11 (by omega)) rfl rfl (Nat.le_of_ble_eq_true rfl) ⟨by decide, by decide⟩ ⟨by decide, by decide⟩ dX9_become_101 ?_
  refine z_aload_n hC 0 rfl dX9_become_104 rfl ?_
  refine z_aload_n hC 1 rfl dX9_become_105 rfl ?_
  refine z_getR hC zfX9_40 (tmM_11 ad tc _) (okM_11 (by omega)) rfl dX9_become_106 ?_
  refine z_aload_n hC 0 rfl dX9_become_109 rfl ?_
  refine z_getR hC zfX9_40 (tmM_11 ad tc _) (okM_11 (by omega)) rfl dX9_become_110 ?_
  refine z_callVv hC zlX9_65 (k_X9_copy l D (tysM tc) ad okM (tmM ad tc) hI (zcp (zcp (zcp (zcp (zcp (zcp (zcp (zcp (zup M 11 u 0 (M 11 v 0)) 12 v 12 u 12) 13 v 13 u 12) 14 v 14 u 36) 15 v 15 u 36) 16 v 16 u 12) 17 v 17 u 12) 18 v 18 u 8) 19 v 19 u 96) _ 20 v 20 u 12 0 (tmM_20 ad tc _) (tmM_20 ad tc _) (tysM_0 tc) (okM_20 (by omega)) (okM_20 (by omega)) (by decide)) (tmM_11 ad tc _) rfl (okM_11 (by omega)) rfl rfl (Nat.le_of_ble_eq_true rfl) ⟨by decide, by decide⟩ ⟨by decide, by decide⟩ dX9_become_113 ?_
  refine z_aload_n hC 0 rfl dX9_become_116 rfl ?_
  refine z_aload_n hC 1 rfl dX9_become_117 rfl ?_
  refine z_getR hC zfX9_43 (tmM_11 ad tc _) (okM_11 (by omega)) rfl dX9_become_118 ?_
  refine z_aload_n hC 0 rfl dX9_become_121 rfl ?_
  refine z_getR hC zfX9_43 (tmM_11 ad tc _) (okM_11 (by omega)) rfl dX9_become_122 ?_
  refine z_callVv hC zlX9_65 (k_X9_copy l D (tysM tc) ad okM (tmM ad tc) hI (zcp (zcp (zcp (zcp (zcp (zcp (zcp (zcp (zcp (zup M 11 u 0 (M 11 v 0)) 12 v 12 u 12) 13 v 13 u 12) 14 v 14 u 36) 15 v 15 u 36) 16 v 16 u 12) 17 v 17 u 12) 18 v 18 u 8) 19 v 19 u 96) 20 v 20 u 12) _ 21 v 21 u 12 0 (tmM_21 ad tc _) (tmM_21 ad tc _) (tysM_0 tc) (okM_21 (by omega)) (okM_21 (by omega)) (by decide)) (tmM_11 ad tc _) rfl (okM_11 (by omega)) rfl rfl (Nat.le_of_ble_eq_true rfl) ⟨by decide, by decide⟩ ⟨by decide, by decide⟩ dX9_become_125 ?_
  refine z_aload_n hC 0 rfl dX9_become_128 rfl ?_
  refine z_aload_n hC 1 rfl dX9_become_129 rfl ?_
  refine z_getR hC zfX9_46 (tmM_11 ad tc _) (okM_11 (by omega)) rfl dX9_become_130 ?_
  refine z_aload_n hC 0 rfl dX9_become_133 rfl ?_
  refine z_getR hC zfX9_46 (tmM_11 ad tc _) (okM_11 (by omega)) rfl dX9_become_134 ?_
  refine z_callVv hC zlX9_65 (k_X9_copy l D (tysM tc) ad okM (tmM ad tc) hI (zcp (zcp (zcp (zcp (zcp (zcp (zcp (zcp (zcp (zcp (zup M 11 u 0 (M 11 v 0)) 12 v 12 u 12) 13 v 13 u 12) 14 v 14 u 36) 15 v 15 u 36) 16 v 16 u 12) 17 v 17 u 12) 18 v 18 u 8) 19 v 19 u 96) 20 v 20 u 12) 21 v 21 u 12) _ 22 v 22 u 12 0 (tmM_22 ad tc _) (tmM_22 ad tc _) (tysM_0 tc) (okM_22 (by omega)) (okM_22 (by omega)) (by decide)) (tmM_11 ad tc _) rfl (okM_11 (by omega)) rfl rfl (Nat.le_of_ble_eq_true rfl) ⟨by decide, by decide⟩ ⟨by decide, by decide⟩ dX9_become_137 ?_
  refine z_aload_n hC 0 rfl dX9_become_140 rfl ?_
  refine z_aload_n hC 1 rfl dX9_become_141 rfl ?_
  refine z_getR hC zfX9_49 (tmM_11 ad tc _) (okM_11 (by omega)) rfl dX9_become_142 ?_
  refine z_aload_n hC 0 rfl dX9_become_145 rfl ?_
  refine z_getR hC zfX9_49 (tmM_11 ad tc _) (okM_11 (by omega)) rfl dX9_become_146 ?_
  refine z_callVv hC zlX9_65 (k_X9_copy l D (tysM tc) ad okM (tmM ad tc) hI (zcp (zcp (zcp (zcp (zcp (zcp (zcp (zcp (zcp (zcp (zcp (zup M 11 u 0 (M 11 v 0)) 12 v 12 u 12) 13 v 13 u 12) 14 v 14 u 36) 15 v 15 u 36) 16 v 16 u 12) 17 v 17 u 12) 18 v 18 u 8) 19 v 19 u 96) 20 v 20 u 12) 21 v 21 u 12) 22 v 22 u 12) _ 23 v 23 u 12 0 (tmM_23 ad tc _) (tmM_23 ad tc _) (tysM_0 tc) (okM_23 (by omega)) (okM_23 (by omega)) (by decide)) (tmM_11 ad tc _) rfl (okM_11 (by omega)) rfl rfl (Nat.le_of_ble_eq_true rfl) ⟨by decide, by decide⟩ ⟨by decide, by decide⟩ dX9_become_149 ?_
  refine z_aload_n hC 0 rfl dX9_become_152 rfl ?_
  refine z_aload_n hC 1 rfl dX9_become_153 rfl ?_
  refine z_getR hC zfX9_52 (tmM_11 ad tc _) (okM_11 (by omega)) rfl dX9_become_154 ?_
  refine z_aload_n hC 0 rfl dX9_become_157 rfl ?_
  refine z_getR hC zfX9_52 (tmM_11 ad tc _) (okM_11 (by omega)) rfl dX9_become_158 ?_
  refine z_callVv hC zlX9_65 (k_X9_copy l D (tysM tc) ad okM (tmM ad tc) hI (zcp (zcp (zcp (zcp (zcp (zcp (zcp (zcp (zcp (zcp (zcp (zcp (zup M 11 u 0 (M 11 v 0)) 12 v 12 u 12) 13 v 13 u 12) 14 v 14 u 36) 15 v 15 u 36) 16 v 16 u 12) 17 v 17 u 12) 18 v 18 u 8) 19 v 19 u 96) 20 v 20 u 12) 21 v 21 u 12) 22 v 22 u 12) 23 v 23 u 12) _ 24 v 24 u 12 0 (tmM_24 ad tc _) (tmM_24 ad tc _) (tysM_0 tc) (okM_24 (by omega)) (okM_24 (by omega)) (by decide)) (tmM_11 ad tc _) rfl (okM_11 (by omega)) rfl rfl (Nat.le_of_ble_eq_true rfl) ⟨by decide, by decide⟩ ⟨by decide, by decide⟩ dX9_become_161 ?_
  exact z_vret hC hret hlk (by rfl) dX9_become_164
set_option maxHeartbeats 4000000 in
set_option maxRecDepth 100000 in
theorem k_X9_come (l : Launch) (D : va_G) (tc : Nat → ClassId) (ad : Nat → Nat → Nat) (hI : zI ad okM) (M : zM) {T U : Int} (u : Nat) (r q : Int) (hu : u < 2) (hW : WTM T U M) (hr : 0 ≤ r ∧ r ≤ 11) (hq : 0 ≤ q ∧ q ≤ 7) (hs : M 18 u q.toNat ≤ 11) : zMv l yX9_come cX9_come 3 none 0 D (tysM tc) ad okM (tmM ad tc) [.ref (ad 11 u), iv r, iv q] M (comeM M u r q) 0 0 := by
  have hsz : 0 ≤ M 18 u q.toNat ∧ M 18 u q.toNat ≤ 12 := hW.1 18 u q.toNat
  have hgo : 0 ≤ M 10 0 r.toNat ∧ M 10 0 r.toNat ≤ 7 := hW.1 10 0 r.toNat
  refine z_met hI (plainFor_of_name (by decide)) (Nat.le_of_ble_eq_true rfl) ?_
  intro p e s m args below meth c hC hret hlk
  refine z_conv (L2 := [(0, .ref (ad 11 u)), (1, iv r), (2, iv q)]) ?_ rfl rfl rfl
  refine z_aload_n hC 0 rfl dX9_come_0 rfl ?_
  refine z_getR hC zfX9_43 (tmM_11 ad tc _) (okM_11 (by omega)) rfl dX9_come_1 ?_
  refine z_iload_n hC 1 rfl dX9_come_4 rfl ?_
  refine z_iload_n hC 2 rfl dX9_come_5 rfl ?_
  refine z_iastore hC 0 ((r).toNat) (tmM_21 ad tc _) (tysM_0 tc) (okM_21 (by omega)) (by omega) (by omega) (by decide) dX9_come_6 ?_
  refine z_aload_n hC 0 rfl dX9_come_7 rfl ?_
  refine z_getR hC zfX9_46 (tmM_11 ad tc _) (okM_11 (by omega)) rfl dX9_come_8 ?_
  refine z_iload_n hC 1 rfl dX9_come_11 rfl ?_
  refine z_iconst hC dX9_come_12 ?_
  refine z_iastore hC 0 ((r).toNat) (tmM_22 ad tc _) (tysM_0 tc) (okM_22 (by omega)) (by omega) (by omega) (by decide) dX9_come_13 ?_
  refine z_aload_n hC 0 rfl dX9_come_14 rfl ?_
  refine z_getR hC zfX9_40 (tmM_11 ad tc _) (okM_11 (by omega)) rfl dX9_come_15 ?_
  refine z_iload_n hC 1 rfl dX9_come_18 rfl ?_
  refine z_iload_n hC 2 rfl dX9_come_19 rfl ?_
  refine z_aload_n hC 0 rfl dX9_come_20 rfl ?_
  refine z_getR hC zfX9_3 (tmM_11 ad tc _) (okM_11 (by omega)) rfl dX9_come_21 ?_
  refine z_getRN hC zfX9_72 (tmM_0 ad tc _) (okM_0 (by omega)) rfl dX9_come_24 ?_
  refine z_iload_n hC 1 rfl dX9_come_27 rfl ?_
  have hq1 : 0 ≤ M 10 0 ((r).toNat) ∧ M 10 0 ((r).toNat) ≤ 7 := hW.1 10 0 ((r).toNat)
  refine z_iaload hC 0 ((r).toNat) (tmM_10 ad tc _) (tysM_0 tc) (okM_10 (by omega)) (by omega) (by omega) (by decide) (x := M 10 0 ((r).toNat)) (by simp [zup]) dX9_come_28 ?_
  refine z_icmp_ne hC 36 dX9_come_29 (by decide) (by omega) (by omega) (fun c29 => ?_) (fun c29 => ?_)
  · skip
    refine z_iconst hC dX9_come_36 ?_
    refine z_iastore hC 0 ((r).toNat) (tmM_20 ad tc _) (tysM_0 tc) (okM_20 (by omega)) (by omega) (by omega) (by decide) dX9_come_37 ?_
    refine z_aload_n hC 0 rfl dX9_come_38 rfl ?_
    refine z_getR hC zfX9_40 (tmM_11 ad tc _) (okM_11 (by omega)) rfl dX9_come_39 ?_
    refine z_iload_n hC 1 rfl dX9_come_42 rfl ?_
    refine z_iaload hC 0 ((r).toNat) (tmM_20 ad tc _) (tysM_0 tc) (okM_20 (by omega)) (by omega) (by omega) (by decide) (x := 0) (by simp [zup]) dX9_come_43 ?_
    refine z_iconst hC dX9_come_44 ?_
    refine z_icmp_ne hC 61 dX9_come_45 (by decide) (by omega) (by omega) (fun c45 => ?_) (fun c45 => ?_)
    · skip
      refine z_aload_n hC 0 rfl dX9_come_61 rfl ?_
      refine z_getR hC zfX9_37 (tmM_11 ad tc _) (okM_11 (by omega)) rfl dX9_come_62 ?_
      refine z_bipush hC dX9_come_65 (by decide) ?_
      refine z_iload_n hC 2 rfl dX9_come_67 rfl ?_
      refine z_imul hC dX9_come_68 ?_
      refine z_aload_n hC 0 rfl dX9_come_69 rfl ?_
      refine z_getR hC zfX9_34 (tmM_11 ad tc _) (okM_11 (by omega)) rfl dX9_come_70 ?_
      refine z_iload_n hC 2 rfl dX9_come_73 rfl ?_
      have hq2 : 0 ≤ M 18 u ((q).toNat) ∧ M 18 u ((q).toNat) ≤ 12 := hW.1 18 u ((q).toNat)
      refine z_iaload hC 0 ((q).toNat) (tmM_18 ad tc _) (tysM_0 tc) (okM_18 (by omega)) (by omega) (by omega) (by decide) (x := M 18 u ((q).toNat)) (by simp [zup]) dX9_come_74 ?_
      refine z_iadd hC dX9_come_75 ?_
      refine z_iload_n hC 1 rfl dX9_come_76 rfl ?_
      refine z_iastore hC 0 (((12 * q) + (M 18 u ((q).toNat))).toNat) (tmM_19 ad tc _) (tysM_0 tc) (okM_19 (by omega)) (by omega) (by omega) (by decide) dX9_come_77 ?_
      refine z_aload_n hC 0 rfl dX9_come_78 rfl ?_
      refine z_getR hC zfX9_34 (tmM_11 ad tc _) (okM_11 (by omega)) rfl dX9_come_79 ?_
      refine z_iload_n hC 2 rfl dX9_come_82 rfl ?_
      refine z_dup2 hC dX9_come_83 rfl rfl ?_
      have hq3 : 0 ≤ M 18 u ((q).toNat) ∧ M 18 u ((q).toNat) ≤ 12 := hW.1 18 u ((q).toNat)
      refine z_iaload hC 0 ((q).toNat) (tmM_18 ad tc _) (tysM_0 tc) (okM_18 (by omega)) (by omega) (by omega) (by decide) (x := M 18 u ((q).toNat)) (by simp [zup]) dX9_come_84 ?_
      refine z_iconst hC dX9_come_85 ?_
      refine z_iadd hC dX9_come_86 ?_
      refine z_iastore hC 0 ((q).toNat) (tmM_18 ad tc _) (tysM_0 tc) (okM_18 (by omega)) (by omega) (by omega) (by decide) dX9_come_87 ?_
      exact z_vret hC hret hlk (by first | (exfalso; omega) | (simp only [comeM]; rw [if_pos (by omega)]; done) | (simp only [comeM]; rw [if_neg (by omega)]; done)) dX9_come_88
    · skip
      refine z_aload_n hC 0 rfl dX9_come_48 rfl ?_
      refine z_getR hC zfX9_52 (tmM_11 ad tc _) (okM_11 (by omega)) rfl dX9_come_49 ?_
      refine z_iload_n hC 1 rfl dX9_come_52 rfl ?_
      refine z_aload_n hC 0 rfl dX9_come_53 rfl ?_
      have hq4 : 0 ≤ M 11 u 0 ∧ M 11 u 0 ≤ T := hW.1 11 u 0
      refine z_getI hC zfX9_61 (tmM_11 ad tc _) (okM_11 (by omega)) rfl (x := M 11 u 0) (by simp [zup]) dX9_come_54 ?_
      refine z_iastore hC 0 ((r).toNat) (tmM_24 ad tc _) (tysM_0 tc) (okM_24 (by omega)) (by omega) (by omega) (by decide) dX9_come_57 ?_
      refine z_goto hC 88 dX9_come_58 (by decide) ?_
      exact z_vret hC hret hlk (by first | (exfalso; omega) | (simp only [comeM]; rw [if_pos (by omega)]; done) | (simp only [comeM]; rw [if_neg (by omega)]; done)) dX9_come_88
  · skip
    refine z_iconst hC dX9_come_32 ?_
    refine z_goto hC 37 dX9_come_33 (by decide) ?_
    refine z_iastore hC 0 ((r).toNat) (tmM_20 ad tc _) (tysM_0 tc) (okM_20 (by omega)) (by omega) (by omega) (by decide) dX9_come_37 ?_
    refine z_aload_n hC 0 rfl dX9_come_38 rfl ?_
    refine z_getR hC zfX9_40 (tmM_11 ad tc _) (okM_11 (by omega)) rfl dX9_come_39 ?_
    refine z_iload_n hC 1 rfl dX9_come_42 rfl ?_
    refine z_iaload hC 0 ((r).toNat) (tmM_20 ad tc _) (tysM_0 tc) (okM_20 (by omega)) (by omega) (by omega) (by decide) (x := 2) (by simp [zup]) dX9_come_43 ?_
    refine z_iconst hC dX9_come_44 ?_
    refine z_icmp_ne hC 61 dX9_come_45 (by decide) (by omega) (by omega) (fun c45 => ?_) (fun c45 => ?_)
    · skip
      refine z_aload_n hC 0 rfl dX9_come_61 rfl ?_
      refine z_getR hC zfX9_37 (tmM_11 ad tc _) (okM_11 (by omega)) rfl dX9_come_62 ?_
      refine z_bipush hC dX9_come_65 (by decide) ?_
      refine z_iload_n hC 2 rfl dX9_come_67 rfl ?_
      refine z_imul hC dX9_come_68 ?_
      refine z_aload_n hC 0 rfl dX9_come_69 rfl ?_
      refine z_getR hC zfX9_34 (tmM_11 ad tc _) (okM_11 (by omega)) rfl dX9_come_70 ?_
      refine z_iload_n hC 2 rfl dX9_come_73 rfl ?_
      have hq5 : 0 ≤ M 18 u ((q).toNat) ∧ M 18 u ((q).toNat) ≤ 12 := hW.1 18 u ((q).toNat)
      refine z_iaload hC 0 ((q).toNat) (tmM_18 ad tc _) (tysM_0 tc) (okM_18 (by omega)) (by omega) (by omega) (by decide) (x := M 18 u ((q).toNat)) (by simp [zup]) dX9_come_74 ?_
      refine z_iadd hC dX9_come_75 ?_
      refine z_iload_n hC 1 rfl dX9_come_76 rfl ?_
      refine z_iastore hC 0 (((12 * q) + (M 18 u ((q).toNat))).toNat) (tmM_19 ad tc _) (tysM_0 tc) (okM_19 (by omega)) (by omega) (by omega) (by decide) dX9_come_77 ?_
      refine z_aload_n hC 0 rfl dX9_come_78 rfl ?_
      refine z_getR hC zfX9_34 (tmM_11 ad tc _) (okM_11 (by omega)) rfl dX9_come_79 ?_
      refine z_iload_n hC 2 rfl dX9_come_82 rfl ?_
      refine z_dup2 hC dX9_come_83 rfl rfl ?_
      have hq6 : 0 ≤ M 18 u ((q).toNat) ∧ M 18 u ((q).toNat) ≤ 12 := hW.1 18 u ((q).toNat)
      refine z_iaload hC 0 ((q).toNat) (tmM_18 ad tc _) (tysM_0 tc) (okM_18 (by omega)) (by omega) (by omega) (by decide) (x := M 18 u ((q).toNat)) (by simp [zup]) dX9_come_84 ?_
      refine z_iconst hC dX9_come_85 ?_
      refine z_iadd hC dX9_come_86 ?_
      refine z_iastore hC 0 ((q).toNat) (tmM_18 ad tc _) (tysM_0 tc) (okM_18 (by omega)) (by omega) (by omega) (by decide) dX9_come_87 ?_
      exact z_vret hC hret hlk (by first | (exfalso; omega) | (simp only [comeM]; rw [if_pos (by omega)]; done) | (simp only [comeM]; rw [if_neg (by omega)]; done)) dX9_come_88
    · skip
      refine z_aload_n hC 0 rfl dX9_come_48 rfl ?_
      refine z_getR hC zfX9_52 (tmM_11 ad tc _) (okM_11 (by omega)) rfl dX9_come_49 ?_
      refine z_iload_n hC 1 rfl dX9_come_52 rfl ?_
      refine z_aload_n hC 0 rfl dX9_come_53 rfl ?_
      have hq7 : 0 ≤ M 11 u 0 ∧ M 11 u 0 ≤ T := hW.1 11 u 0
      refine z_getI hC zfX9_61 (tmM_11 ad tc _) (okM_11 (by omega)) rfl (x := M 11 u 0) (by simp [zup]) dX9_come_54 ?_
      refine z_iastore hC 0 ((r).toNat) (tmM_24 ad tc _) (tysM_0 tc) (okM_24 (by omega)) (by omega) (by omega) (by decide) dX9_come_57 ?_
      refine z_goto hC 88 dX9_come_58 (by decide) ?_
      exact z_vret hC hret hlk (by first | (exfalso; omega) | (simp only [comeM]; rw [if_pos (by omega)]; done) | (simp only [comeM]; rw [if_neg (by omega)]; done)) dX9_come_88
set_option maxHeartbeats 4000000 in
set_option maxRecDepth 100000 in
theorem k_X9_strike (l : Launch) (D : va_G) (tc : Nat → ClassId) (ad : Nat → Nat → Nat) (hI : zI ad okM) (M : zM) {T U : Int} (u : Nat) (r : Int) (w : Nat) (hu : u < 2) (hW : WTM T U M) (hr : 0 ≤ r ∧ r ≤ 11) (hq7 : 0 ≤ M 21 u r.toNat ∧ M 21 u r.toNat ≤ 7) (hw : (w : Int) < M 18 u (M 21 u r.toNat).toNat) (hwq : M 19 u (12 * (M 21 u r.toNat).toNat + w) = r) (hz : ∀ k, k < w → M 19 u (12 * (M 21 u r.toNat).toNat + k) ≠ r) : zMv l yX9_strike cX9_strike 4 none 0 D (tysM tc) ad okM (tmM ad tc) [.ref (ad 11 u), iv r] M (strikeM M u r w) 0 0 := by
  have hsz : 0 ≤ M 18 u (M 21 u r.toNat).toNat ∧ M 18 u (M 21 u r.toNat).toNat ≤ 12 := hW.1 18 u _
  refine z_met hI (plainFor_of_name (by decide)) (Nat.le_of_ble_eq_true rfl) ?_
  intro p e s m args below meth c hC hret hlk
  refine z_conv (L2 := [(0, .ref (ad 11 u)), (1, iv r)]) ?_ rfl rfl rfl
  have hc43 : ∀ (d43 : Nat) (b : Nat) (hb : 12 * (M 21 u r.toNat).toNat + w ≤ b ∧ (b : Int) ≤ 12 * M 21 u r.toNat + M 18 u (M 21 u r.toNat).toNat - 1), (12 * M 21 u r.toNat + M 18 u (M 21 u r.toNat).toNat - 1).toNat - b = d43 → zV p l e (zrm 0 0 0) s m args below meth c (MQ below (zQv D ad okM (tmM ad tc) (strikeM M u r w) (zA ad okM s.heap.size)) args s 0 0 (zA ad okM s.heap.size)) D ad okM (tmM ad tc) (zA ad okM s.heap.size) s.heap 4 0 0 (shM (zup M 18 u ((M 21 u ((r).toNat)).toNat) (M 18 u (M 21 u ((r).toNat)).toNat - 1)) u (12 * (M 21 u r.toNat).toNat + w) b) [(0, .ref (ad 11 u)), (1, iv r), (2, iv (12 * M 21 u r.toNat)), (3, iv ((b : Nat) : Int))] 43 [] := by
    intro d43
    induction d43 using Nat.strongRecOn with
    | _ d43 ih43 =>
      intro b hb hd43
      refine z_iload_n hC 3 rfl dX9_strike_43 rfl ?_
      refine z_iload_n hC 2 rfl dX9_strike_44 rfl ?_
      refine z_aload_n hC 0 rfl dX9_strike_45 rfl ?_
      refine z_getR hC zfX9_34 (tmM_11 ad tc _) (okM_11 (by omega)) rfl dX9_strike_46 ?_
      refine z_aload_n hC 0 rfl dX9_strike_49 rfl ?_
      refine z_getR hC zfX9_43 (tmM_11 ad tc _) (okM_11 (by omega)) rfl dX9_strike_50 ?_
      refine z_iload_n hC 1 rfl dX9_strike_53 rfl ?_
      have hq1 : 0 ≤ M 21 u ((r).toNat) ∧ M 21 u ((r).toNat) ≤ 11 := hW.1 21 u ((r).toNat)
      refine z_iaload hC 0 ((r).toNat) (tmM_21 ad tc _) (tysM_0 tc) (okM_21 (by omega)) (by omega) (by omega) (by decide) (x := M 21 u ((r).toNat)) (by simp [zup, shM_fr (f := 21) (by decide)]) dX9_strike_54 ?_
      refine z_iaload hC 0 ((M 21 u ((r).toNat)).toNat) (tmM_18 ad tc _) (tysM_0 tc) (okM_18 (by omega)) (by omega) (by omega) (by decide) (x := M 18 u (M 21 u ((r).toNat)).toNat - 1) (by simp [zup, shM_fr (f := 18) (by decide)]) dX9_strike_55 ?_
      refine z_iadd hC dX9_strike_56 ?_
      refine z_icmp_ge hC 80 dX9_strike_57 (by decide) (by omega) (by omega) (fun c57 => ?_) (fun c57 => ?_)
      · skip
        have he : b = (12 * M 21 u r.toNat + M 18 u (M 21 u r.toNat).toNat - 1).toNat := by omega
        subst he
        exact z_vret hC hret hlk (by rfl) dX9_strike_80
      · skip
        refine z_aload_n hC 0 rfl dX9_strike_60 rfl ?_
        refine z_getR hC zfX9_37 (tmM_11 ad tc _) (okM_11 (by omega)) rfl dX9_strike_61 ?_
        refine z_iload_n hC 3 rfl dX9_strike_64 rfl ?_
        refine z_aload_n hC 0 rfl dX9_strike_65 rfl ?_
        refine z_getR hC zfX9_37 (tmM_11 ad tc _) (okM_11 (by omega)) rfl dX9_strike_66 ?_
        refine z_iload_n hC 3 rfl dX9_strike_69 rfl ?_
        refine z_iconst hC dX9_strike_70 ?_
        refine z_iadd hC dX9_strike_71 ?_
        refine z_iaload hC 0 (b + 1) (tmM_19 ad tc _) (tysM_0 tc) (okM_19 (by omega)) (rfl) (by omega) (by decide) (x := (shM (zup M 18 u ((M 21 u ((r).toNat)).toNat) (M 18 u (M 21 u ((r).toNat)).toNat - 1)) u (12 * (M 21 u r.toNat).toNat + w) b) 19 u (b + 1)) (rfl) dX9_strike_72 ?_
        refine z_iastore hC 0 (b) (tmM_19 ad tc _) (tysM_0 tc) (okM_19 (by omega)) (rfl) (by omega) (by decide) dX9_strike_73 ?_
        refine z_iinc hC 3 (L' := [(3, iv (((b : Nat) : Int) + 1)), (0, .ref (ad 11 u)), (1, iv r), (2, iv (12 * M 21 u r.toNat))]) dX9_strike_74 rfl (by decide) rfl ?_
        refine z_goto hC 43 dX9_strike_77 (by decide) ?_
        refine z_perm [1, 2, 3, 0] (L' := [(0, .ref (ad 11 u)), (1, iv r), (2, iv (12 * M 21 u r.toNat)), (3, iv (((b : Nat) : Int) + 1))]) rfl ?_
        exact z_conv (ih43 _ (by omega) (b + 1) (by omega) rfl) (by rw [shM_s (by omega)]) (by rfl) (by rfl)
  have hc12 : ∀ (d12 : Nat) (j : Nat) (hj : j ≤ w), w - j = d12 → zV p l e (zrm 0 0 0) s m args below meth c (MQ below (zQv D ad okM (tmM ad tc) (strikeM M u r w) (zA ad okM s.heap.size)) args s 0 0 (zA ad okM s.heap.size)) D ad okM (tmM ad tc) (zA ad okM s.heap.size) s.heap 4 0 0 M [(0, .ref (ad 11 u)), (1, iv r), (2, iv (12 * M 21 u r.toNat)), (3, iv ((12 * (M 21 u r.toNat).toNat + j : Nat) : Int))] 12 [] := by
    intro d12
    induction d12 using Nat.strongRecOn with
    | _ d12 ih12 =>
      intro j hj hd12
      have hqj := hW.1 19 u (12 * (M 21 u r.toNat).toNat + j)
      have hqj2 : 0 ≤ M 19 u (12 * (M 21 u r.toNat).toNat + j) ∧ M 19 u (12 * (M 21 u r.toNat).toNat + j) ≤ 11 := hqj
      refine z_aload_n hC 0 rfl dX9_strike_12 rfl ?_
      refine z_getR hC zfX9_37 (tmM_11 ad tc _) (okM_11 (by omega)) rfl dX9_strike_13 ?_
      refine z_iload_n hC 3 rfl dX9_strike_16 rfl ?_
      have hq2 : 0 ≤ M 19 u (12 * (M 21 u r.toNat).toNat + j) ∧ M 19 u (12 * (M 21 u r.toNat).toNat + j) ≤ 11 := hW.1 19 u (12 * (M 21 u r.toNat).toNat + j)
      refine z_iaload hC 0 (12 * (M 21 u r.toNat).toNat + j) (tmM_19 ad tc _) (tysM_0 tc) (okM_19 (by omega)) (rfl) (by omega) (by decide) (x := M 19 u (12 * (M 21 u r.toNat).toNat + j)) (rfl) dX9_strike_17 ?_
      refine z_iload_n hC 1 rfl dX9_strike_18 rfl ?_
      refine z_icmp_eq hC 28 dX9_strike_19 (by decide) (by omega) (by omega) (fun c19 => ?_) (fun c19 => ?_)
      · skip
        have he : w = j := (Nat.lt_or_ge j w).elim (fun z => absurd c19 (hz j z)) (fun z => by omega)
        subst he
        refine z_aload_n hC 0 rfl dX9_strike_28 rfl ?_
        refine z_getR hC zfX9_34 (tmM_11 ad tc _) (okM_11 (by omega)) rfl dX9_strike_29 ?_
        refine z_aload_n hC 0 rfl dX9_strike_32 rfl ?_
        refine z_getR hC zfX9_43 (tmM_11 ad tc _) (okM_11 (by omega)) rfl dX9_strike_33 ?_
        refine z_iload_n hC 1 rfl dX9_strike_36 rfl ?_
        have hq3 : 0 ≤ M 21 u ((r).toNat) ∧ M 21 u ((r).toNat) ≤ 11 := hW.1 21 u ((r).toNat)
        refine z_iaload hC 0 ((r).toNat) (tmM_21 ad tc _) (tysM_0 tc) (okM_21 (by omega)) (by omega) (by omega) (by decide) (x := M 21 u ((r).toNat)) (rfl) dX9_strike_37 ?_
        refine z_dup2 hC dX9_strike_38 rfl rfl ?_
        have hq4 : 0 ≤ M 18 u ((M 21 u ((r).toNat)).toNat) ∧ M 18 u ((M 21 u ((r).toNat)).toNat) ≤ 12 := hW.1 18 u ((M 21 u ((r).toNat)).toNat)
        refine z_iaload hC 0 ((M 21 u ((r).toNat)).toNat) (tmM_18 ad tc _) (tysM_0 tc) (okM_18 (by omega)) (by omega) (by omega) (by decide) (x := M 18 u ((M 21 u ((r).toNat)).toNat)) (rfl) dX9_strike_39 ?_
        refine z_iconst hC dX9_strike_40 ?_
        refine z_isub hC dX9_strike_41 ?_
        refine z_iastore hC 0 ((M 21 u ((r).toNat)).toNat) (tmM_18 ad tc _) (tysM_0 tc) (okM_18 (by omega)) (by omega) (by omega) (by decide) dX9_strike_42 ?_
        exact z_conv (hc43 _ (12 * (M 21 u r.toNat).toNat + w) (by omega) rfl) (by rw [shM_0]) (by rfl) (by rfl)
      · skip
        have hjw : j < w := (Nat.lt_or_ge j w).elim (fun z => z) (fun z => absurd (by rw [show j = w by omega]; exact hwq) c19)
        refine z_iinc hC 3 (L' := [(3, iv (((12 * (M 21 u r.toNat).toNat + j : Nat) : Int) + 1)), (0, .ref (ad 11 u)), (1, iv r), (2, iv (12 * M 21 u r.toNat))]) dX9_strike_22 rfl (by decide) rfl ?_
        refine z_goto hC 12 dX9_strike_25 (by decide) ?_
        refine z_perm [1, 2, 3, 0] (L' := [(0, .ref (ad 11 u)), (1, iv r), (2, iv (12 * M 21 u r.toNat)), (3, iv (((12 * (M 21 u r.toNat).toNat + j : Nat) : Int) + 1))]) rfl ?_
        exact z_conv (ih12 _ (by omega) (j + 1) (by omega) rfl) (by rfl) (by rfl) (by rfl)
  refine z_bipush hC dX9_strike_0 (by decide) ?_
  refine z_aload_n hC 0 rfl dX9_strike_2 rfl ?_
  refine z_getR hC zfX9_43 (tmM_11 ad tc _) (okM_11 (by omega)) rfl dX9_strike_3 ?_
  refine z_iload_n hC 1 rfl dX9_strike_6 rfl ?_
  have hq5 : 0 ≤ M 21 u ((r).toNat) ∧ M 21 u ((r).toNat) ≤ 11 := hW.1 21 u ((r).toNat)
  refine z_iaload hC 0 ((r).toNat) (tmM_21 ad tc _) (tysM_0 tc) (okM_21 (by omega)) (by omega) (by omega) (by decide) (x := M 21 u ((r).toNat)) (rfl) dX9_strike_7 ?_
  refine z_imul hC dX9_strike_8 ?_
  refine z_istore_n hC (L' := [(2, iv (12 * (M 21 u ((r).toNat)))), (0, .ref (ad 11 u)), (1, iv r)]) dX9_strike_9 rfl (by decide) rfl ?_
  refine z_iload_n hC 0 rfl dX9_strike_10 rfl ?_
  refine z_istore_n hC (L' := [(3, iv (12 * (M 21 u ((r).toNat)))), (2, iv (12 * (M 21 u ((r).toNat)))), (0, .ref (ad 11 u)), (1, iv r)]) dX9_strike_11 rfl (by decide) rfl ?_
  refine z_perm [2, 3, 1, 0] (L' := [(0, .ref (ad 11 u)), (1, iv r), (2, iv (12 * (M 21 u ((r).toNat)))), (3, iv (12 * (M 21 u ((r).toNat))))]) rfl ?_
  exact z_conv (hc12 _ 0 (by omega) rfl) (by rfl) (by simp [Int.toNat_of_nonneg hq7.1]) (by rfl)
