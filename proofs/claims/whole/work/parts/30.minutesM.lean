set_option maxHeartbeats 4000000 in
set_option maxRecDepth 100000 in
theorem k_X10_pass (l : Launch) (D : va_G) (tc : Nat → ClassId) (ad : Nat → Nat → Nat) (hI : zI ad okM) (M : zM) {T U : Int} (n : Int) (hW : WTM T U M) (hn : -2147483648 ≤ n ∧ n < 2147483648) (hT : T + 100 ≤ 1000000) (hU : U + 4800 ≤ 100000000) (hP : ∀ j : Nat, (j : Int) < n → n ≤ 100 → passOK (passMN (zup M 0 0 0 0) 0 j) 0) : zMi l yX10_pass cX10_pass 4 (some .int) 65 D (tysM tc) ad okM (tmM ad tc) [.ref (ad 0 0), iv n] M (passFR M n) (passFM M n) 0 0 := by
  have hh := hW.2.2
  have hW1 : WTM T U (zup M 0 0 0 0) := hW.thr ⟨by omega, by omega⟩
  refine z_met hI (plainFor_of_name (by decide)) (Nat.le_of_ble_eq_true rfl) ?_
  intro p e s m args below meth c hC hret hlk
  refine z_conv (L2 := [(0, .ref (ad 0 0)), (1, iv n)]) ?_ rfl rfl rfl
  have hc25 : ∀ (d25 : Nat) (j : Nat) (hj : (j : Int) ≤ n) (hk : 1 ≤ n ∧ n ≤ 100), n.toNat - j = d25 → zV p l e (zrm 65 0 0) s m args below meth c (MQ below (zQi D ad okM (tmM ad tc) (passFR M n) (passFM M n) (zA ad okM s.heap.size)) args s 0 0 (zA ad okM s.heap.size)) D ad okM (tmM ad tc) (zA ad okM s.heap.size) s.heap 4 0 0 (passMN (zup M 0 0 0 0) 0 j) [(0, .ref (ad 0 0)), (1, iv n), (2, iv (manyM (passMN (zup M 0 0 0 0) 0 j) 0 2 - manyM (zup M 0 0 0 0) 0 2)), (3, iv ((j : Nat) : Int))] 25 [] := by
    intro d25
    induction d25 using Nat.strongRecOn with
    | _ d25 ih25 =>
      intro j hj hk hd25
      have hWj := passMN_wt (u := 0) hW1 j (by omega) (by omega) (fun i hi => hP i (by omega) (by omega))
      refine z_iload_n hC 3 rfl dX10_pass_25 rfl ?_
      refine z_iload_n hC 1 rfl dX10_pass_26 rfl ?_
      refine z_icmp_ge hC 46 dX10_pass_27 (by decide) (by omega) (by omega) (fun c27 => ?_) (fun c27 => ?_)
      · skip
        have he : j = n.toNat := by omega
        subst he
        refine z_iload_n hC 2 rfl dX10_pass_46 rfl ?_
        exact z_iret hC hret hlk rfl (by simp only [passFR, kPassM]; (repeat' split) <;> first | rfl | omega) (by simp only [passFM, thM, kPassM]; (repeat' split) <;> first | rfl | omega) dX10_pass_47
      · skip
        refine z_iload_n hC 2 rfl dX10_pass_30 rfl ?_
        refine z_aload_n hC 0 rfl dX10_pass_31 rfl ?_
        refine z_getR hC zfX10_45 (tmM_0 ad tc _) (okM_0 (by omega)) rfl dX10_pass_32 ?_
        refine z_callVi hC zlX10_164 (k_X9_pass l D tc ad hI (passMN (zup M 0 0 0 0) 0 j) 0 (by omega) hWj (by omega) (by omega) (hP j (by omega) (by omega))) (tmM_11 ad tc _) rfl (okM_11 (by omega)) rfl rfl (Nat.le_of_ble_eq_true rfl) ⟨by decide, by decide⟩ ⟨by decide, by decide⟩ dX10_pass_35 ?_
        refine z_iadd hC dX10_pass_38 ?_
        refine z_istore_n hC (L' := [(2, iv ((manyM (passMN (zup M 0 0 0 0) 0 j) 0 2 - manyM (zup M 0 0 0 0) 0 2) + (manyM (passM (passMN (zup M 0 0 0 0) 0 j) 0) 0 2 - manyM (passMN (zup M 0 0 0 0) 0 j) 0 2))), (0, .ref (ad 0 0)), (1, iv n), (3, iv ((j : Nat) : Int))]) dX10_pass_39 rfl (by decide) rfl ?_
        refine z_iinc hC 3 (L' := [(3, iv (((j : Nat) : Int) + 1)), (2, iv ((manyM (passMN (zup M 0 0 0 0) 0 j) 0 2 - manyM (zup M 0 0 0 0) 0 2) + (manyM (passM (passMN (zup M 0 0 0 0) 0 j) 0) 0 2 - manyM (passMN (zup M 0 0 0 0) 0 j) 0 2))), (0, .ref (ad 0 0)), (1, iv n)]) dX10_pass_40 rfl (by decide) rfl ?_
        refine z_goto hC 25 dX10_pass_43 (by decide) ?_
        refine z_perm [2, 3, 1, 0] (L' := [(0, .ref (ad 0 0)), (1, iv n), (2, iv ((manyM (passMN (zup M 0 0 0 0) 0 j) 0 2 - manyM (zup M 0 0 0 0) 0 2) + (manyM (passM (passMN (zup M 0 0 0 0) 0 j) 0) 0 2 - manyM (passMN (zup M 0 0 0 0) 0 j) 0 2))), (3, iv (((j : Nat) : Int) + 1))]) rfl ?_
        exact z_conv (ih25 _ (by omega) (j + 1) (by omega) hk rfl) (by rfl) (by rw [show (manyM (passMN (zup M 0 0 0 0) 0 j) 0 2 - manyM (zup M 0 0 0 0) 0 2) + (manyM (passM (passMN (zup M 0 0 0 0) 0 j) 0) 0 2 - manyM (passMN (zup M 0 0 0 0) 0 j) 0 2) = manyM (passMN (zup M 0 0 0 0) 0 (j + 1)) 0 2 - manyM (zup M 0 0 0 0) 0 2 from by have e : passMN (zup M 0 0 0 0) 0 (j + 1) = passM (passMN (zup M 0 0 0 0) 0 j) 0 := rfl; rw [e]; omega]; rfl) (by rfl)
  refine z_aload_n hC 0 rfl dX10_pass_0 rfl ?_
  refine z_iconst hC dX10_pass_1 ?_
  refine z_put hC zgX10_52 (tmM_0 ad tc _) (okM_0 (by omega)) rfl dX10_pass_2 ?_
  have hW1 : WTM T U (zup M 0 0 0 0) := hW.thr ⟨by omega, by omega⟩
  refine z_iload_n hC 1 rfl dX10_pass_5 rfl ?_
  refine z_iconst hC dX10_pass_6 ?_
  refine z_bipush hC dX10_pass_7 (by decide) ?_
  refine z_callSi hC zlX10_59 (k_X10_isIn l D tc ad hI (zup M 0 0 0 0) n 1 100 (by omega) (by omega) (by omega)) rfl rfl (Nat.le_of_ble_eq_true rfl) ⟨by decide, by decide⟩ ⟨by decide, by decide⟩ dX10_pass_9 ?_
  refine z_if_ne_b hC 21 dX10_pass_12 (by decide) (fun c12 => ?_) (fun c12 => ?_)
  · skip
    refine z_iconst hC dX10_pass_21 ?_
    refine z_istore_n hC (L' := [(2, iv 0), (0, .ref (ad 0 0)), (1, iv n)]) dX10_pass_22 rfl (by decide) rfl ?_
    refine z_iconst hC dX10_pass_23 ?_
    refine z_istore_n hC (L' := [(3, iv 0), (2, iv 0), (0, .ref (ad 0 0)), (1, iv n)]) dX10_pass_24 rfl (by decide) rfl ?_
    refine z_perm [2, 3, 1, 0] (L' := [(0, .ref (ad 0 0)), (1, iv n), (2, iv 0), (3, iv 0)]) rfl ?_
    exact z_conv (hc25 _ 0 (by omega) (by assumption) rfl) (by rfl) (by rw [show manyM (passMN (zup M 0 0 0 0) 0 0) 0 2 - manyM (zup M 0 0 0 0) 0 2 = 0 from Int.sub_self _]; rfl) (by rfl)
  · skip
    refine z_aload_n hC 0 rfl dX10_pass_15 rfl ?_
    refine z_iconst hC dX10_pass_16 ?_
    refine z_callVi hC zlX10_82 (k_X10_no l D tc ad hI (zup M 0 0 0 0) 1 ) (tmM_0 ad tc _) rfl (okM_0 (by omega)) rfl rfl (Nat.le_of_ble_eq_true rfl) ⟨by decide, by decide⟩ ⟨by decide, by decide⟩ dX10_pass_17 ?_
    exact z_iret hC hret hlk rfl (by simp only [passFR, kPassM]; (repeat' split) <;> first | rfl | omega) (by simp only [passFM, thM, kPassM]; (repeat' split) <;> first | rfl | omega) dX10_pass_20
set_option maxHeartbeats 4000000 in
set_option maxRecDepth 100000 in
theorem k_X10_arrivedIn (l : Launch) (D : va_G) (tc : Nat → ClassId) (ad : Nat → Nat → Nat) (hI : zI ad okM) (M : zM) {T U : Int} (n : Int) (hW : WTM T U M) (hn : 0 ≤ n ∧ n ≤ 30) (hT : T + 30 ≤ 1000000) (hU : U + 1440 ≤ 100000000) (hP : ∀ j : Nat, (j : Int) < n → passOK (passMN M 1 j) 1) : zMi l yX10_arrivedIn cX10_arrivedIn 3 (some .int) 65 D (tysM tc) ad okM (tmM ad tc) [.ref (ad 0 0), iv n] M (manyM (passMN M 1 n.toNat) 1 2) (passMN M 1 n.toNat) 0 0 := by
  have hh := hW.2.2
  refine z_met hI (plainFor_of_name (by decide)) (Nat.le_of_ble_eq_true rfl) ?_
  intro p e s m args below meth c hC hret hlk
  refine z_conv (L2 := [(0, .ref (ad 0 0)), (1, iv n)]) ?_ rfl rfl rfl
  have hc2 : ∀ (d2 : Nat) (j : Nat) (hj : (j : Int) ≤ n), n.toNat - j = d2 → zV p l e (zrm 65 0 0) s m args below meth c (MQ below (zQi D ad okM (tmM ad tc) (manyM (passMN M 1 n.toNat) 1 2) (passMN M 1 n.toNat) (zA ad okM s.heap.size)) args s 0 0 (zA ad okM s.heap.size)) D ad okM (tmM ad tc) (zA ad okM s.heap.size) s.heap 3 0 0 (passMN M 1 j) [(0, .ref (ad 0 0)), (1, iv n), (2, iv ((j : Nat) : Int))] 2 [] := by
    intro d2
    induction d2 using Nat.strongRecOn with
    | _ d2 ih2 =>
      intro j hj hd2
      have hWj := passMN_wt (u := 1) hW j (by omega) (by omega) (fun i hi => hP i (by omega))
      refine z_iload_n hC 2 rfl dX10_arrivedIn_2 rfl ?_
      refine z_iload_n hC 1 rfl dX10_arrivedIn_3 rfl ?_
      refine z_icmp_ge hC 21 dX10_arrivedIn_4 (by decide) (by omega) (by omega) (fun c4 => ?_) (fun c4 => ?_)
      · skip
        have he : j = n.toNat := by omega
        subst he
        refine z_aload_n hC 0 rfl dX10_arrivedIn_21 rfl ?_
        refine z_getR hC zfX10_49 (tmM_0 ad tc _) (okM_0 (by omega)) rfl dX10_arrivedIn_22 ?_
        refine z_iconst hC dX10_arrivedIn_25 ?_
        refine z_callVi hC zlX10_168 (k_X9_many l D tc ad hI (passMN M 1 n.toNat) 1 2 (by omega) hWj (by omega)) (tmM_11 ad tc _) rfl (okM_11 (by omega)) rfl rfl (Nat.le_of_ble_eq_true rfl) ⟨by decide, by decide⟩ ⟨by decide, by decide⟩ dX10_arrivedIn_26 ?_
        exact z_iret hC hret hlk rfl (by rfl) (by rfl) dX10_arrivedIn_29
      · skip
        refine z_aload_n hC 0 rfl dX10_arrivedIn_7 rfl ?_
        refine z_getR hC zfX10_49 (tmM_0 ad tc _) (okM_0 (by omega)) rfl dX10_arrivedIn_8 ?_
        refine z_callVi hC zlX10_164 (k_X9_pass l D tc ad hI (passMN M 1 j) 1 (by omega) hWj (by omega) (by omega) (hP j (by omega))) (tmM_11 ad tc _) rfl (okM_11 (by omega)) rfl rfl (Nat.le_of_ble_eq_true rfl) ⟨by decide, by decide⟩ ⟨by decide, by decide⟩ dX10_arrivedIn_11 ?_
        refine z_pop hC dX10_arrivedIn_14 rfl ?_
        refine z_iinc hC 2 (L' := [(2, iv (((j : Nat) : Int) + 1)), (0, .ref (ad 0 0)), (1, iv n)]) dX10_arrivedIn_15 rfl (by decide) rfl ?_
        refine z_goto hC 2 dX10_arrivedIn_18 (by decide) ?_
        refine z_perm [1, 2, 0] (L' := [(0, .ref (ad 0 0)), (1, iv n), (2, iv (((j : Nat) : Int) + 1))]) rfl ?_
        exact z_conv (ih2 _ (by omega) (j + 1) (by omega) rfl) (by rfl) (by rfl) (by rfl)
  refine z_iconst hC dX10_arrivedIn_0 ?_
  refine z_istore_n hC (L' := [(2, iv 0), (0, .ref (ad 0 0)), (1, iv n)]) dX10_arrivedIn_1 rfl (by decide) rfl ?_
  refine z_perm [1, 2, 0] (L' := [(0, .ref (ad 0 0)), (1, iv n), (2, iv 0)]) rfl ?_
  exact z_conv (hc2 _ 0 (by omega) rfl) (by rfl) (by rfl) (by rfl)
set_option maxHeartbeats 4000000 in
set_option maxRecDepth 100000 in
theorem k_X10_arrives (l : Launch) (D : va_G) (tc : Nat → ClassId) (ad : Nat → Nat → Nat) (hI : zI ad okM) (M : zM) {T U : Int} (n : Int) (hW : WTM T U M) (hn : -2147483648 ≤ n ∧ n < 2147483648) (hT : T + 200 ≤ 1000000) (hU : U + 9600 ≤ 100000000) (hP : 0 ≤ n → n ≤ M 0 0 10 - 1 → ∀ j, j < 200 → arrMN (aheadM M) n.toNat j 20 1 n.toNat < 2 → passOK (arrMN (aheadM M) n.toNat j) 1) : zMi l yX10_arrives cX10_arrives 3 (some .int) 65 D (tysM tc) ad okM (tmM ad tc) [.ref (ad 0 0), iv n] M (arrFR M n) (arrFM M n) 0 0 := by
  have hrc : 0 ≤ M 0 0 10 ∧ M 0 0 10 ≤ 12 := hW.1 0 0 10
  have hh := hW.2.2
  have hW1 : WTM T U (zup M 0 0 0 0) := hW.thr ⟨by omega, by omega⟩
  have hW2 : WTM T U (aheadM M) := becomeM_wt hW1 1 0
  refine z_met hI (plainFor_of_name (by decide)) (Nat.le_of_ble_eq_true rfl) ?_
  intro p e s m args below meth c hC hret hlk
  refine z_conv (L2 := [(0, .ref (ad 0 0)), (1, iv n)]) ?_ rfl rfl rfl
  have hc38 : ∀ (d38 : Nat) (j : Nat) (hj : j ≤ 200) (hk : 0 ≤ n ∧ n ≤ M 0 0 10 - 1), 200 - j = d38 → zV p l e (zrm 65 0 0) s m args below meth c (MQ below (zQi D ad okM (tmM ad tc) (arrFR M n) (arrFM M n) (zA ad okM s.heap.size)) args s 0 0 (zA ad okM s.heap.size)) D ad okM (tmM ad tc) (zA ad okM s.heap.size) s.heap 3 0 0 (arrMN (aheadM M) n.toNat j) [(0, .ref (ad 0 0)), (1, iv n), (2, iv ((j : Nat) : Int))] 38 [] := by
    intro d38
    induction d38 using Nat.strongRecOn with
    | _ d38 ih38 =>
      intro j hj hk hd38
      have hWj := arrMN_wt (r := n.toNat) hW2 j (by omega) (by omega) (fun i hi => hP hk.1 hk.2 i (by omega))
      have hPj := hP hk.1 hk.2 j
      obtain ⟨Mj, hMj⟩ : ∃ x, x = arrMN (aheadM M) n.toNat j := ⟨_, rfl⟩
      rw [← hMj]
      rw [← hMj] at hWj hPj
      have hh2 := hWj.2.2
      refine z_iload_n hC 2 rfl dX10_arrives_38 rfl ?_
      refine z_sipush hC dX10_arrives_39 (by decide) ?_
      refine z_icmp_ge hC 72 dX10_arrives_42 (by decide) (by omega) (by omega) (fun c42 => ?_) (fun c42 => ?_)
      · skip
        have he : j = 200 := by omega
        subst he
        refine z_aload_n hC 0 rfl dX10_arrives_72 rfl ?_
        refine z_getR hC zfX10_49 (tmM_0 ad tc _) (okM_0 (by omega)) rfl dX10_arrives_73 ?_
        refine z_getRN hC zfX10_136 (tmM_11 ad tc _) (okM_11 (by omega)) rfl dX10_arrives_76 ?_
        refine z_iload_n hC 1 rfl dX10_arrives_79 rfl ?_
        refine z_iaload hC 0 ((n).toNat) (tmM_24 ad tc _) (tysM_0 tc) (okM_24 (by omega)) (by omega) (by omega) (by decide) (x := Mj 24 1 ((n).toNat)) (rfl) dX10_arrives_80 ?_
        exact z_iret hC hret hlk rfl (by rw [arrFR, kArrM, if_pos hk, if_pos rfl]; first | (rw [hMj]; done) | rw [hst]) (by rw [arrFM, kArrM, if_pos hk, if_pos rfl]; first | exact hMj | exact hst.symm) dX10_arrives_81
      · skip
        refine z_aload_n hC 0 rfl dX10_arrives_45 rfl ?_
        refine z_getR hC zfX10_49 (tmM_0 ad tc _) (okM_0 (by omega)) rfl dX10_arrives_46 ?_
        refine z_getRN hC zfX10_98 (tmM_11 ad tc _) (okM_11 (by omega)) rfl dX10_arrives_49 ?_
        refine z_iload_n hC 1 rfl dX10_arrives_52 rfl ?_
        have hq1 : 0 ≤ Mj 20 1 ((n).toNat) ∧ Mj 20 1 ((n).toNat) ≤ 3 := hWj.1 20 1 ((n).toNat)
        refine z_iaload hC 0 ((n).toNat) (tmM_20 ad tc _) (tysM_0 tc) (okM_20 (by omega)) (by omega) (by omega) (by decide) (x := Mj 20 1 ((n).toNat)) (rfl) dX10_arrives_53 ?_
        refine z_iconst hC dX10_arrives_54 ?_
        refine z_icmp_ge hC 72 dX10_arrives_55 (by decide) (by omega) (by omega) (fun c55 => ?_) (fun c55 => ?_)
        · skip
          have hst := arrMN_stop (by rw [← hMj]; omega) (200 - j)
          rw [show j + (200 - j) = 200 by omega, ← hMj] at hst
          refine z_aload_n hC 0 rfl dX10_arrives_72 rfl ?_
          refine z_getR hC zfX10_49 (tmM_0 ad tc _) (okM_0 (by omega)) rfl dX10_arrives_73 ?_
          refine z_getRN hC zfX10_136 (tmM_11 ad tc _) (okM_11 (by omega)) rfl dX10_arrives_76 ?_
          refine z_iload_n hC 1 rfl dX10_arrives_79 rfl ?_
          refine z_iaload hC 0 ((n).toNat) (tmM_24 ad tc _) (tysM_0 tc) (okM_24 (by omega)) (by omega) (by omega) (by decide) (x := Mj 24 1 ((n).toNat)) (rfl) dX10_arrives_80 ?_
          exact z_iret hC hret hlk rfl (by rw [arrFR, kArrM, if_pos hk, if_pos rfl]; first | (rw [hMj]; done) | rw [hst]) (by rw [arrFM, kArrM, if_pos hk, if_pos rfl]; first | exact hMj | exact hst.symm) dX10_arrives_81
        · skip
          refine z_aload_n hC 0 rfl dX10_arrives_58 rfl ?_
          refine z_getR hC zfX10_49 (tmM_0 ad tc _) (okM_0 (by omega)) rfl dX10_arrives_59 ?_
          refine z_callVi hC zlX10_164 (k_X9_pass l D tc ad hI Mj 1 (by omega) hWj (by omega) (by omega) (hPj (by omega) (by omega))) (tmM_11 ad tc _) rfl (okM_11 (by omega)) rfl rfl (Nat.le_of_ble_eq_true rfl) ⟨by decide, by decide⟩ ⟨by decide, by decide⟩ dX10_arrives_62 ?_
          refine z_pop hC dX10_arrives_65 rfl ?_
          refine z_iinc hC 2 (L' := [(2, iv (((j : Nat) : Int) + 1)), (0, .ref (ad 0 0)), (1, iv n)]) dX10_arrives_66 rfl (by decide) rfl ?_
          refine z_goto hC 38 dX10_arrives_69 (by decide) ?_
          refine z_perm [1, 2, 0] (L' := [(0, .ref (ad 0 0)), (1, iv n), (2, iv (((j : Nat) : Int) + 1))]) rfl ?_
          exact z_conv (ih38 _ (by omega) (j + 1) (by omega) hk rfl) (by rw [hMj, arrMN_s (by rw [← hMj]; omega)]) (by rfl) (by rfl)
  refine z_aload_n hC 0 rfl dX10_arrives_0 rfl ?_
  refine z_iconst hC dX10_arrives_1 ?_
  refine z_put hC zgX10_52 (tmM_0 ad tc _) (okM_0 (by omega)) rfl dX10_arrives_2 ?_
  have hW1 : WTM T U (zup M 0 0 0 0) := hW.thr ⟨by omega, by omega⟩
  refine z_iload_n hC 1 rfl dX10_arrives_5 rfl ?_
  refine z_iconst hC dX10_arrives_6 ?_
  refine z_aload_n hC 0 rfl dX10_arrives_7 rfl ?_
  have hq2 : 0 ≤ M 0 0 10 ∧ M 0 0 10 ≤ 12 := hW.1 0 0 10
  refine z_getI hC zfX10_95 (tmM_0 ad tc _) (okM_0 (by omega)) rfl (x := M 0 0 10) (by simp [zup]) dX10_arrives_8 ?_
  refine z_iconst hC dX10_arrives_11 ?_
  refine z_isub hC dX10_arrives_12 ?_
  refine z_callSi hC zlX10_59 (k_X10_isIn l D tc ad hI (zup M 0 0 0 0) n 0 ((M 0 0 10) - 1) (by omega) (by omega) (by omega)) rfl rfl (Nat.le_of_ble_eq_true rfl) ⟨by decide, by decide⟩ ⟨by decide, by decide⟩ dX10_arrives_13 ?_
  refine z_if_ne_b hC 25 dX10_arrives_16 (by decide) (fun c16 => ?_) (fun c16 => ?_)
  · skip
    refine z_aload_n hC 0 rfl dX10_arrives_25 rfl ?_
    refine z_getR hC zfX10_49 (tmM_0 ad tc _) (okM_0 (by omega)) rfl dX10_arrives_26 ?_
    refine z_aload_n hC 0 rfl dX10_arrives_29 rfl ?_
    refine z_getR hC zfX10_45 (tmM_0 ad tc _) (okM_0 (by omega)) rfl dX10_arrives_30 ?_
    refine z_callVv hC zlX10_174 (k_X9_become l D tc ad hI (zup M 0 0 0 0) 1 0 (by omega) (by omega)) (tmM_11 ad tc _) rfl (okM_11 (by omega)) rfl rfl (Nat.le_of_ble_eq_true rfl) ⟨by decide, by decide⟩ ⟨by decide, by decide⟩ dX10_arrives_33 ?_
    refine z_iconst hC dX10_arrives_36 ?_
    refine z_istore_n hC (L' := [(2, iv 0), (0, .ref (ad 0 0)), (1, iv n)]) dX10_arrives_37 rfl (by decide) rfl ?_
    refine z_perm [1, 2, 0] (L' := [(0, .ref (ad 0 0)), (1, iv n), (2, iv 0)]) rfl ?_
    exact z_conv (hc38 _ 0 (by omega) (by assumption) rfl) (by rfl) (by rfl) (by rfl)
  · skip
    refine z_aload_n hC 0 rfl dX10_arrives_19 rfl ?_
    refine z_iconst hC dX10_arrives_20 ?_
    refine z_callVi hC zlX10_82 (k_X10_no l D tc ad hI (zup M 0 0 0 0) 1 ) (tmM_0 ad tc _) rfl (okM_0 (by omega)) rfl rfl (Nat.le_of_ble_eq_true rfl) ⟨by decide, by decide⟩ ⟨by decide, by decide⟩ dX10_arrives_21 ?_
    exact z_iret hC hret hlk rfl (by simp only [arrFR, kArrM]; (repeat' split) <;> first | rfl | omega) (by simp only [arrFM, thM, kArrM]; (repeat' split) <;> first | rfl | omega) dX10_arrives_24
set_option maxHeartbeats 4000000 in
set_option maxRecDepth 100000 in
theorem k_X10_advise (l : Launch) (D : va_G) (tc : Nat → ClassId) (ad : Nat → Nat → Nat) (hI : zI ad okM) (M : zM) {T U : Int} (n : Int) (hW : WTM T U M) (hn : -2147483648 ≤ n ∧ n < 2147483648) (hT : T + 400 ≤ 1000000) (hU : U + 20000 ≤ 100000000) (hP : 1 ≤ n → n ≤ 30 → advOK (aheadM M) n) : zMi l yX10_advise cX10_advise 6 (some .int) 66 D (tysM tc) ad okM (tmM ad tc) [.ref (ad 0 0), iv n] M (advFR M n) (advFM M n) 0 0 := by
  have hlc : 0 ≤ M 0 0 5 ∧ M 0 0 5 ≤ 12 := hW.1 0 0 5
  have hh := hW.2.2
  have hW1 : WTM T U (zup M 0 0 0 0) := hW.thr ⟨by omega, by omega⟩
  have hW2 : WTM T U (aheadM M) := becomeM_wt hW1 1 0
  have h05 := aheadM_5 M
  refine z_met hI (plainFor_of_name (by decide)) (Nat.le_of_ble_eq_true rfl) ?_
  intro p e s m args below meth c hC hret hlk
  refine z_conv (L2 := [(0, .ref (ad 0 0)), (1, iv n)]) ?_ rfl rfl rfl
  have hc43 : ∀ (d43 : Nat) (j : Nat) (hj : j ≤ (M 0 0 5).toNat) (hk : 1 ≤ n ∧ n ≤ 30), (M 0 0 5).toNat - j = d43 → zV p l e (zrm 66 0 0) s m args below meth c (MQ below (zQi D ad okM (tmM ad tc) (advFR M n) (advFM M n) (zA ad okM s.heap.size)) args s 0 0 (zA ad okM s.heap.size)) D ad okM (tmM ad tc) (zA ad okM s.heap.size) s.heap 6 0 0 ((advMN (aheadM M) n j).1) [(0, .ref (ad 0 0)), (1, iv n), (2, iv ((advMN (aheadM M) n j).2.2)), (3, iv ((advMN (aheadM M) n j).2.1)), (4, iv ((j : Nat) : Int))] 43 [] := by
    intro d43
    induction d43 using Nat.strongRecOn with
    | _ d43 ih43 =>
      intro j hj hk hd43
      obtain ⟨hWj, h15, hb1, hb2⟩ := advM_inv hW2 hk (hP hk.1 hk.2) (by omega) (by omega) j (by omega)
      have hPj := (hP hk.1 hk.2).2 j
      obtain ⟨Mj, hMj⟩ : ∃ x, x = (advMN (aheadM M) n j).1 := ⟨_, rfl⟩
      rw [← hMj]
      rw [← hMj] at hWj h15 hPj
      have hh2 := hWj.2.2
      have h12 : 0 ≤ Mj 12 0 j ∧ Mj 12 0 j ≤ 3 := hWj.1 12 0 j
      refine z_iload hC 4 rfl dX10_advise_43 ?_
      refine z_aload_n hC 0 rfl dX10_advise_45 rfl ?_
      have hq1 : 0 ≤ Mj 0 0 5 ∧ Mj 0 0 5 ≤ 12 := hWj.1 0 0 5
      refine z_getI hC zfX10_63 (tmM_0 ad tc _) (okM_0 (by omega)) rfl (x := Mj 0 0 5) (rfl) dX10_advise_46 ?_
      refine z_icmp_ge hC 122 dX10_advise_49 (by decide) (by omega) (by omega) (fun c49 => ?_) (fun c49 => ?_)
      · skip
        have he : j = (M 0 0 5).toNat := by omega
        subst he
        refine z_iload_n hC 2 rfl dX10_advise_122 rfl ?_
        exact z_iret hC hret hlk rfl (by rw [advFR, kAdvM, if_pos hk, if_pos rfl]) (by rw [advFM, kAdvM, if_pos hk, if_pos rfl]; exact hMj) dX10_advise_123
      · skip
        refine z_aload_n hC 0 rfl dX10_advise_52 rfl ?_
        refine z_getR hC zfX10_45 (tmM_0 ad tc _) (okM_0 (by omega)) rfl dX10_advise_53 ?_
        refine z_getRN hC zfX10_89 (tmM_11 ad tc _) (okM_11 (by omega)) rfl dX10_advise_56 ?_
        refine z_iload hC 4 rfl dX10_advise_59 ?_
        have hq2 : 0 ≤ Mj 12 0 j ∧ Mj 12 0 j ≤ 3 := hWj.1 12 0 j
        refine z_iaload hC 0 (j) (tmM_12 ad tc _) (tysM_0 tc) (okM_12 (by omega)) (rfl) (by omega) (by decide) (x := Mj 12 0 j) (rfl) dX10_advise_61 ?_
        refine z_iconst hC dX10_advise_62 ?_
        refine z_icmp_ne hC 69 dX10_advise_63 (by decide) (by omega) (by omega) (fun c63 => ?_) (fun c63 => ?_)
        · skip
          refine z_aload_n hC 0 rfl dX10_advise_69 rfl ?_
          refine z_getR hC zfX10_49 (tmM_0 ad tc _) (okM_0 (by omega)) rfl dX10_advise_70 ?_
          refine z_aload_n hC 0 rfl dX10_advise_73 rfl ?_
          refine z_getR hC zfX10_45 (tmM_0 ad tc _) (okM_0 (by omega)) rfl dX10_advise_74 ?_
          refine z_callVv hC zlX10_174 (k_X9_become l D tc ad hI Mj 1 0 (by omega) (by omega)) (tmM_11 ad tc _) rfl (okM_11 (by omega)) rfl rfl (Nat.le_of_ble_eq_true rfl) ⟨by decide, by decide⟩ ⟨by decide, by decide⟩ dX10_advise_77 ?_
          refine z_aload_n hC 0 rfl dX10_advise_80 rfl ?_
          refine z_getR hC zfX10_49 (tmM_0 ad tc _) (okM_0 (by omega)) rfl dX10_advise_81 ?_
          refine z_getRN hC zfX10_89 (tmM_11 ad tc _) (okM_11 (by omega)) rfl dX10_advise_84 ?_
          refine z_iload hC 4 rfl dX10_advise_87 ?_
          refine z_dup2 hC dX10_advise_89 rfl rfl ?_
          refine z_iaload hC 0 (j) (tmM_12 ad tc _) (tysM_0 tc) (okM_12 (by omega)) (rfl) (by omega) (by decide) (x := (becomeM Mj 1 0) 12 1 j) (rfl) dX10_advise_90 ?_
          refine z_iconst hC dX10_advise_91 ?_
          refine z_iadd hC dX10_advise_92 ?_
          refine z_iastore hC 0 (j) (tmM_12 ad tc _) (tysM_0 tc) (okM_12 (by omega)) (rfl) (by omega) (by decide) dX10_advise_93 ?_
          have hmo : zup (becomeM Mj 1 0) 12 1 j (((becomeM Mj 1 0) 12 1 j) + 1) = moreM Mj j := rfl
          rw [hmo]
          have hW4 : WTM (T + 30 * (j + 1)) (U + 1440 * (j + 1)) (moreM Mj j) := moreM_wt hWj (by omega) (by omega)
          refine z_aload_n hC 0 rfl dX10_advise_94 rfl ?_
          refine z_iload_n hC 1 rfl dX10_advise_95 rfl ?_
          refine z_callVi hC zlX10_178 (k_X10_arrivedIn l D tc ad hI (moreM Mj j) n hW4 ⟨by omega, by omega⟩ (by omega) (by omega) (hPj (by omega) (by omega))) (tmM_0 ad tc _) rfl (okM_0 (by omega)) rfl rfl (Nat.le_of_ble_eq_true rfl) ⟨by decide, by decide⟩ ⟨by decide, by decide⟩ dX10_advise_96 ?_
          have hmb := manyM_bd (passMN_wt (u := 1) hW4 n.toNat (by omega) (by omega) (fun k hk9 => hPj (by omega) (by omega) k (by omega))) 1 2
          refine z_istore hC (L' := [(5, iv (manyM (passMN (moreM Mj j) 1 n.toNat) 1 2)), (0, .ref (ad 0 0)), (1, iv n), (2, iv ((advMN (aheadM M) n j).2.2)), (3, iv ((advMN (aheadM M) n j).2.1)), (4, iv ((j : Nat) : Int))]) dX10_advise_99 (by decide) rfl ?_
          refine z_iload hC 0 rfl dX10_advise_101 ?_
          refine z_iload_n hC 4 rfl dX10_advise_103 rfl ?_
          refine z_icmp_gt hC 110 dX10_advise_104 (by decide) (by omega) (by omega) (fun c104 => ?_) (fun c104 => ?_)
          · skip
            refine z_iload hC 5 rfl dX10_advise_110 ?_
            refine z_istore_n hC (L' := [(2, iv ((j : Nat) : Int)), (5, iv (manyM (passMN (moreM Mj j) 1 n.toNat) 1 2)), (0, .ref (ad 0 0)), (1, iv n), (3, iv ((advMN (aheadM M) n j).2.1)), (4, iv ((j : Nat) : Int))]) dX10_advise_112 rfl (by decide) rfl ?_
            refine z_iload hC 1 rfl dX10_advise_113 ?_
            refine z_istore_n hC (L' := [(3, iv (manyM (passMN (moreM Mj j) 1 n.toNat) 1 2)), (2, iv ((j : Nat) : Int)), (5, iv (manyM (passMN (moreM Mj j) 1 n.toNat) 1 2)), (0, .ref (ad 0 0)), (1, iv n), (4, iv ((j : Nat) : Int))]) dX10_advise_115 rfl (by decide) rfl ?_
            refine z_iinc hC 5 (L' := [(4, iv (((j : Nat) : Int) + 1)), (3, iv (manyM (passMN (moreM Mj j) 1 n.toNat) 1 2)), (2, iv ((j : Nat) : Int)), (5, iv (manyM (passMN (moreM Mj j) 1 n.toNat) 1 2)), (0, .ref (ad 0 0)), (1, iv n)]) dX10_advise_116 rfl (by decide) rfl ?_
            refine z_goto hC 43 dX10_advise_119 (by decide) ?_
            refine z_perm [4, 5, 2, 1, 0] (L' := [(0, .ref (ad 0 0)), (1, iv n), (2, iv ((j : Nat) : Int)), (3, iv (manyM (passMN (moreM Mj j) 1 n.toNat) 1 2)), (4, iv (((j : Nat) : Int) + 1))]) rfl ?_
            exact z_conv (ih43 _ (by omega) (j + 1) (by omega) hk rfl) (by rw [show advMN (aheadM M) n (j + 1) = advMS n j (advMN (aheadM M) n j) from rfl]; simp only [advMS, ← hMj]; repeat (first | rw [if_pos (by omega)] | rw [if_neg (by omega)]); try exact hMj) (by rw [show advMN (aheadM M) n (j + 1) = advMS n j (advMN (aheadM M) n j) from rfl]; simp only [advMS, ← hMj]; repeat (first | rw [if_pos (by omega)] | rw [if_neg (by omega)]); try rfl) (by rfl)
          · skip
            refine z_goto hC 116 dX10_advise_107 (by decide) ?_
            refine z_iinc hC 5 (L' := [(4, iv (((j : Nat) : Int) + 1)), (5, iv (manyM (passMN (moreM Mj j) 1 n.toNat) 1 2)), (0, .ref (ad 0 0)), (1, iv n), (2, iv ((advMN (aheadM M) n j).2.2)), (3, iv ((advMN (aheadM M) n j).2.1))]) dX10_advise_116 rfl (by decide) rfl ?_
            refine z_goto hC 43 dX10_advise_119 (by decide) ?_
            refine z_perm [2, 3, 4, 5, 0] (L' := [(0, .ref (ad 0 0)), (1, iv n), (2, iv ((advMN (aheadM M) n j).2.2)), (3, iv ((advMN (aheadM M) n j).2.1)), (4, iv (((j : Nat) : Int) + 1))]) rfl ?_
            exact z_conv (ih43 _ (by omega) (j + 1) (by omega) hk rfl) (by rw [show advMN (aheadM M) n (j + 1) = advMS n j (advMN (aheadM M) n j) from rfl]; simp only [advMS, ← hMj]; repeat (first | rw [if_pos (by omega)] | rw [if_neg (by omega)]); try exact hMj) (by rw [show advMN (aheadM M) n (j + 1) = advMS n j (advMN (aheadM M) n j) from rfl]; simp only [advMS, ← hMj]; repeat (first | rw [if_pos (by omega)] | rw [if_neg (by omega)]); try rfl) (by rfl)
        · skip
          refine z_goto hC 116 dX10_advise_66 (by decide) ?_
          refine z_iinc hC 4 (L' := [(4, iv (((j : Nat) : Int) + 1)), (0, .ref (ad 0 0)), (1, iv n), (2, iv ((advMN (aheadM M) n j).2.2)), (3, iv ((advMN (aheadM M) n j).2.1))]) dX10_advise_116 rfl (by decide) rfl ?_
          refine z_goto hC 43 dX10_advise_119 (by decide) ?_
          refine z_perm [1, 2, 3, 4, 0] (L' := [(0, .ref (ad 0 0)), (1, iv n), (2, iv ((advMN (aheadM M) n j).2.2)), (3, iv ((advMN (aheadM M) n j).2.1)), (4, iv (((j : Nat) : Int) + 1))]) rfl ?_
          exact z_conv (ih43 _ (by omega) (j + 1) (by omega) hk rfl) (by rw [show advMN (aheadM M) n (j + 1) = advMS n j (advMN (aheadM M) n j) from rfl]; simp only [advMS, ← hMj]; repeat (first | rw [if_pos (by omega)] | rw [if_neg (by omega)]); try exact hMj) (by rw [show advMN (aheadM M) n (j + 1) = advMS n j (advMN (aheadM M) n j) from rfl]; simp only [advMS, ← hMj]; repeat (first | rw [if_pos (by omega)] | rw [if_neg (by omega)]); try rfl) (by rfl)
  refine z_aload_n hC 0 rfl dX10_advise_0 rfl ?_
  refine z_iconst hC dX10_advise_1 ?_
  refine z_put hC zgX10_52 (tmM_0 ad tc _) (okM_0 (by omega)) rfl dX10_advise_2 ?_
  have hW1 : WTM T U (zup M 0 0 0 0) := hW.thr ⟨by omega, by omega⟩
  refine z_iload_n hC 1 rfl dX10_advise_5 rfl ?_
  refine z_iconst hC dX10_advise_6 ?_
  refine z_bipush hC dX10_advise_7 (by decide) ?_
  refine z_callSi hC zlX10_59 (k_X10_isIn l D tc ad hI (zup M 0 0 0 0) n 1 30 (by omega) (by omega) (by omega)) rfl rfl (Nat.le_of_ble_eq_true rfl) ⟨by decide, by decide⟩ ⟨by decide, by decide⟩ dX10_advise_9 ?_
  refine z_if_ne_b hC 21 dX10_advise_12 (by decide) (fun c12 => ?_) (fun c12 => ?_)
  · skip
    refine z_aload_n hC 0 rfl dX10_advise_21 rfl ?_
    refine z_getR hC zfX10_49 (tmM_0 ad tc _) (okM_0 (by omega)) rfl dX10_advise_22 ?_
    refine z_aload_n hC 0 rfl dX10_advise_25 rfl ?_
    refine z_getR hC zfX10_45 (tmM_0 ad tc _) (okM_0 (by omega)) rfl dX10_advise_26 ?_
    refine z_callVv hC zlX10_174 (k_X9_become l D tc ad hI (zup M 0 0 0 0) 1 0 (by omega) (by omega)) (tmM_11 ad tc _) rfl (okM_11 (by omega)) rfl rfl (Nat.le_of_ble_eq_true rfl) ⟨by decide, by decide⟩ ⟨by decide, by decide⟩ dX10_advise_29 ?_
    refine z_iconst hC dX10_advise_32 ?_
    refine z_istore_n hC (L' := [(2, iv (-1)), (0, .ref (ad 0 0)), (1, iv n)]) dX10_advise_33 rfl (by decide) rfl ?_
    have hW3 : WTM T U (becomeM (zup M 0 0 0 0) 1 0) := hW2
    refine z_aload_n hC 1 rfl dX10_advise_34 rfl ?_
    refine z_iload_n hC 2 rfl dX10_advise_35 rfl ?_
    refine z_callVi hC zlX10_178 (k_X10_arrivedIn l D tc ad hI (becomeM (zup M 0 0 0 0) 1 0) n hW3 ⟨by omega, by omega⟩ (by omega) (by omega) (hP (by omega) (by omega)).1) (tmM_0 ad tc _) rfl (okM_0 (by omega)) rfl rfl (Nat.le_of_ble_eq_true rfl) ⟨by decide, by decide⟩ ⟨by decide, by decide⟩ dX10_advise_36 ?_
    refine z_istore_n hC (L' := [(3, iv (manyM (passMN (becomeM (zup M 0 0 0 0) 1 0) 1 n.toNat) 1 2)), (2, iv (-1)), (0, .ref (ad 0 0)), (1, iv n)]) dX10_advise_39 rfl (by decide) rfl ?_
    refine z_iconst hC dX10_advise_40 ?_
    refine z_istore hC (L' := [(4, iv 0), (3, iv (manyM (passMN (becomeM (zup M 0 0 0 0) 1 0) 1 n.toNat) 1 2)), (2, iv (-1)), (0, .ref (ad 0 0)), (1, iv n)]) dX10_advise_41 (by decide) rfl ?_
    refine z_perm [3, 4, 2, 1, 0] (L' := [(0, .ref (ad 0 0)), (1, iv n), (2, iv (-1)), (3, iv (manyM (passMN (becomeM (zup M 0 0 0 0) 1 0) 1 n.toNat) 1 2)), (4, iv 0)]) rfl ?_
    exact z_conv (hc43 _ 0 (by omega) (by assumption) rfl) (by rfl) (by rfl) (by rfl)
  · skip
    refine z_aload_n hC 0 rfl dX10_advise_15 rfl ?_
    refine z_iconst hC dX10_advise_16 ?_
    refine z_callVi hC zlX10_82 (k_X10_no l D tc ad hI (zup M 0 0 0 0) 1 ) (tmM_0 ad tc _) rfl (okM_0 (by omega)) rfl rfl (Nat.le_of_ble_eq_true rfl) ⟨by decide, by decide⟩ ⟨by decide, by decide⟩ dX10_advise_17 ?_
    exact z_iret hC hret hlk rfl (by simp only [advFR, kAdvM]; (repeat' split) <;> first | rfl | omega) (by simp only [advFM, thM, kAdvM]; (repeat' split) <;> first | rfl | omega) dX10_advise_20
