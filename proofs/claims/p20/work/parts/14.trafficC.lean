set_option maxHeartbeats 4000000 in
set_option maxRecDepth 100000 in
theorem k_X5_addTrolleys (l : Launch) (D : va_G) (tc : Nat → ClassId) (ad : Nat → Nat → Nat) (hI : zI ad okC) (M : zM) {T U : Int} (t : Nat) (n mo : Int) (ht : t < 2) (hW : WTC T U M) (hn : 0 ≤ n ∧ n ≤ 11) : zMv l yX5_addTrolleys cX5_addTrolleys 3 none 0 D (tysC tc) ad okC (tmC ad tc) [.ref (ad 12 t), iv n, iv mo] M (addTC M t n mo) 0 0 := by
  refine z_met hI (plainFor_of_name (by decide)) (Nat.le_of_ble_eq_true rfl) ?_
  intro p e s m args below meth c hC hret hlk
  refine z_conv (L2 := [(0, .ref (ad 12 t)), (1, iv n), (2, iv mo)]) ?_ rfl rfl rfl
  refine z_aload_n hC 0 rfl dX5_addTrolleys_0 rfl ?_
  refine z_getR hC zfX5_19 (tmC_12 ad tc _) (okC_12 (by omega)) rfl dX5_addTrolleys_1 ?_
  refine z_iload_n hC 1 rfl dX5_addTrolleys_4 rfl ?_
  refine z_aaload hC 5 ((n).toNat) (ad 17 (12 * t + ((n).toNat))) (tmC_14 ad tc _) (tysC_5 tc) (okC_14 (by omega)) (by omega) (by omega) (by decide) rfl dX5_addTrolleys_5 ?_
  refine z_dup hC dX5_addTrolleys_6 rfl ?_
  have hq1 : 0 ≤ M 17 (12 * t + ((n).toNat)) 0 ∧ M 17 (12 * t + ((n).toNat)) 0 ≤ 3 := hW.1 17 (12 * t + ((n).toNat)) 0
  refine z_getI hC zfX5_55 (tmC_17 ad tc _) (okC_17 (by omega)) rfl (x := M 17 (12 * t + ((n).toNat)) 0) (rfl) dX5_addTrolleys_7 ?_
  refine z_iload_n hC 2 rfl dX5_addTrolleys_10 rfl ?_
  refine z_iadd hC dX5_addTrolleys_11 ?_
  refine z_put hC zgX5_55 (tmC_17 ad tc _) (okC_17 (by omega)) rfl dX5_addTrolleys_12 ?_
  exact z_vret hC hret hlk (by rfl) dX5_addTrolleys_15
set_option maxHeartbeats 4000000 in
set_option maxRecDepth 100000 in
theorem k_X5_reach (l : Launch) (D : va_G) (tc : Nat → ClassId) (ad : Nat → Nat → Nat) (hI : zI ad okC) (M : zM) {T U : Int} (t : Nat) (r pl : Int) (ht : t < 2) (hW : WTC T U M) (hr : 0 ≤ r ∧ r ≤ 11) (hp : 0 ≤ pl ∧ pl ≤ 7) : zMv l yX5_reach cX5_reach 3 none 1 D (tysC tc) ad okC (tmC ad tc) [.ref (ad 12 t), iv r, iv pl] M (reachC M t r pl) 0 0 := by
  refine z_met hI (plainFor_of_name (by decide)) (Nat.le_of_ble_eq_true rfl) ?_
  intro p e s m args below meth c hC hret hlk
  refine z_conv (L2 := [(0, .ref (ad 12 t)), (1, iv r), (2, iv pl)]) ?_ rfl rfl rfl
  refine z_iload_n hC 2 rfl dX5_reach_0 rfl ?_
  refine z_aload_n hC 0 rfl dX5_reach_1 rfl ?_
  refine z_getR hC zfX5_27 (tmC_12 ad tc _) (okC_12 (by omega)) rfl dX5_reach_2 ?_
  refine z_getR hC zfX5_58 (tmC_1 ad tc _) (okC_1 (by omega)) rfl dX5_reach_5 ?_
  refine z_iload_n hC 1 rfl dX5_reach_8 rfl ?_
  refine z_aaload hC 3 ((r).toNat) (ad 8 (((r).toNat))) (tmC_4 ad tc _) (tysC_3 tc) (okC_4 (by omega)) (by omega) (by omega) (by decide) rfl dX5_reach_9 ?_
  have hq1 : 0 ≤ M 8 ((r).toNat) 1 ∧ M 8 ((r).toNat) 1 ≤ 7 := hW.1 8 ((r).toNat) 1
  refine z_getI hC zfX5_62 (tmC_8 ad tc _) (okC_8 (by omega)) rfl (x := M 8 ((r).toNat) 1) (rfl) dX5_reach_10 ?_
  refine z_icmp_ne hC 33 dX5_reach_13 (by decide) (by omega) (by omega) (fun c13 => ?_) (fun c13 => ?_)
  · skip
    refine z_aload_n hC 0 rfl dX5_reach_33 rfl ?_
    have hq2 : 0 ≤ M 12 t 4 ∧ M 12 t 4 ≤ 12 := hW.1 12 t 4
    refine z_getI hC zfX5_49 (tmC_12 ad tc _) (okC_12 (by omega)) rfl (x := M 12 t 4) (rfl) dX5_reach_34 ?_
    refine z_bipush hC dX5_reach_37 (by decide) ?_
    refine z_icmp_ge hC 72 dX5_reach_39 (by decide) (by omega) (by omega) (fun c39 => ?_) (fun c39 => ?_)
    · skip
      exact z_vret hC hret hlk (by simp only [reachC]; first | (rw [if_pos (by assumption)]; done) | (rw [if_neg (by assumption), if_pos (by assumption)]; done) | (rw [if_neg (by assumption), if_neg (by omega)]; done)) dX5_reach_72
    · skip
      refine z_aload_n hC 0 rfl dX5_reach_42 rfl ?_
      refine z_getR hC zfX5_11 (tmC_12 ad tc _) (okC_12 (by omega)) rfl dX5_reach_43 ?_
      refine z_iload_n hC 1 rfl dX5_reach_46 rfl ?_
      refine z_aaload hC 4 ((r).toNat) (ad 16 (12 * t + ((r).toNat))) (tmC_13 ad tc _) (tysC_4 tc) (okC_13 (by omega)) (by omega) (by omega) (by decide) rfl dX5_reach_47 ?_
      refine z_iload_n hC 2 rfl dX5_reach_48 rfl ?_
      refine z_callVv hC zlX5_71 (k_X6_beginWait l D tc ad hI M (12 * t + ((r).toNat)) pl (by omega)) (tmC_16 ad tc _) rfl (okC_16 (by omega)) rfl rfl (Nat.le_of_ble_eq_true rfl) ⟨by decide, by decide⟩ ⟨by decide, by decide⟩ dX5_reach_49 ?_
      refine z_aload_n hC 0 rfl dX5_reach_52 rfl ?_
      refine z_getR hC zfX5_23 (tmC_12 ad tc _) (okC_12 (by omega)) rfl dX5_reach_53 ?_
      refine z_aload_n hC 0 rfl dX5_reach_56 rfl ?_
      have hq3 : 0 ≤ M 12 t 4 ∧ M 12 t 4 ≤ 12 := hW.1 12 t 4
      refine z_getI hC zfX5_49 (tmC_12 ad tc _) (okC_12 (by omega)) rfl (x := M 12 t 4) (by simp [zup, waitC_fr (f := 12) (by decide)]) dX5_reach_57 ?_
      refine z_iload_n hC 1 rfl dX5_reach_60 rfl ?_
      refine z_iastore hC 0 ((M 12 t 4).toNat) (tmC_15 ad tc _) (tysC_0 tc) (okC_15 (by omega)) (by omega) (by omega) (by decide) dX5_reach_61 ?_
      refine z_aload_n hC 0 rfl dX5_reach_62 rfl ?_
      refine z_dup hC dX5_reach_63 rfl ?_
      have hq4 : 0 ≤ M 12 t 4 ∧ M 12 t 4 ≤ 12 := hW.1 12 t 4
      refine z_getI hC zfX5_49 (tmC_12 ad tc _) (okC_12 (by omega)) rfl (x := M 12 t 4) (by simp [zup, waitC_fr (f := 12) (by decide)]) dX5_reach_64 ?_
      refine z_iconst hC dX5_reach_67 ?_
      refine z_iadd hC dX5_reach_68 ?_
      refine z_put hC zgX5_49 (tmC_12 ad tc _) (okC_12 (by omega)) rfl dX5_reach_69 ?_
      exact z_vret hC hret hlk (by simp only [reachC]; first | (rw [if_pos (by assumption)]; done) | (rw [if_neg (by assumption), if_pos (by assumption)]; done) | (rw [if_neg (by assumption), if_neg (by omega)]; done)) dX5_reach_72
  · skip
    refine z_aload_n hC 0 rfl dX5_reach_16 rfl ?_
    refine z_getR hC zfX5_11 (tmC_12 ad tc _) (okC_12 (by omega)) rfl dX5_reach_17 ?_
    refine z_iload_n hC 1 rfl dX5_reach_20 rfl ?_
    refine z_aaload hC 4 ((r).toNat) (ad 16 (12 * t + ((r).toNat))) (tmC_13 ad tc _) (tysC_4 tc) (okC_13 (by omega)) (by omega) (by omega) (by decide) rfl dX5_reach_21 ?_
    refine z_iload_n hC 2 rfl dX5_reach_22 rfl ?_
    refine z_aload_n hC 0 rfl dX5_reach_23 rfl ?_
    have hq5 : 0 ≤ M 12 t 5 ∧ M 12 t 5 ≤ T := hW.1 12 t 5
    refine z_getI hC zfX5_52 (tmC_12 ad tc _) (okC_12 (by omega)) rfl (x := M 12 t 5) (rfl) dX5_reach_24 ?_
    refine z_callVv hC zlX5_67 (k_X6_arrive l D tc ad hI M (12 * t + ((r).toNat)) pl (M 12 t 5) (by omega)) (tmC_16 ad tc _) rfl (okC_16 (by omega)) rfl rfl (Nat.le_of_ble_eq_true rfl) ⟨by decide, by decide⟩ ⟨by decide, by decide⟩ dX5_reach_27 ?_
    refine z_goto hC 72 dX5_reach_30 (by decide) ?_
    exact z_vret hC hret hlk (by simp only [reachC]; first | (rw [if_pos (by assumption)]; done) | (rw [if_neg (by assumption), if_pos (by assumption)]; done) | (rw [if_neg (by assumption), if_neg (by omega)]; done)) dX5_reach_72
set_option maxHeartbeats 4000000 in
set_option maxRecDepth 100000 in
theorem k_X5_moveTrolleys (l : Launch) (D : va_G) (tc : Nat → ClassId) (ad : Nat → Nat → Nat) (hI : zI ad okC) (M : zM) {T U : Int} (t : Nat) (ln : Nat) (i : Nat) (ht : t < 2) (hln : ln < 12) (hi : i < 24) (hW : WTC T U M) (hU : U + 3 ≤ 100000000) : zMv l yX5_moveTrolleys cX5_moveTrolleys 5 none 2 D (tysC tc) ad okC (tmC ad tc) [.ref (ad 12 t), .ref (ad 7 ln), .ref (ad 17 i)] M (moveC M t ln i) 0 0 := by
  have haw : 0 ≤ M 17 i 1 ∧ M 17 i 1 ≤ 3 := hW.1 17 i 1
  have hh := hW.2.2
  refine z_met hI (plainFor_of_name (by decide)) (Nat.le_of_ble_eq_true rfl) ?_
  intro p e s m args below meth c hC hret hlk
  refine z_conv (L2 := [(0, .ref (ad 12 t)), (1, .ref (ad 7 ln)), (2, .ref (ad 17 i))]) ?_ rfl rfl rfl
  have hc2 : ∀ (d2 : Nat) (j : Nat) (hj : j ≤ (M 17 i 1).toNat), (M 17 i 1).toNat - j = d2 → zV p l e (zrm 2 0 0) s m args below meth c (MQ below (zQv D ad okC (tmC ad tc) (moveC M t ln i) (zA ad okC s.heap.size)) args s 0 0 (zA ad okC s.heap.size)) D ad okC (tmC ad tc) (zA ad okC s.heap.size) s.heap 5 0 0 (moveN M t ln i j) [(0, .ref (ad 12 t)), (1, .ref (ad 7 ln)), (2, .ref (ad 17 i)), (3, iv ((j : Nat) : Int))] 2 [] := by
    intro d2
    induction d2 using Nat.strongRecOn with
    | _ d2 ih2 =>
      intro j hj hd2
      have hWj := moveN_wt (t := t) (ln := ln) (i := i) hW j (by omega)
      have h17 : moveN M t ln i j 17 i 1 = M 17 i 1 := by rw [moveN_fr (by decide)]
      obtain ⟨Mj, hMj⟩ : ∃ x, x = moveN M t ln i j := ⟨_, rfl⟩
      rw [← hMj]
      rw [← hMj] at hWj h17
      have hh2 := hWj.2.2
      have hr8 : -1 ≤ Mj 18 i j ∧ Mj 18 i j ≤ 11 := hWj.1 18 i j
      have hr9 : -(1000 + (U + j)) ≤ Mj 19 i j ∧ Mj 19 i j ≤ 1000 := hWj.1 19 i j
      have hl3 : 0 ≤ Mj 7 ln 3 ∧ Mj 7 ln 3 ≤ 80 := hWj.1 7 ln 3
      refine z_iload_n hC 3 rfl dX5_moveTrolleys_2 rfl ?_
      refine z_aload_n hC 2 rfl dX5_moveTrolleys_3 rfl ?_
      have hq1 : 0 ≤ Mj 17 i 1 ∧ Mj 17 i 1 ≤ 3 := hWj.1 17 i 1
      refine z_getI hC zfX5_101 (tmC_17 ad tc _) (okC_17 (by omega)) rfl (x := Mj 17 i 1) (rfl) dX5_moveTrolleys_4 ?_
      refine z_icmp_ge hC 84 dX5_moveTrolleys_7 (by decide) (by omega) (by omega) (fun c7 => ?_) (fun c7 => ?_)
      · skip
        have he : j = (M 17 i 1).toNat := by omega
        subst he
        refine z_aload_n hC 2 rfl dX5_moveTrolleys_84 rfl ?_
        have hW4 : WTC T ((U + (((M 17 i 1).toNat : Nat) : Int))) (Mj) := hWj
        refine z_callVv hC zlX5_127 (k_X7_dropPulled l D tc ad hI Mj i (by omega) (by have z0 : 0 ≤ Mj 17 i 1 ∧ Mj 17 i 1 ≤ 3 := hW4.1 17 i 1; have z1 : 0 ≤ Mj 17 i 1 ∧ Mj 17 i 1 ≤ 3 := hW4.1 17 i 1; omega) (fun k => by have z : -(1000 + (U + (((M 17 i 1).toNat : Nat) : Int))) ≤ Mj 19 i k ∧ Mj 19 i k ≤ 1000 := hW4.1 19 i k; have zz := hW4.2.2; omega)) (tmC_17 ad tc _) rfl (okC_17 (by omega)) rfl rfl (Nat.le_of_ble_eq_true rfl) ⟨by decide, by decide⟩ ⟨by decide, by decide⟩ dX5_moveTrolleys_85 ?_
        exact z_vret hC hret hlk (by rw [hMj]; rfl) dX5_moveTrolleys_88
      · skip
        refine z_aload_n hC 2 rfl dX5_moveTrolleys_10 rfl ?_
        refine z_getR hC zfX5_104 (tmC_17 ad tc _) (okC_17 (by omega)) rfl dX5_moveTrolleys_11 ?_
        refine z_iload_n hC 3 rfl dX5_moveTrolleys_14 rfl ?_
        refine z_dup2 hC dX5_moveTrolleys_15 rfl rfl ?_
        have hq2 : -(1000 + (U + j)) ≤ Mj 19 i j ∧ Mj 19 i j ≤ 1000 := hWj.1 19 i j
        refine z_iaload hC 0 (j) (tmC_19 ad tc _) (tysC_0 tc) (okC_19 (by omega)) (rfl) (by omega) (by decide) (x := Mj 19 i j) (rfl) dX5_moveTrolleys_16 ?_
        refine z_iconst hC dX5_moveTrolleys_17 ?_
        refine z_isub hC dX5_moveTrolleys_18 ?_
        refine z_iastore hC 0 (j) (tmC_19 ad tc _) (tysC_0 tc) (okC_19 (by omega)) (rfl) (by omega) (by decide) dX5_moveTrolleys_19 ?_
        refine z_aload_n hC 2 rfl dX5_moveTrolleys_20 rfl ?_
        refine z_getR hC zfX5_107 (tmC_17 ad tc _) (okC_17 (by omega)) rfl dX5_moveTrolleys_21 ?_
        refine z_iload_n hC 3 rfl dX5_moveTrolleys_24 rfl ?_
        have hq3 : -1 ≤ Mj 18 i j ∧ Mj 18 i j ≤ 11 := hWj.1 18 i j
        refine z_iaload hC 0 (j) (tmC_18 ad tc _) (tysC_0 tc) (okC_18 (by omega)) (rfl) (by omega) (by decide) (x := Mj 18 i j) (by simp [zup]) dX5_moveTrolleys_25 ?_
        refine z_istore hC (L' := [(4, iv (Mj 18 i j)), (0, .ref (ad 12 t)), (1, .ref (ad 7 ln)), (2, .ref (ad 17 i)), (3, iv ((j : Nat) : Int))]) dX5_moveTrolleys_26 (by decide) rfl ?_
        refine z_iload hC 0 rfl dX5_moveTrolleys_28 ?_
        refine z_iconst hC dX5_moveTrolleys_30 ?_
        refine z_icmp_eq hC 78 dX5_moveTrolleys_31 (by decide) (by omega) (by omega) (fun c31 => ?_) (fun c31 => ?_)
        · skip
          refine z_iinc hC 4 (L' := [(3, iv (((j : Nat) : Int) + 1)), (4, iv (Mj 18 i j)), (0, .ref (ad 12 t)), (1, .ref (ad 7 ln)), (2, .ref (ad 17 i))]) dX5_moveTrolleys_78 rfl (by decide) rfl ?_
          refine z_goto hC 2 dX5_moveTrolleys_81 (by decide) ?_
          refine z_perm [2, 3, 4, 0] (L' := [(0, .ref (ad 12 t)), (1, .ref (ad 7 ln)), (2, .ref (ad 17 i)), (3, iv (((j : Nat) : Int) + 1))]) rfl ?_
          exact z_conv (ih2 _ (by omega) (j + 1) (by omega) rfl) (by rw [show moveN M t ln i (j + 1) = moveS t ln i j (moveN M t ln i j) from rfl, ← hMj]; simp only [moveS]; first | (rw [if_pos (by assumption)]; done) | (rw [if_neg (by assumption), if_pos (by assumption)]; done) | (rw [if_neg (by assumption), if_neg (by omega)]; done)) (by rfl) (by rfl)
        · skip
          refine z_aload_n hC 1 rfl dX5_moveTrolleys_34 rfl ?_
          refine z_getR hC zfX5_11 (tmC_12 ad tc _) (okC_12 (by omega)) rfl dX5_moveTrolleys_35 ?_
          refine z_iload hC 0 rfl dX5_moveTrolleys_38 ?_
          refine z_aaload hC 4 ((Mj 18 i j).toNat) (ad 16 (12 * t + ((Mj 18 i j).toNat))) (tmC_13 ad tc _) (tysC_4 tc) (okC_13 (by omega)) (by omega) (by omega) (by decide) rfl dX5_moveTrolleys_40 ?_
          refine z_aload_n hC 3 rfl dX5_moveTrolleys_41 rfl ?_
          refine z_getR hC zfX5_104 (tmC_17 ad tc _) (okC_17 (by omega)) rfl dX5_moveTrolleys_42 ?_
          refine z_iload_n hC 4 rfl dX5_moveTrolleys_45 rfl ?_
          refine z_iaload hC 0 (j) (tmC_19 ad tc _) (tysC_0 tc) (okC_19 (by omega)) (rfl) (by omega) (by decide) (x := (Mj 19 i j) - 1) (by simp [zup]) dX5_moveTrolleys_46 ?_
          refine z_put hC zgX5_109 (tmC_16 ad tc _) (okC_16 (by omega)) rfl dX5_moveTrolleys_47 ?_
          refine z_aload_n hC 3 rfl dX5_moveTrolleys_50 rfl ?_
          refine z_getR hC zfX5_104 (tmC_17 ad tc _) (okC_17 (by omega)) rfl dX5_moveTrolleys_51 ?_
          refine z_iload_n hC 4 rfl dX5_moveTrolleys_54 rfl ?_
          refine z_iaload hC 0 (j) (tmC_19 ad tc _) (tysC_0 tc) (okC_19 (by omega)) (rfl) (by omega) (by decide) (x := (Mj 19 i j) - 1) (by simp [zup]) dX5_moveTrolleys_55 ?_
          refine z_if_gt hC 78 dX5_moveTrolleys_56 (by decide) (by omega) (fun c56 => ?_) (fun c56 => ?_)
          · skip
            refine z_iinc hC 4 (L' := [(3, iv (((j : Nat) : Int) + 1)), (4, iv (Mj 18 i j)), (0, .ref (ad 12 t)), (1, .ref (ad 7 ln)), (2, .ref (ad 17 i))]) dX5_moveTrolleys_78 rfl (by decide) rfl ?_
            refine z_goto hC 2 dX5_moveTrolleys_81 (by decide) ?_
            refine z_perm [2, 3, 4, 0] (L' := [(0, .ref (ad 12 t)), (1, .ref (ad 7 ln)), (2, .ref (ad 17 i)), (3, iv (((j : Nat) : Int) + 1))]) rfl ?_
            exact z_conv (ih2 _ (by omega) (j + 1) (by omega) rfl) (by rw [show moveN M t ln i (j + 1) = moveS t ln i j (moveN M t ln i j) from rfl, ← hMj]; simp only [moveS]; first | (rw [if_pos (by assumption)]; done) | (rw [if_neg (by assumption), if_pos (by assumption)]; done) | (rw [if_neg (by assumption), if_neg (by omega)]; done)) (by rfl) (by rfl)
          · skip
            refine z_aload_n hC 3 rfl dX5_moveTrolleys_59 rfl ?_
            refine z_iload_n hC 4 rfl dX5_moveTrolleys_60 rfl ?_
            refine z_aload_n hC 2 rfl dX5_moveTrolleys_61 rfl ?_
            refine z_callVi hC zlX5_112 (k_X1_pullMinutes l D tc ad hI (zup (zup Mj 19 i j ((Mj 19 i j) - 1)) 16 (12 * t + ((Mj 18 i j).toNat)) 3 ((Mj 19 i j) - 1)) ln (by omega) (by have y0 : (zup (zup Mj 19 i j ((Mj 19 i j) - 1)) 16 (12 * t + ((Mj 18 i j).toNat)) 3 ((Mj 19 i j) - 1)) 7 ln 3 = Mj 7 ln 3 := (by simp [zup]); have z1 : 0 ≤ Mj 7 ln 3 ∧ Mj 7 ln 3 ≤ 80 := hWj.1 7 ln 3; have y2 : (zup (zup Mj 19 i j ((Mj 19 i j) - 1)) 16 (12 * t + ((Mj 18 i j).toNat)) 3 ((Mj 19 i j) - 1)) 7 ln 3 = Mj 7 ln 3 := (by simp [zup]); have z3 : 0 ≤ Mj 7 ln 3 ∧ Mj 7 ln 3 ≤ 80 := hWj.1 7 ln 3; omega)) (tmC_7 ad tc _) rfl (okC_7 (by omega)) rfl rfl (Nat.le_of_ble_eq_true rfl) ⟨by decide, by decide⟩ ⟨by decide, by decide⟩ dX5_moveTrolleys_62 ?_
            refine z_conv (St2 := [iv (((Mj 7 ln 3) + 9) / 10), iv ((j : Nat) : Int), .ref (ad 17 i)]) ?_ rfl rfl (by simp [zup])
            refine z_callVv hC zlX5_118 (k_X7_beginPull l D tc ad hI (zup (zup Mj 19 i j ((Mj 19 i j) - 1)) 16 (12 * t + ((Mj 18 i j).toNat)) 3 ((Mj 19 i j) - 1)) i j (((Mj 7 ln 3) + 9) / 10) (by omega) (by omega)) (tmC_17 ad tc _) rfl (okC_17 (by omega)) rfl rfl (Nat.le_of_ble_eq_true rfl) ⟨by decide, by decide⟩ ⟨by decide, by decide⟩ dX5_moveTrolleys_65 ?_
            refine z_aload_n hC 1 rfl dX5_moveTrolleys_68 rfl ?_
            refine z_iload hC 0 rfl dX5_moveTrolleys_69 ?_
            refine z_aload_n hC 2 rfl dX5_moveTrolleys_71 rfl ?_
            have hq4 : 0 ≤ Mj 7 ln 1 ∧ Mj 7 ln 1 ≤ 7 := hWj.1 7 ln 1
            refine z_getI hC zfX5_121 (tmC_7 ad tc _) (okC_7 (by omega)) rfl (x := Mj 7 ln 1) (by simp [zup, pullC_fr (f := 7) (by decide)]) dX5_moveTrolleys_72 ?_
            have hW3 : WTC T ((U + j + 1)) (pullC (zup (zup Mj 19 i j ((Mj 19 i j) - 1)) 16 (12 * t + ((Mj 18 i j).toNat)) 3 ((Mj 19 i j) - 1)) i j (((Mj 7 ln 3) + 9) / 10)) := pullC_wt (((hWj.mono (T' := T) (U' := U + j + 1) (by omega) (by omega) (by omega) (by omega)).up (f := 19) (by decide) (show _ ∧ _ from ⟨by omega, by omega⟩)).up (f := 16) (k := 3) (by decide) (show _ ∧ _ from ⟨by omega, by omega⟩)) ⟨by omega, by omega⟩
            refine z_callVv hC zlX5_124 (k_X5_reach l D tc ad hI (pullC (zup (zup Mj 19 i j ((Mj 19 i j) - 1)) 16 (12 * t + ((Mj 18 i j).toNat)) 3 ((Mj 19 i j) - 1)) i j (((Mj 7 ln 3) + 9) / 10)) t (Mj 18 i j) (Mj 7 ln 1) (by omega) hW3 (by omega) (by omega)) (tmC_12 ad tc _) rfl (okC_12 (by omega)) rfl rfl (Nat.le_of_ble_eq_true rfl) ⟨by decide, by decide⟩ ⟨by decide, by decide⟩ dX5_moveTrolleys_75 ?_
            refine z_iinc hC 4 (L' := [(3, iv (((j : Nat) : Int) + 1)), (4, iv (Mj 18 i j)), (0, .ref (ad 12 t)), (1, .ref (ad 7 ln)), (2, .ref (ad 17 i))]) dX5_moveTrolleys_78 rfl (by decide) rfl ?_
            refine z_goto hC 2 dX5_moveTrolleys_81 (by decide) ?_
            refine z_perm [2, 3, 4, 0] (L' := [(0, .ref (ad 12 t)), (1, .ref (ad 7 ln)), (2, .ref (ad 17 i)), (3, iv (((j : Nat) : Int) + 1))]) rfl ?_
            exact z_conv (ih2 _ (by omega) (j + 1) (by omega) rfl) (by rw [show moveN M t ln i (j + 1) = moveS t ln i j (moveN M t ln i j) from rfl, ← hMj]; simp only [moveS]; first | (rw [if_pos (by assumption)]; done) | (rw [if_neg (by assumption), if_pos (by assumption)]; done) | (rw [if_neg (by assumption), if_neg (by omega)]; done)) (by rfl) (by rfl)
  refine z_iconst hC dX5_moveTrolleys_0 ?_
  refine z_istore_n hC (L' := [(3, iv 0), (0, .ref (ad 12 t)), (1, .ref (ad 7 ln)), (2, .ref (ad 17 i))]) dX5_moveTrolleys_1 rfl (by decide) rfl ?_
  refine z_perm [1, 2, 3, 0] (L' := [(0, .ref (ad 12 t)), (1, .ref (ad 7 ln)), (2, .ref (ad 17 i)), (3, iv 0)]) rfl ?_
  exact z_conv (hc2 _ 0 (by omega) rfl) (by rfl) (by rfl) (by rfl)
set_option maxHeartbeats 4000000 in
set_option maxRecDepth 100000 in
theorem k_X5_ridersIn (l : Launch) (D : va_G) (tc : Nat → ClassId) (ad : Nat → Nat → Nat) (hI : zI ad okC) (M : zM) {T U : Int} (t : Nat) (sx : Int) (ht : t < 2) (hW : WTC T U M) (hs : -2147483648 ≤ sx ∧ sx < 2147483648) : zMi l yX5_ridersIn cX5_ridersIn 4 (some .int) 0 D (tysC tc) ad okC (tmC ad tc) [.ref (ad 12 t), iv sx] M (ridersC M t sx) M 0 0 := by
  have hrc : 0 ≤ M 1 0 6 ∧ M 1 0 6 ≤ 12 := hW.1 1 0 6
  refine z_met hI (plainFor_of_name (by decide)) (Nat.le_of_ble_eq_true rfl) ?_
  intro p e s m args below meth c hC hret hlk
  refine z_conv (L2 := [(0, .ref (ad 12 t)), (1, iv sx)]) ?_ rfl rfl rfl
  have hc4 : ∀ (d4 : Nat) (j : Nat) (hj : j ≤ (M 1 0 6).toNat), (M 1 0 6).toNat - j = d4 → zV p l e (zrm 0 0 0) s m args below meth c (MQ below (zQi D ad okC (tmC ad tc) (ridersC M t sx) M (zA ad okC s.heap.size)) args s 0 0 (zA ad okC s.heap.size)) D ad okC (tmC ad tc) (zA ad okC s.heap.size) s.heap 4 0 0 M [(0, .ref (ad 12 t)), (1, iv sx), (2, iv (zcnt (fun j => M 16 (12 * t + j) 0 = sx) j)), (3, iv ((j : Nat) : Int))] 4 [] := by
    intro d4
    induction d4 using Nat.strongRecOn with
    | _ d4 ih4 =>
      intro j hj hd4
      refine z_iload_n hC 3 rfl dX5_ridersIn_4 rfl ?_
      refine z_aload_n hC 0 rfl dX5_ridersIn_5 rfl ?_
      refine z_getR hC zfX5_27 (tmC_12 ad tc _) (okC_12 (by omega)) rfl dX5_ridersIn_6 ?_
      have hq1 : 0 ≤ M 1 0 6 ∧ M 1 0 6 ≤ 12 := hW.1 1 0 6
      refine z_getI hC zfX5_33 (tmC_1 ad tc _) (okC_1 (by omega)) rfl (x := M 1 0 6) (rfl) dX5_ridersIn_9 ?_
      refine z_icmp_ge hC 37 dX5_ridersIn_12 (by decide) (by omega) (by omega) (fun c12 => ?_) (fun c12 => ?_)
      · skip
        have he : j = (M 1 0 6).toNat := by omega
        subst he
        refine z_iload_n hC 2 rfl dX5_ridersIn_37 rfl ?_
        exact z_iret hC hret hlk rfl (by rfl) (by rfl) dX5_ridersIn_38
      · skip
        refine z_aload_n hC 0 rfl dX5_ridersIn_15 rfl ?_
        refine z_getR hC zfX5_11 (tmC_12 ad tc _) (okC_12 (by omega)) rfl dX5_ridersIn_16 ?_
        refine z_iload_n hC 3 rfl dX5_ridersIn_19 rfl ?_
        refine z_aaload hC 4 (j) (ad 16 (12 * t + j)) (tmC_13 ad tc _) (tysC_4 tc) (okC_13 (by omega)) (rfl) (by omega) (by decide) rfl dX5_ridersIn_20 ?_
        have hq2 : 0 ≤ M 16 (12 * t + j) 0 ∧ M 16 (12 * t + j) 0 ≤ 3 := hW.1 16 (12 * t + j) 0
        refine z_getI hC zfX5_183 (tmC_16 ad tc _) (okC_16 (by omega)) rfl (x := M 16 (12 * t + j) 0) (rfl) dX5_ridersIn_21 ?_
        refine z_iload_n hC 1 rfl dX5_ridersIn_24 rfl ?_
        refine z_icmp_ne hC 31 dX5_ridersIn_25 (by decide) (by omega) (by omega) (fun c25 => ?_) (fun c25 => ?_)
        · skip
          refine z_iinc hC 3 (L' := [(3, iv (((j : Nat) : Int) + 1)), (0, .ref (ad 12 t)), (1, iv sx), (2, iv (zcnt (fun j => M 16 (12 * t + j) 0 = sx) j))]) dX5_ridersIn_31 rfl (by decide) rfl ?_
          refine z_goto hC 4 dX5_ridersIn_34 (by decide) ?_
          refine z_perm [1, 2, 3, 0] (L' := [(0, .ref (ad 12 t)), (1, iv sx), (2, iv (zcnt (fun j => M 16 (12 * t + j) 0 = sx) j)), (3, iv (((j : Nat) : Int) + 1))]) rfl ?_
          exact z_conv (ih4 _ (by omega) (j + 1) (by omega) rfl) (by rfl) (by simp only [zcnt]; simp [*]) (by rfl)
        · skip
          refine z_iinc hC 2 (L' := [(2, iv (zcnt (fun j => M 16 (12 * t + j) 0 = sx) j + 1)), (0, .ref (ad 12 t)), (1, iv sx), (3, iv ((j : Nat) : Int))]) dX5_ridersIn_28 rfl (by decide) rfl ?_
          refine z_iinc hC 3 (L' := [(3, iv (((j : Nat) : Int) + 1)), (2, iv (zcnt (fun j => M 16 (12 * t + j) 0 = sx) j + 1)), (0, .ref (ad 12 t)), (1, iv sx)]) dX5_ridersIn_31 rfl (by decide) rfl ?_
          refine z_goto hC 4 dX5_ridersIn_34 (by decide) ?_
          refine z_perm [2, 3, 1, 0] (L' := [(0, .ref (ad 12 t)), (1, iv sx), (2, iv (zcnt (fun j => M 16 (12 * t + j) 0 = sx) j + 1)), (3, iv (((j : Nat) : Int) + 1))]) rfl ?_
          exact z_conv (ih4 _ (by omega) (j + 1) (by omega) rfl) (by rfl) (by simp only [zcnt]; simp [*]) (by rfl)
  refine z_iconst hC dX5_ridersIn_0 ?_
  refine z_istore_n hC (L' := [(2, iv 0), (0, .ref (ad 12 t)), (1, iv sx)]) dX5_ridersIn_1 rfl (by decide) rfl ?_
  refine z_iconst hC dX5_ridersIn_2 ?_
  refine z_istore_n hC (L' := [(3, iv 0), (2, iv 0), (0, .ref (ad 12 t)), (1, iv sx)]) dX5_ridersIn_3 rfl (by decide) rfl ?_
  refine z_perm [2, 3, 1, 0] (L' := [(0, .ref (ad 12 t)), (1, iv sx), (2, iv 0), (3, iv 0)]) rfl ?_
  exact z_conv (hc4 _ 0 (by omega) rfl) (by rfl) (by rfl) (by rfl)
set_option maxHeartbeats 4000000 in
set_option maxRecDepth 100000 in
theorem k_X5_firstWaitingFor (l : Launch) (D : va_G) (tc : Nat → ClassId) (ad : Nat → Nat → Nat) (hI : zI ad okC) (M : zM) {T U : Int} (t : Nat) (n : Int) (ht : t < 2) (hW : WTC T U M) (hn : -1 ≤ n ∧ n ≤ 100) : zMi l yX5_firstWaitingFor cX5_firstWaitingFor 4 (some .int) 2 D (tysC tc) ad okC (tmC ad tc) [.ref (ad 12 t), iv n] M (firstC M t n) M 0 0 := by
  have hwc : 0 ≤ M 12 t 4 ∧ M 12 t 4 ≤ 12 := hW.1 12 t 4
  refine z_met hI (plainFor_of_name (by decide)) (Nat.le_of_ble_eq_true rfl) ?_
  intro p e s m args below meth c hC hret hlk
  refine z_conv (L2 := [(0, .ref (ad 12 t)), (1, iv n)]) ?_ rfl rfl rfl
  have hc2 : ∀ (d2 : Nat) (j : Nat) (hj : j ≤ (M 12 t 4).toNat) (hz : ∀ k, k < j → ¬ fwP M t n k), (M 12 t 4).toNat - j = d2 → zV p l e (zrm 2 0 0) s m args below meth c (MQ below (zQi D ad okC (tmC ad tc) (firstC M t n) M (zA ad okC s.heap.size)) args s 0 0 (zA ad okC s.heap.size)) D ad okC (tmC ad tc) (zA ad okC s.heap.size) s.heap 4 0 0 M [(0, .ref (ad 12 t)), (1, iv n), (2, iv ((j : Nat) : Int))] 2 [] := by
    intro d2
    induction d2 using Nat.strongRecOn with
    | _ d2 ih2 =>
      intro j hj hz hd2
      refine z_iload_n hC 2 rfl dX5_firstWaitingFor_2 rfl ?_
      refine z_aload_n hC 0 rfl dX5_firstWaitingFor_3 rfl ?_
      have hq1 : 0 ≤ M 12 t 4 ∧ M 12 t 4 ≤ 12 := hW.1 12 t 4
      refine z_getI hC zfX5_49 (tmC_12 ad tc _) (okC_12 (by omega)) rfl (x := M 12 t 4) (rfl) dX5_firstWaitingFor_4 ?_
      refine z_icmp_ge hC 53 dX5_firstWaitingFor_7 (by decide) (by omega) (by omega) (fun c7 => ?_) (fun c7 => ?_)
      · skip
        refine z_iconst hC dX5_firstWaitingFor_53 ?_
        exact z_iret hC hret hlk rfl (by simp only [firstC]; first | (rw [zfst_found hz (by assumption) (by omega), if_pos (by omega)]; done) | (rw [show j = (M 12 t 4).toNat by omega] at hz; rw [zfst_none hz, if_neg (by omega)])) (by rfl) dX5_firstWaitingFor_54
      · skip
        refine z_aload_n hC 0 rfl dX5_firstWaitingFor_10 rfl ?_
        refine z_getR hC zfX5_23 (tmC_12 ad tc _) (okC_12 (by omega)) rfl dX5_firstWaitingFor_11 ?_
        refine z_iload_n hC 2 rfl dX5_firstWaitingFor_14 rfl ?_
        have hq2 : 0 ≤ M 15 t j ∧ M 15 t j ≤ 11 := hW.1 15 t j
        refine z_iaload hC 0 (j) (tmC_15 ad tc _) (tysC_0 tc) (okC_15 (by omega)) (rfl) (by omega) (by decide) (x := M 15 t j) (rfl) dX5_firstWaitingFor_15 ?_
        refine z_istore_n hC (L' := [(3, iv (M 15 t j)), (0, .ref (ad 12 t)), (1, iv n), (2, iv ((j : Nat) : Int))]) dX5_firstWaitingFor_16 rfl (by decide) rfl ?_
        refine z_aload_n hC 1 rfl dX5_firstWaitingFor_17 rfl ?_
        refine z_getR hC zfX5_27 (tmC_12 ad tc _) (okC_12 (by omega)) rfl dX5_firstWaitingFor_18 ?_
        refine z_getR hC zfX5_58 (tmC_1 ad tc _) (okC_1 (by omega)) rfl dX5_firstWaitingFor_21 ?_
        refine z_iload_n hC 0 rfl dX5_firstWaitingFor_24 rfl ?_
        refine z_aaload hC 3 ((M 15 t j).toNat) (ad 8 (((M 15 t j).toNat))) (tmC_4 ad tc _) (tysC_3 tc) (okC_4 (by omega)) (by omega) (by omega) (by decide) rfl dX5_firstWaitingFor_25 ?_
        refine z_getR hC zfX5_158 (tmC_8 ad tc _) (okC_8 (by omega)) rfl dX5_firstWaitingFor_26 ?_
        refine z_aload_n hC 1 rfl dX5_firstWaitingFor_29 rfl ?_
        refine z_getR hC zfX5_11 (tmC_12 ad tc _) (okC_12 (by omega)) rfl dX5_firstWaitingFor_30 ?_
        refine z_iload_n hC 0 rfl dX5_firstWaitingFor_33 rfl ?_
        refine z_aaload hC 4 ((M 15 t j).toNat) (ad 16 (12 * t + ((M 15 t j).toNat))) (tmC_13 ad tc _) (tysC_4 tc) (okC_13 (by omega)) (by omega) (by omega) (by decide) rfl dX5_firstWaitingFor_34 ?_
        have hq3 : -1 ≤ M 16 (12 * t + ((M 15 t j).toNat)) 1 ∧ M 16 (12 * t + ((M 15 t j).toNat)) 1 ≤ 7 := hW.1 16 (12 * t + ((M 15 t j).toNat)) 1
        refine z_getI hC zfX5_162 (tmC_16 ad tc _) (okC_16 (by omega)) rfl (x := M 16 (12 * t + ((M 15 t j).toNat)) 1) (rfl) dX5_firstWaitingFor_35 ?_
        refine z_callVi hC zlX5_165 (k_X4_firstFrom l D tc ad hI M ((M 15 t j).toNat) (M 16 (12 * t + ((M 15 t j).toNat)) 1) (by omega) (by omega)) (tmC_9 ad tc _) rfl (okC_9 (by omega)) rfl rfl (Nat.le_of_ble_eq_true rfl) ⟨by decide, by decide⟩ ⟨by decide, by decide⟩ dX5_firstWaitingFor_38 ?_
        have hff := firstFromC_bd hW (M 15 t j).toNat (M 16 (12 * t + (M 15 t j).toNat) 1)
        refine z_iload_n hC 2 rfl dX5_firstWaitingFor_41 rfl ?_
        refine z_icmp_ne hC 47 dX5_firstWaitingFor_42 (by decide) (by omega) (by omega) (fun c42 => ?_) (fun c42 => ?_)
        · skip
          refine z_iinc hC 3 (L' := [(2, iv (((j : Nat) : Int) + 1)), (3, iv (M 15 t j)), (0, .ref (ad 12 t)), (1, iv n)]) dX5_firstWaitingFor_47 rfl (by decide) rfl ?_
          refine z_goto hC 2 dX5_firstWaitingFor_50 (by decide) ?_
          refine z_perm [2, 3, 0] (L' := [(0, .ref (ad 12 t)), (1, iv n), (2, iv (((j : Nat) : Int) + 1))]) rfl ?_
          exact z_conv (ih2 _ (by omega) (j + 1) (by omega) (fun k hk => (Nat.lt_or_ge k j).elim (hz k) (fun z => by rw [show k = j by omega]; assumption)) rfl) (by rfl) (by rfl) (by rfl)
        · skip
          refine z_iload_n hC 3 rfl dX5_firstWaitingFor_45 rfl ?_
          exact z_iret hC hret hlk rfl (by simp only [firstC]; first | (rw [zfst_found hz (by assumption) (by omega), if_pos (by omega)]; done) | (rw [show j = (M 12 t 4).toNat by omega] at hz; rw [zfst_none hz, if_neg (by omega)])) (by rfl) dX5_firstWaitingFor_46
  refine z_iconst hC dX5_firstWaitingFor_0 ?_
  refine z_istore_n hC (L' := [(2, iv 0), (0, .ref (ad 12 t)), (1, iv n)]) dX5_firstWaitingFor_1 rfl (by decide) rfl ?_
  refine z_perm [1, 2, 0] (L' := [(0, .ref (ad 12 t)), (1, iv n), (2, iv 0)]) rfl ?_
  exact z_conv (hc2 _ 0 (by omega) (fun k hk => by omega) rfl) (by rfl) (by rfl) (by rfl)
set_option maxHeartbeats 4000000 in
set_option maxRecDepth 100000 in
theorem k_X5_leaveWaiting (l : Launch) (D : va_G) (tc : Nat → ClassId) (ad : Nat → Nat → Nat) (hI : zI ad okC) (M : zM) {T U : Int} (t : Nat) (pl : Int) (ht : t < 2) (hW : WTC T U M) (hp : 0 ≤ pl ∧ pl < M 12 t 4) : zMv l yX5_leaveWaiting cX5_leaveWaiting 3 none 0 D (tysC tc) ad okC (tmC ad tc) [.ref (ad 12 t), iv pl] M (leaveC M t pl.toNat) 0 0 := by
  have hwc : 0 ≤ M 12 t 4 ∧ M 12 t 4 ≤ 12 := hW.1 12 t 4
  refine z_met hI (plainFor_of_name (by decide)) (Nat.le_of_ble_eq_true rfl) ?_
  intro p e s m args below meth c hC hret hlk
  refine z_conv (L2 := [(0, .ref (ad 12 t)), (1, iv pl)]) ?_ rfl rfl rfl
  have hc2 : ∀ (d2 : Nat) (j : Nat) (hj : j ≤ (M 12 t 4).toNat - 1 - pl.toNat), (M 12 t 4).toNat - 1 - pl.toNat - j = d2 → zV p l e (zrm 0 0 0) s m args below meth c (MQ below (zQv D ad okC (tmC ad tc) (leaveC M t pl.toNat) (zA ad okC s.heap.size)) args s 0 0 (zA ad okC s.heap.size)) D ad okC (tmC ad tc) (zA ad okC s.heap.size) s.heap 3 0 0 (leaveN M t pl.toNat j) [(0, .ref (ad 12 t)), (1, iv pl), (2, iv ((pl.toNat + j : Nat) : Int))] 2 [] := by
    intro d2
    induction d2 using Nat.strongRecOn with
    | _ d2 ih2 =>
      intro j hj hd2
      refine z_iload_n hC 2 rfl dX5_leaveWaiting_2 rfl ?_
      refine z_iconst hC dX5_leaveWaiting_3 ?_
      refine z_iadd hC dX5_leaveWaiting_4 ?_
      refine z_aload_n hC 0 rfl dX5_leaveWaiting_5 rfl ?_
      have hq1 : 0 ≤ M 12 t 4 ∧ M 12 t 4 ≤ 12 := hW.1 12 t 4
      refine z_getI hC zfX5_49 (tmC_12 ad tc _) (okC_12 (by omega)) rfl (x := M 12 t 4) (by simp [zup, leaveN_fr (f := 12) (by decide)]) dX5_leaveWaiting_6 ?_
      refine z_icmp_ge hC 32 dX5_leaveWaiting_9 (by decide) (by omega) (by omega) (fun c9 => ?_) (fun c9 => ?_)
      · skip
        refine z_aload_n hC 0 rfl dX5_leaveWaiting_32 rfl ?_
        refine z_dup hC dX5_leaveWaiting_33 rfl ?_
        have hq2 : 0 ≤ M 12 t 4 ∧ M 12 t 4 ≤ 12 := hW.1 12 t 4
        refine z_getI hC zfX5_49 (tmC_12 ad tc _) (okC_12 (by omega)) rfl (x := M 12 t 4) (by simp [zup, leaveN_fr (f := 12) (by decide)]) dX5_leaveWaiting_34 ?_
        refine z_iconst hC dX5_leaveWaiting_37 ?_
        refine z_isub hC dX5_leaveWaiting_38 ?_
        refine z_put hC zgX5_49 (tmC_12 ad tc _) (okC_12 (by omega)) rfl dX5_leaveWaiting_39 ?_
        exact z_vret hC hret hlk (by simp only [leaveC]; rw [show j = (M 12 t 4).toNat - 1 - pl.toNat by omega]) dX5_leaveWaiting_42
      · skip
        refine z_aload_n hC 0 rfl dX5_leaveWaiting_12 rfl ?_
        refine z_getR hC zfX5_23 (tmC_12 ad tc _) (okC_12 (by omega)) rfl dX5_leaveWaiting_13 ?_
        refine z_iload_n hC 2 rfl dX5_leaveWaiting_16 rfl ?_
        refine z_aload_n hC 0 rfl dX5_leaveWaiting_17 rfl ?_
        refine z_getR hC zfX5_23 (tmC_12 ad tc _) (okC_12 (by omega)) rfl dX5_leaveWaiting_18 ?_
        refine z_iload_n hC 2 rfl dX5_leaveWaiting_21 rfl ?_
        refine z_iconst hC dX5_leaveWaiting_22 ?_
        refine z_iadd hC dX5_leaveWaiting_23 ?_
        refine z_iaload hC 0 ((pl.toNat + j) + 1) (tmC_15 ad tc _) (tysC_0 tc) (okC_15 (by omega)) (rfl) (by omega) (by decide) (x := (leaveN M t pl.toNat j) 15 t ((pl.toNat + j) + 1)) (rfl) dX5_leaveWaiting_24 ?_
        refine z_iastore hC 0 (pl.toNat + j) (tmC_15 ad tc _) (tysC_0 tc) (okC_15 (by omega)) (rfl) (by omega) (by decide) dX5_leaveWaiting_25 ?_
        refine z_iinc hC 2 (L' := [(2, iv (((pl.toNat + j : Nat) : Int) + 1)), (0, .ref (ad 12 t)), (1, iv pl)]) dX5_leaveWaiting_26 rfl (by decide) rfl ?_
        refine z_goto hC 2 dX5_leaveWaiting_29 (by decide) ?_
        refine z_perm [1, 2, 0] (L' := [(0, .ref (ad 12 t)), (1, iv pl), (2, iv (((pl.toNat + j : Nat) : Int) + 1))]) rfl ?_
        exact z_conv (ih2 _ (by omega) (j + 1) (by omega) rfl) (by rfl) (by rfl) (by rfl)
  refine z_iload_n hC 1 rfl dX5_leaveWaiting_0 rfl ?_
  refine z_istore_n hC (L' := [(2, iv pl), (0, .ref (ad 12 t)), (1, iv pl)]) dX5_leaveWaiting_1 rfl (by decide) rfl ?_
  refine z_perm [1, 2, 0] (L' := [(0, .ref (ad 12 t)), (1, iv pl), (2, iv pl)]) rfl ?_
  exact z_conv (hc2 _ 0 (by omega) rfl) (by rfl) (by simp [Int.toNat_of_nonneg hp.1]) (by rfl)
set_option maxHeartbeats 4000000 in
set_option maxRecDepth 100000 in
theorem k_X5_givesUp (l : Launch) (D : va_G) (tc : Nat → ClassId) (ad : Nat → Nat → Nat) (hI : zI ad okC) (M : zM) {T U : Int} (r : Nat) (i : Nat) (hr : r < 12) (hi : i < 24) (hW : WTC T U M) : zMi l yX5_givesUp cX5_givesUp 2 (some .boolean) 2 D (tysC tc) ad okC (tmC ad tc) [.ref (ad 8 r), .ref (ad 16 i)] M (if tiresP M r i then 1 else 0) M 0 0 := by
  refine z_met hI (plainFor_of_name (by decide)) (Nat.le_of_ble_eq_true rfl) ?_
  intro p e s m args below meth c hC hret hlk
  refine z_conv (L2 := [(0, .ref (ad 8 r)), (1, .ref (ad 16 i))]) ?_ rfl rfl rfl
  refine z_aload_n hC 0 rfl dX5_givesUp_0 rfl ?_
  refine z_getR hC zfX5_158 (tmC_8 ad tc _) (okC_8 (by omega)) rfl dX5_givesUp_1 ?_
  refine z_aload_n hC 1 rfl dX5_givesUp_4 rfl ?_
  have hq1 : -1 ≤ M 16 i 1 ∧ M 16 i 1 ≤ 7 := hW.1 16 i 1
  refine z_getI hC zfX5_162 (tmC_16 ad tc _) (okC_16 (by omega)) rfl (x := M 16 i 1) (rfl) dX5_givesUp_5 ?_
  refine z_callVi hC zlX5_177 (k_X4_linesFrom l D tc ad hI M r (M 16 i 1) (by omega) (by omega)) (tmC_9 ad tc _) rfl (okC_9 (by omega)) rfl rfl (Nat.le_of_ble_eq_true rfl) ⟨by decide, by decide⟩ ⟨by decide, by decide⟩ dX5_givesUp_8 ?_
  have hlf := linesFromC_bd hW r (M 16 i 1)
  have hhb := hW.2.2
  refine z_iconst hC dX5_givesUp_11 ?_
  refine z_icmp_eq hC 26 dX5_givesUp_12 (by decide) (by omega) (by omega) (fun c12 => ?_) (fun c12 => ?_)
  · skip
    refine z_iconst hC dX5_givesUp_26 ?_
    refine z_goto hC 31 dX5_givesUp_27 (by decide) ?_
    exact z_iret hC hret hlk (by decide) (by first | rw [if_pos (by first | exact Or.inl (by assumption) | exact Or.inr (by omega))] | (rw [if_neg (by intro z; omega)])) (by rfl) dX5_givesUp_31
  · skip
    refine z_aload_n hC 1 rfl dX5_givesUp_15 rfl ?_
    have hq2 : -(1000 + U) ≤ M 16 i 3 ∧ M 16 i 3 ≤ 1000 + U := hW.1 16 i 3
    refine z_getI hC zfX5_109 (tmC_16 ad tc _) (okC_16 (by omega)) rfl (x := M 16 i 3) (rfl) dX5_givesUp_16 ?_
    refine z_aload_n hC 0 rfl dX5_givesUp_19 rfl ?_
    have hq3 : 0 ≤ M 8 r 3 ∧ M 8 r 3 ≤ 60 := hW.1 8 r 3
    refine z_getI hC zfX5_180 (tmC_8 ad tc _) (okC_8 (by omega)) rfl (x := M 8 r 3) (rfl) dX5_givesUp_20 ?_
    refine z_icmp_lt hC 30 dX5_givesUp_23 (by decide) (by omega) (by omega) (fun c23 => ?_) (fun c23 => ?_)
    · skip
      refine z_iconst hC dX5_givesUp_30 ?_
      exact z_iret hC hret hlk (by decide) (by first | rw [if_pos (by first | exact Or.inl (by assumption) | exact Or.inr (by omega))] | (rw [if_neg (by intro z; omega)])) (by rfl) dX5_givesUp_31
    · skip
      refine z_iconst hC dX5_givesUp_26 ?_
      refine z_goto hC 31 dX5_givesUp_27 (by decide) ?_
      exact z_iret hC hret hlk (by decide) (by first | rw [if_pos (by first | exact Or.inl (by assumption) | exact Or.inr (by omega))] | (rw [if_neg (by intro z; omega)])) (by rfl) dX5_givesUp_31
set_option maxHeartbeats 4000000 in
set_option maxRecDepth 100000 in
theorem k_X5_beginRide (l : Launch) (D : va_G) (tc : Nat → ClassId) (ad : Nat → Nat → Nat) (hI : zI ad okC) (M : zM) {T U : Int} (t : Nat) (ln : Nat) (ht : t < 2) (hln : ln < 12) (hW : WTC T U M) : zMv l yX5_beginRide cX5_beginRide 7 none 3 D (tysC tc) ad okC (tmC ad tc) [.ref (ad 12 t), .ref (ad 7 ln), iv ((ln : Nat) : Int)] M (beginC M t ln) 0 0 := by
  have hwc : 0 ≤ M 12 t 4 ∧ M 12 t 4 ≤ 12 := hW.1 12 t 4
  have hfb := firstC_bd (M := M) (t := t) (n := (ln : Int)) hwc.1
  refine z_met hI (plainFor_of_name (by decide)) (Nat.le_of_ble_eq_true rfl) ?_
  intro p e s m args below meth c hC hret hlk
  refine z_conv (L2 := [(0, .ref (ad 12 t)), (1, .ref (ad 7 ln)), (2, iv ((ln : Nat) : Int))]) ?_ rfl rfl rfl
  refine z_aload_n hC 0 rfl dX5_beginRide_0 rfl ?_
  refine z_iload_n hC 2 rfl dX5_beginRide_1 rfl ?_
  refine z_callVi hC zlX5_130 (k_X5_firstWaitingFor l D tc ad hI M t ((ln : Nat) : Int) (by omega) hW (by omega)) (tmC_12 ad tc _) rfl (okC_12 (by omega)) rfl rfl (Nat.le_of_ble_eq_true rfl) ⟨by decide, by decide⟩ ⟨by decide, by decide⟩ dX5_beginRide_2 ?_
  refine z_istore_n hC (L' := [(3, iv (firstC M t ((ln : Nat) : Int))), (0, .ref (ad 12 t)), (1, .ref (ad 7 ln)), (2, iv ((ln : Nat) : Int))]) dX5_beginRide_5 rfl (by decide) rfl ?_
  refine z_iload_n hC 0 rfl dX5_beginRide_6 rfl ?_
  refine z_iconst hC dX5_beginRide_7 ?_
  refine z_icmp_eq hC 23 dX5_beginRide_8 (by decide) (by omega) (by omega) (fun c8 => ?_) (fun c8 => ?_)
  · skip
    exact z_vret hC hret hlk (by simp only [beginC]; first | (rw [if_pos (by assumption)]; done) | (rw [if_neg (by assumption), if_neg (by assumption)]; done)) dX5_beginRide_23
  · skip
    refine z_aload_n hC 1 rfl dX5_beginRide_11 rfl ?_
    refine z_getR hC zfX5_19 (tmC_12 ad tc _) (okC_12 (by omega)) rfl dX5_beginRide_12 ?_
    refine z_iload_n hC 3 rfl dX5_beginRide_15 rfl ?_
    refine z_aaload hC 5 (ln) (ad 17 (12 * t + ln)) (tmC_14 ad tc _) (tysC_5 tc) (okC_14 (by omega)) (rfl) (by omega) (by decide) rfl dX5_beginRide_16 ?_
    refine z_callVi hC zlX5_133 (k_X7_canLeaveTop l D tc ad hI M (12 * t + ln) (by omega) (by have z0 : 0 ≤ M 17 (12 * t + ln) 1 ∧ M 17 (12 * t + ln) 1 ≤ 3 := hW.1 17 (12 * t + ln) 1; have z1 : 0 ≤ M 17 (12 * t + ln) 1 ∧ M 17 (12 * t + ln) 1 ≤ 3 := hW.1 17 (12 * t + ln) 1; omega) (by have z0 : 0 ≤ M 17 (12 * t + ln) 0 ∧ M 17 (12 * t + ln) 0 ≤ 3 := hW.1 17 (12 * t + ln) 0; have z1 : 0 ≤ M 17 (12 * t + ln) 0 ∧ M 17 (12 * t + ln) 0 ≤ 3 := hW.1 17 (12 * t + ln) 0; omega)) (tmC_17 ad tc _) rfl (okC_17 (by omega)) rfl rfl (Nat.le_of_ble_eq_true rfl) ⟨by decide, by decide⟩ ⟨by decide, by decide⟩ dX5_beginRide_17 ?_
    refine z_if_ne_b hC 24 dX5_beginRide_20 (by decide) (fun c20 => ?_) (fun c20 => ?_)
    · skip
      refine z_aload_n hC 1 rfl dX5_beginRide_24 rfl ?_
      refine z_getR hC zfX5_23 (tmC_12 ad tc _) (okC_12 (by omega)) rfl dX5_beginRide_25 ?_
      refine z_iload_n hC 0 rfl dX5_beginRide_28 rfl ?_
      have hq1 : 0 ≤ M 15 t ((firstC M t ((ln : Nat) : Int)).toNat) ∧ M 15 t ((firstC M t ((ln : Nat) : Int)).toNat) ≤ 11 := hW.1 15 t ((firstC M t ((ln : Nat) : Int)).toNat)
      refine z_iaload hC 0 ((firstC M t ((ln : Nat) : Int)).toNat) (tmC_15 ad tc _) (tysC_0 tc) (okC_15 (by omega)) (by omega) (by omega) (by decide) (x := M 15 t ((firstC M t ((ln : Nat) : Int)).toNat)) (rfl) dX5_beginRide_29 ?_
      refine z_istore hC (L' := [(4, iv (M 15 t ((firstC M t ((ln : Nat) : Int)).toNat))), (3, iv (firstC M t ((ln : Nat) : Int))), (0, .ref (ad 12 t)), (1, .ref (ad 7 ln)), (2, iv ((ln : Nat) : Int))]) dX5_beginRide_30 (by decide) rfl ?_
      refine z_aload_n hC 2 rfl dX5_beginRide_32 rfl ?_
      refine z_getR hC zfX5_27 (tmC_12 ad tc _) (okC_12 (by omega)) rfl dX5_beginRide_33 ?_
      refine z_getR hC zfX5_58 (tmC_1 ad tc _) (okC_1 (by omega)) rfl dX5_beginRide_36 ?_
      refine z_iload hC 0 rfl dX5_beginRide_39 ?_
      refine z_aaload hC 3 ((M 15 t ((firstC M t ((ln : Nat) : Int)).toNat)).toNat) (ad 8 (((M 15 t ((firstC M t ((ln : Nat) : Int)).toNat)).toNat))) (tmC_4 ad tc _) (tysC_3 tc) (okC_4 (by omega)) (by omega) (by omega) (by decide) rfl dX5_beginRide_41 ?_
      have hq2 : 0 ≤ M 8 ((M 15 t ((firstC M t ((ln : Nat) : Int)).toNat)).toNat) 2 ∧ M 8 ((M 15 t ((firstC M t ((ln : Nat) : Int)).toNat)).toNat) 2 ≤ 120 := hW.1 8 ((M 15 t ((firstC M t ((ln : Nat) : Int)).toNat)).toNat) 2
      refine z_getI hC zfX5_137 (tmC_8 ad tc _) (okC_8 (by omega)) rfl (x := M 8 ((M 15 t ((firstC M t ((ln : Nat) : Int)).toNat)).toNat) 2) (rfl) dX5_beginRide_42 ?_
      refine z_istore hC (L' := [(5, iv (M 8 ((M 15 t ((firstC M t ((ln : Nat) : Int)).toNat)).toNat) 2)), (4, iv (M 15 t ((firstC M t ((ln : Nat) : Int)).toNat))), (3, iv (firstC M t ((ln : Nat) : Int))), (0, .ref (ad 12 t)), (1, .ref (ad 7 ln)), (2, iv ((ln : Nat) : Int))]) dX5_beginRide_45 (by decide) rfl ?_
      refine z_aload_n hC 4 rfl dX5_beginRide_47 rfl ?_
      refine z_iload hC 0 rfl dX5_beginRide_48 ?_
      refine z_callVi hC zlX5_140 (k_X1_rideMinutes l D tc ad hI M ln (M 8 ((M 15 t ((firstC M t ((ln : Nat) : Int)).toNat)).toNat) 2) (by omega) (by omega) (by have z0 : 0 ≤ M 7 ln 4 ∧ M 7 ln 4 ≤ 60 := hW.1 7 ln 4; have z1 : 0 ≤ M 7 ln 4 ∧ M 7 ln 4 ≤ 60 := hW.1 7 ln 4; omega) (by have z0 : 0 ≤ M 7 ln 3 ∧ M 7 ln 3 ≤ 80 := hW.1 7 ln 3; have z1 : 0 ≤ M 7 ln 3 ∧ M 7 ln 3 ≤ 80 := hW.1 7 ln 3; omega)) (tmC_7 ad tc _) rfl (okC_7 (by omega)) rfl rfl (Nat.le_of_ble_eq_true rfl) ⟨by decide, by decide⟩ ⟨by decide, by decide⟩ dX5_beginRide_50 ?_
      have hrb := rideC_bd (len := M 7 ln 3) (drop := M 7 ln 4) (w := M 8 (M 15 t (firstC M t ln).toNat).toNat 2) (hW.1 7 ln 3) (hW.1 7 ln 4) (by omega)
      refine z_istore hC (L' := [(6, iv (rideC (M 7 ln 3) (M 7 ln 4) (M 8 ((M 15 t ((firstC M t ((ln : Nat) : Int)).toNat)).toNat) 2))), (5, iv (M 8 ((M 15 t ((firstC M t ((ln : Nat) : Int)).toNat)).toNat) 2)), (4, iv (M 15 t ((firstC M t ((ln : Nat) : Int)).toNat))), (3, iv (firstC M t ((ln : Nat) : Int))), (0, .ref (ad 12 t)), (1, .ref (ad 7 ln)), (2, iv ((ln : Nat) : Int))]) dX5_beginRide_53 (by decide) rfl ?_
      refine z_aload_n hC 4 rfl dX5_beginRide_55 rfl ?_
      refine z_iload_n hC 3 rfl dX5_beginRide_56 rfl ?_
      refine z_callVv hC zlX5_143 (k_X5_leaveWaiting l D tc ad hI M t (firstC M t ((ln : Nat) : Int)) (by omega) hW (by have z0 : 0 ≤ M 12 t 4 ∧ M 12 t 4 ≤ 12 := hW.1 12 t 4; omega)) (tmC_12 ad tc _) rfl (okC_12 (by omega)) rfl rfl (Nat.le_of_ble_eq_true rfl) ⟨by decide, by decide⟩ ⟨by decide, by decide⟩ dX5_beginRide_57 ?_
      refine z_aload_n hC 4 rfl dX5_beginRide_60 rfl ?_
      refine z_getR hC zfX5_11 (tmC_12 ad tc _) (okC_12 (by omega)) rfl dX5_beginRide_61 ?_
      refine z_iload hC 2 rfl dX5_beginRide_64 ?_
      refine z_aaload hC 4 ((M 15 t ((firstC M t ((ln : Nat) : Int)).toNat)).toNat) (ad 16 (12 * t + ((M 15 t ((firstC M t ((ln : Nat) : Int)).toNat)).toNat))) (tmC_13 ad tc _) (tysC_4 tc) (okC_13 (by omega)) (by omega) (by omega) (by decide) rfl dX5_beginRide_66 ?_
      refine z_iload_n hC 6 rfl dX5_beginRide_67 rfl ?_
      refine z_iload hC 0 rfl dX5_beginRide_68 ?_
      refine z_callVv hC zlX5_146 (k_X6_beginRide l D tc ad hI (leaveC M t (firstC M t ((ln : Nat) : Int)).toNat) (12 * t + ((M 15 t ((firstC M t ((ln : Nat) : Int)).toNat)).toNat)) ((ln : Nat) : Int) (rideC (M 7 ln 3) (M 7 ln 4) (M 8 ((M 15 t ((firstC M t ((ln : Nat) : Int)).toNat)).toNat) 2)) (by omega)) (tmC_16 ad tc _) rfl (okC_16 (by omega)) rfl rfl (Nat.le_of_ble_eq_true rfl) ⟨by decide, by decide⟩ ⟨by decide, by decide⟩ dX5_beginRide_70 ?_
      refine z_aload_n hC 4 rfl dX5_beginRide_73 rfl ?_
      refine z_getR hC zfX5_19 (tmC_12 ad tc _) (okC_12 (by omega)) rfl dX5_beginRide_74 ?_
      refine z_iload_n hC 6 rfl dX5_beginRide_77 rfl ?_
      refine z_aaload hC 5 (ln) (ad 17 (12 * t + ln)) (tmC_14 ad tc _) (tysC_5 tc) (okC_14 (by omega)) (rfl) (by omega) (by decide) rfl dX5_beginRide_78 ?_
      refine z_iload hC 2 rfl dX5_beginRide_79 ?_
      refine z_iload hC 0 rfl dX5_beginRide_81 ?_
      refine z_callVv hC zlX5_148 (k_X7_leaveTop l D tc ad hI (rideTC (leaveC M t (firstC M t ((ln : Nat) : Int)).toNat) (12 * t + ((M 15 t ((firstC M t ((ln : Nat) : Int)).toNat)).toNat)) ((ln : Nat) : Int) (rideC (M 7 ln 3) (M 7 ln 4) (M 8 ((M 15 t ((firstC M t ((ln : Nat) : Int)).toNat)).toNat) 2))) (12 * t + ln) (M 15 t ((firstC M t ((ln : Nat) : Int)).toNat)) (rideC (M 7 ln 3) (M 7 ln 4) (M 8 ((M 15 t ((firstC M t ((ln : Nat) : Int)).toNat)).toNat) 2)) (by omega) (by have y0 : (rideTC (leaveC M t (firstC M t ((ln : Nat) : Int)).toNat) (12 * t + ((M 15 t ((firstC M t ((ln : Nat) : Int)).toNat)).toNat)) ((ln : Nat) : Int) (rideC (M 7 ln 3) (M 7 ln 4) (M 8 ((M 15 t ((firstC M t ((ln : Nat) : Int)).toNat)).toNat) 2))) 17 (12 * t + ln) 1 = M 17 (12 * t + ln) 1 := (by simp [zup, rideTC_fr (f := 17) (by decide), leaveC_fr (f := 17) (by decide)]); have z1 : 0 ≤ M 17 (12 * t + ln) 1 ∧ M 17 (12 * t + ln) 1 ≤ 3 := hW.1 17 (12 * t + ln) 1; have y2 : (rideTC (leaveC M t (firstC M t ((ln : Nat) : Int)).toNat) (12 * t + ((M 15 t ((firstC M t ((ln : Nat) : Int)).toNat)).toNat)) ((ln : Nat) : Int) (rideC (M 7 ln 3) (M 7 ln 4) (M 8 ((M 15 t ((firstC M t ((ln : Nat) : Int)).toNat)).toNat) 2))) 17 (12 * t + ln) 1 = M 17 (12 * t + ln) 1 := (by simp [zup, rideTC_fr (f := 17) (by decide), leaveC_fr (f := 17) (by decide)]); have z3 : 0 ≤ M 17 (12 * t + ln) 1 ∧ M 17 (12 * t + ln) 1 ≤ 3 := hW.1 17 (12 * t + ln) 1; omega)) (tmC_17 ad tc _) rfl (okC_17 (by omega)) rfl rfl (Nat.le_of_ble_eq_true rfl) ⟨by decide, by decide⟩ ⟨by decide, by decide⟩ dX5_beginRide_83 ?_
      refine z_aload_n hC 4 rfl dX5_beginRide_86 rfl ?_
      refine z_getR hC zfX5_19 (tmC_12 ad tc _) (okC_12 (by omega)) rfl dX5_beginRide_87 ?_
      refine z_iload_n hC 6 rfl dX5_beginRide_90 rfl ?_
      refine z_aaload hC 5 (ln) (ad 17 (12 * t + ln)) (tmC_14 ad tc _) (tysC_5 tc) (okC_14 (by omega)) (rfl) (by omega) (by decide) rfl dX5_beginRide_91 ?_
      refine z_dup hC dX5_beginRide_92 rfl ?_
      refine z_getI hC zfX5_151 (tmC_17 ad tc _) (okC_17 (by omega)) rfl (x := (leaveTopC (rideTC (leaveC M t (firstC M t ((ln : Nat) : Int)).toNat) (12 * t + ((M 15 t ((firstC M t ((ln : Nat) : Int)).toNat)).toNat)) ((ln : Nat) : Int) (rideC (M 7 ln 3) (M 7 ln 4) (M 8 ((M 15 t ((firstC M t ((ln : Nat) : Int)).toNat)).toNat) 2))) (12 * t + ln) (M 15 t ((firstC M t ((ln : Nat) : Int)).toNat)) (rideC (M 7 ln 3) (M 7 ln 4) (M 8 ((M 15 t ((firstC M t ((ln : Nat) : Int)).toNat)).toNat) 2))) 17 (12 * t + ln) 5) (rfl) dX5_beginRide_93 ?_
      refine z_aload_n hC 5 rfl dX5_beginRide_96 rfl ?_
      refine z_iload hC 1 rfl dX5_beginRide_97 ?_
      refine z_callVi hC zlX5_154 (k_X1_getsStuck l D tc ad hI (leaveTopC (rideTC (leaveC M t (firstC M t ((ln : Nat) : Int)).toNat) (12 * t + ((M 15 t ((firstC M t ((ln : Nat) : Int)).toNat)).toNat)) ((ln : Nat) : Int) (rideC (M 7 ln 3) (M 7 ln 4) (M 8 ((M 15 t ((firstC M t ((ln : Nat) : Int)).toNat)).toNat) 2))) (12 * t + ln) (M 15 t ((firstC M t ((ln : Nat) : Int)).toNat)) (rideC (M 7 ln 3) (M 7 ln 4) (M 8 ((M 15 t ((firstC M t ((ln : Nat) : Int)).toNat)).toNat) 2))) ln (M 8 ((M 15 t ((firstC M t ((ln : Nat) : Int)).toNat)).toNat) 2) (by omega) (by omega) (by have y0 : (leaveTopC (rideTC (leaveC M t (firstC M t ((ln : Nat) : Int)).toNat) (12 * t + ((M 15 t ((firstC M t ((ln : Nat) : Int)).toNat)).toNat)) ((ln : Nat) : Int) (rideC (M 7 ln 3) (M 7 ln 4) (M 8 ((M 15 t ((firstC M t ((ln : Nat) : Int)).toNat)).toNat) 2))) (12 * t + ln) (M 15 t ((firstC M t ((ln : Nat) : Int)).toNat)) (rideC (M 7 ln 3) (M 7 ln 4) (M 8 ((M 15 t ((firstC M t ((ln : Nat) : Int)).toNat)).toNat) 2))) 7 ln 4 = M 7 ln 4 := (by simp [zup, leaveTopC_fr (f := 7) (by decide), rideTC_fr (f := 7) (by decide), leaveC_fr (f := 7) (by decide)]); have z1 : 0 ≤ M 7 ln 4 ∧ M 7 ln 4 ≤ 60 := hW.1 7 ln 4; have y2 : (leaveTopC (rideTC (leaveC M t (firstC M t ((ln : Nat) : Int)).toNat) (12 * t + ((M 15 t ((firstC M t ((ln : Nat) : Int)).toNat)).toNat)) ((ln : Nat) : Int) (rideC (M 7 ln 3) (M 7 ln 4) (M 8 ((M 15 t ((firstC M t ((ln : Nat) : Int)).toNat)).toNat) 2))) (12 * t + ln) (M 15 t ((firstC M t ((ln : Nat) : Int)).toNat)) (rideC (M 7 ln 3) (M 7 ln 4) (M 8 ((M 15 t ((firstC M t ((ln : Nat) : Int)).toNat)).toNat) 2))) 7 ln 4 = M 7 ln 4 := (by simp [zup, leaveTopC_fr (f := 7) (by decide), rideTC_fr (f := 7) (by decide), leaveC_fr (f := 7) (by decide)]); have z3 : 0 ≤ M 7 ln 4 ∧ M 7 ln 4 ≤ 60 := hW.1 7 ln 4; omega) (by have y0 : (leaveTopC (rideTC (leaveC M t (firstC M t ((ln : Nat) : Int)).toNat) (12 * t + ((M 15 t ((firstC M t ((ln : Nat) : Int)).toNat)).toNat)) ((ln : Nat) : Int) (rideC (M 7 ln 3) (M 7 ln 4) (M 8 ((M 15 t ((firstC M t ((ln : Nat) : Int)).toNat)).toNat) 2))) (12 * t + ln) (M 15 t ((firstC M t ((ln : Nat) : Int)).toNat)) (rideC (M 7 ln 3) (M 7 ln 4) (M 8 ((M 15 t ((firstC M t ((ln : Nat) : Int)).toNat)).toNat) 2))) 7 ln 3 = M 7 ln 3 := (by simp [zup, leaveTopC_fr (f := 7) (by decide), rideTC_fr (f := 7) (by decide), leaveC_fr (f := 7) (by decide)]); have z1 : 0 ≤ M 7 ln 3 ∧ M 7 ln 3 ≤ 80 := hW.1 7 ln 3; have y2 : (leaveTopC (rideTC (leaveC M t (firstC M t ((ln : Nat) : Int)).toNat) (12 * t + ((M 15 t ((firstC M t ((ln : Nat) : Int)).toNat)).toNat)) ((ln : Nat) : Int) (rideC (M 7 ln 3) (M 7 ln 4) (M 8 ((M 15 t ((firstC M t ((ln : Nat) : Int)).toNat)).toNat) 2))) (12 * t + ln) (M 15 t ((firstC M t ((ln : Nat) : Int)).toNat)) (rideC (M 7 ln 3) (M 7 ln 4) (M 8 ((M 15 t ((firstC M t ((ln : Nat) : Int)).toNat)).toNat) 2))) 7 ln 3 = M 7 ln 3 := (by simp [zup, leaveTopC_fr (f := 7) (by decide), rideTC_fr (f := 7) (by decide), leaveC_fr (f := 7) (by decide)]); have z3 : 0 ≤ M 7 ln 3 ∧ M 7 ln 3 ≤ 80 := hW.1 7 ln 3; omega)) (tmC_7 ad tc _) rfl (okC_7 (by omega)) rfl rfl (Nat.le_of_ble_eq_true rfl) ⟨by decide, by decide⟩ ⟨by decide, by decide⟩ dX5_beginRide_99 ?_
      refine z_conv (St2 := [iv (if (M 8 ((M 15 t ((firstC M t ((ln : Nat) : Int)).toNat)).toNat) 2) * (M 7 ln 4) < 10 * (M 7 ln 3) then 1 else 0), iv ((leaveTopC (rideTC (leaveC M t (firstC M t ((ln : Nat) : Int)).toNat) (12 * t + ((M 15 t ((firstC M t ((ln : Nat) : Int)).toNat)).toNat)) ((ln : Nat) : Int) (rideC (M 7 ln 3) (M 7 ln 4) (M 8 ((M 15 t ((firstC M t ((ln : Nat) : Int)).toNat)).toNat) 2))) (12 * t + ln) (M 15 t ((firstC M t ((ln : Nat) : Int)).toNat)) (rideC (M 7 ln 3) (M 7 ln 4) (M 8 ((M 15 t ((firstC M t ((ln : Nat) : Int)).toNat)).toNat) 2))) 17 (12 * t + ln) 5), .ref (ad 17 (12 * t + ln))]) ?_ rfl rfl (by simp [zup, leaveC_fr (f := 7) (by decide), leaveTopC_fr (f := 7) (by decide), rideTC_fr (f := 7) (by decide)])
      refine z_if_eq_b hC 109 dX5_beginRide_102 (by decide) (fun c102 => ?_) (fun c102 => ?_)
      · skip
        refine z_iconst hC dX5_beginRide_109 ?_
        refine z_iadd hC dX5_beginRide_110 ?_
        refine z_put hC zgX5_151 (tmC_17 ad tc _) (okC_17 (by omega)) rfl dX5_beginRide_111 ?_
        exact z_vret hC hret hlk (by simp only [beginC]; rw [if_neg (by assumption), if_pos (by assumption)]; first | rw [if_pos (by assumption)] | rw [if_neg (by assumption)]) dX5_beginRide_114
      · skip
        refine z_iconst hC dX5_beginRide_105 ?_
        refine z_goto hC 110 dX5_beginRide_106 (by decide) ?_
        refine z_iadd hC dX5_beginRide_110 ?_
        refine z_put hC zgX5_151 (tmC_17 ad tc _) (okC_17 (by omega)) rfl dX5_beginRide_111 ?_
        exact z_vret hC hret hlk (by simp only [beginC]; rw [if_neg (by assumption), if_pos (by assumption)]; first | rw [if_pos (by assumption)] | rw [if_neg (by assumption)]) dX5_beginRide_114
    · skip
      exact z_vret hC hret hlk (by simp only [beginC]; first | (rw [if_pos (by assumption)]; done) | (rw [if_neg (by assumption), if_neg (by assumption)]; done)) dX5_beginRide_23
set_option maxHeartbeats 4000000 in
set_option maxRecDepth 100000 in
theorem k_X5_tireWaiting (l : Launch) (D : va_G) (tc : Nat → ClassId) (ad : Nat → Nat → Nat) (hI : zI ad okC) (M : zM) {T U : Int} (t : Nat) (ht : t < 2) (hW : WTC T U M) (hU : U + 12 ≤ 100000000) : zMv l yX5_tireWaiting cX5_tireWaiting 5 none 3 D (tysC tc) ad okC (tmC ad tc) [.ref (ad 12 t)] M (tireC M t) 0 0 := by
  have hwc : 0 ≤ M 12 t 4 ∧ M 12 t 4 ≤ 12 := hW.1 12 t 4
  have hh := hW.2.2
  refine z_met hI (plainFor_of_name (by decide)) (Nat.le_of_ble_eq_true rfl) ?_
  intro p e s m args below meth c hC hret hlk
  refine z_conv (L2 := [(0, .ref (ad 12 t))]) ?_ rfl rfl rfl
  have hc4 : ∀ (d4 : Nat) (j : Nat) (hj : j ≤ (M 12 t 4).toNat), (M 12 t 4).toNat - j = d4 → zV p l e (zrm 3 0 0) s m args below meth c (MQ below (zQv D ad okC (tmC ad tc) (tireC M t) (zA ad okC s.heap.size)) args s 0 0 (zA ad okC s.heap.size)) D ad okC (tmC ad tc) (zA ad okC s.heap.size) s.heap 5 0 0 ((tireN M t j).1) [(0, .ref (ad 12 t)), (1, iv (((tireN M t j).2 : Nat) : Int)), (2, iv ((j : Nat) : Int))] 4 [] := by
    intro d4
    induction d4 using Nat.strongRecOn with
    | _ d4 ih4 =>
      intro j hj hd4
      have hkj := tireN_le M t j
      have hWj := tireN_wt (t := t) hW j (by omega)
      have h12 : (tireN M t j).1 12 t 4 = M 12 t 4 := by rw [tireN_fr (by decide)]
      obtain ⟨Mj, hMj⟩ : ∃ x, x = (tireN M t j).1 := ⟨_, rfl⟩
      rw [← hMj]
      rw [← hMj] at hWj h12
      have hh2 := hWj.2.2
      refine z_iload_n hC 2 rfl dX5_tireWaiting_4 rfl ?_
      refine z_aload_n hC 0 rfl dX5_tireWaiting_5 rfl ?_
      have hq1 : 0 ≤ Mj 12 t 4 ∧ Mj 12 t 4 ≤ 12 := hWj.1 12 t 4
      refine z_getI hC zfX5_49 (tmC_12 ad tc _) (okC_12 (by omega)) rfl (x := Mj 12 t 4) (rfl) dX5_tireWaiting_6 ?_
      refine z_icmp_ge hC 79 dX5_tireWaiting_9 (by decide) (by omega) (by omega) (fun c9 => ?_) (fun c9 => ?_)
      · skip
        have he : j = (M 12 t 4).toNat := by omega
        subst he
        refine z_aload_n hC 0 rfl dX5_tireWaiting_79 rfl ?_
        refine z_iload_n hC 1 rfl dX5_tireWaiting_80 rfl ?_
        refine z_put hC zgX5_49 (tmC_12 ad tc _) (okC_12 (by omega)) rfl dX5_tireWaiting_81 ?_
        exact z_vret hC hret hlk (by rw [hMj]; rfl) dX5_tireWaiting_84
      · skip
        refine z_aload_n hC 0 rfl dX5_tireWaiting_12 rfl ?_
        refine z_getR hC zfX5_23 (tmC_12 ad tc _) (okC_12 (by omega)) rfl dX5_tireWaiting_13 ?_
        refine z_iload_n hC 2 rfl dX5_tireWaiting_16 rfl ?_
        have hq2 : 0 ≤ Mj 15 t j ∧ Mj 15 t j ≤ 11 := hWj.1 15 t j
        refine z_iaload hC 0 (j) (tmC_15 ad tc _) (tysC_0 tc) (okC_15 (by omega)) (rfl) (by omega) (by decide) (x := Mj 15 t j) (rfl) dX5_tireWaiting_17 ?_
        refine z_istore_n hC (L' := [(3, iv (Mj 15 t j)), (0, .ref (ad 12 t)), (1, iv (((tireN M t j).2 : Nat) : Int)), (2, iv ((j : Nat) : Int))]) dX5_tireWaiting_18 rfl (by decide) rfl ?_
        refine z_aload_n hC 1 rfl dX5_tireWaiting_19 rfl ?_
        refine z_getR hC zfX5_11 (tmC_12 ad tc _) (okC_12 (by omega)) rfl dX5_tireWaiting_20 ?_
        refine z_iload_n hC 0 rfl dX5_tireWaiting_23 rfl ?_
        refine z_aaload hC 4 ((Mj 15 t j).toNat) (ad 16 (12 * t + ((Mj 15 t j).toNat))) (tmC_13 ad tc _) (tysC_4 tc) (okC_13 (by omega)) (by omega) (by omega) (by decide) rfl dX5_tireWaiting_24 ?_
        refine z_astore hC (L' := [(4, .ref (ad 16 (12 * t + ((Mj 15 t j).toNat)))), (3, iv (Mj 15 t j)), (0, .ref (ad 12 t)), (1, iv (((tireN M t j).2 : Nat) : Int)), (2, iv ((j : Nat) : Int))]) dX5_tireWaiting_25 (by decide) rfl ?_
        refine z_aload hC 0 rfl dX5_tireWaiting_27 ?_
        refine z_dup hC dX5_tireWaiting_29 rfl ?_
        have hq3 : -(1000 + (U + j)) ≤ Mj 16 (12 * t + ((Mj 15 t j).toNat)) 3 ∧ Mj 16 (12 * t + ((Mj 15 t j).toNat)) 3 ≤ 1000 + (U + j) := hWj.1 16 (12 * t + ((Mj 15 t j).toNat)) 3
        refine z_getI hC zfX5_109 (tmC_16 ad tc _) (okC_16 (by omega)) rfl (x := Mj 16 (12 * t + ((Mj 15 t j).toNat)) 3) (rfl) dX5_tireWaiting_30 ?_
        refine z_iconst hC dX5_tireWaiting_33 ?_
        refine z_iadd hC dX5_tireWaiting_34 ?_
        refine z_put hC zgX5_109 (tmC_16 ad tc _) (okC_16 (by omega)) rfl dX5_tireWaiting_35 ?_
        refine z_aload_n hC 2 rfl dX5_tireWaiting_38 rfl ?_
        refine z_getR hC zfX5_27 (tmC_12 ad tc _) (okC_12 (by omega)) rfl dX5_tireWaiting_39 ?_
        refine z_getR hC zfX5_58 (tmC_1 ad tc _) (okC_1 (by omega)) rfl dX5_tireWaiting_42 ?_
        refine z_iload_n hC 1 rfl dX5_tireWaiting_45 rfl ?_
        refine z_aaload hC 3 ((Mj 15 t j).toNat) (ad 8 (((Mj 15 t j).toNat))) (tmC_4 ad tc _) (tysC_3 tc) (okC_4 (by omega)) (by omega) (by omega) (by decide) rfl dX5_tireWaiting_46 ?_
        refine z_aload hC 0 rfl dX5_tireWaiting_47 ?_
        have hW3 : WTC T ((U + j + 1)) (zup Mj 16 (12 * t + ((Mj 15 t j).toNat)) 3 ((Mj 16 (12 * t + ((Mj 15 t j).toNat)) 3) + 1)) := tireM_wt hWj (by omega)
        refine z_callSi hC zlX5_170 (k_X5_givesUp l D tc ad hI (zup Mj 16 (12 * t + ((Mj 15 t j).toNat)) 3 ((Mj 16 (12 * t + ((Mj 15 t j).toNat)) 3) + 1)) ((Mj 15 t j).toNat) (12 * t + ((Mj 15 t j).toNat)) (by omega) (by omega) hW3) rfl rfl (Nat.le_of_ble_eq_true rfl) ⟨by decide, by decide⟩ ⟨by decide, by decide⟩ dX5_tireWaiting_49 ?_
        refine z_if_eq_b hC 63 dX5_tireWaiting_52 (by decide) (fun c52 => ?_) (fun c52 => ?_)
        · skip
          refine z_aload_n hC 2 rfl dX5_tireWaiting_63 rfl ?_
          refine z_getR hC zfX5_23 (tmC_12 ad tc _) (okC_12 (by omega)) rfl dX5_tireWaiting_64 ?_
          refine z_iload_n hC 3 rfl dX5_tireWaiting_67 rfl ?_
          refine z_iload_n hC 1 rfl dX5_tireWaiting_68 rfl ?_
          refine z_iastore hC 0 ((tireN M t j).2) (tmC_15 ad tc _) (tysC_0 tc) (okC_15 (by omega)) (rfl) (by omega) (by decide) dX5_tireWaiting_69 ?_
          refine z_iinc hC 3 (L' := [(1, iv ((((tireN M t j).2 : Nat) : Int) + 1)), (4, .ref (ad 16 (12 * t + ((Mj 15 t j).toNat)))), (3, iv (Mj 15 t j)), (0, .ref (ad 12 t)), (2, iv ((j : Nat) : Int))]) dX5_tireWaiting_70 rfl (by decide) rfl ?_
          refine z_iinc hC 4 (L' := [(2, iv (((j : Nat) : Int) + 1)), (1, iv ((((tireN M t j).2 : Nat) : Int) + 1)), (4, .ref (ad 16 (12 * t + ((Mj 15 t j).toNat)))), (3, iv (Mj 15 t j)), (0, .ref (ad 12 t))]) dX5_tireWaiting_73 rfl (by decide) rfl ?_
          refine z_goto hC 4 dX5_tireWaiting_76 (by decide) ?_
          refine z_perm [4, 1, 0] (L' := [(0, .ref (ad 12 t)), (1, iv ((((tireN M t j).2 : Nat) : Int) + 1)), (2, iv (((j : Nat) : Int) + 1))]) rfl ?_
          exact z_conv (ih4 _ (by omega) (j + 1) (by omega) rfl) (by rw [show tireN M t (j + 1) = tireS t j (tireN M t j) from rfl]; simp only [tireS, ← hMj]; first | (rw [if_pos (by assumption)]; (try rfl); done) | (rw [if_neg (by assumption)]; (try rfl); done)) (by rw [show tireN M t (j + 1) = tireS t j (tireN M t j) from rfl]; simp only [tireS, ← hMj]; first | (rw [if_pos (by assumption)]; (try rfl); done) | (rw [if_neg (by assumption)]; (try rfl); done)) (by rfl)
        · skip
          refine z_aload hC 0 rfl dX5_tireWaiting_55 ?_
          refine z_callVv hC zlX5_174 (k_X6_giveUp l D tc ad hI (zup Mj 16 (12 * t + ((Mj 15 t j).toNat)) 3 ((Mj 16 (12 * t + ((Mj 15 t j).toNat)) 3) + 1)) (12 * t + ((Mj 15 t j).toNat)) (by omega)) (tmC_16 ad tc _) rfl (okC_16 (by omega)) rfl rfl (Nat.le_of_ble_eq_true rfl) ⟨by decide, by decide⟩ ⟨by decide, by decide⟩ dX5_tireWaiting_57 ?_
          refine z_goto hC 73 dX5_tireWaiting_60 (by decide) ?_
          refine z_iinc hC 4 (L' := [(2, iv (((j : Nat) : Int) + 1)), (4, .ref (ad 16 (12 * t + ((Mj 15 t j).toNat)))), (3, iv (Mj 15 t j)), (0, .ref (ad 12 t)), (1, iv (((tireN M t j).2 : Nat) : Int))]) dX5_tireWaiting_73 rfl (by decide) rfl ?_
          refine z_goto hC 4 dX5_tireWaiting_76 (by decide) ?_
          refine z_perm [3, 4, 0] (L' := [(0, .ref (ad 12 t)), (1, iv (((tireN M t j).2 : Nat) : Int)), (2, iv (((j : Nat) : Int) + 1))]) rfl ?_
          exact z_conv (ih4 _ (by omega) (j + 1) (by omega) rfl) (by rw [show tireN M t (j + 1) = tireS t j (tireN M t j) from rfl]; simp only [tireS, ← hMj]; first | (rw [if_pos (by assumption)]; (try rfl); done) | (rw [if_neg (by assumption)]; (try rfl); done)) (by rw [show tireN M t (j + 1) = tireS t j (tireN M t j) from rfl]; simp only [tireS, ← hMj]; first | (rw [if_pos (by assumption)]; (try rfl); done) | (rw [if_neg (by assumption)]; (try rfl); done)) (by rfl)
  refine z_iconst hC dX5_tireWaiting_0 ?_
  refine z_istore_n hC (L' := [(1, iv 0), (0, .ref (ad 12 t))]) dX5_tireWaiting_1 rfl (by decide) rfl ?_
  refine z_iconst hC dX5_tireWaiting_2 ?_
  refine z_istore_n hC (L' := [(2, iv 0), (1, iv 0), (0, .ref (ad 12 t))]) dX5_tireWaiting_3 rfl (by decide) rfl ?_
  refine z_perm [2, 1, 0] (L' := [(0, .ref (ad 12 t)), (1, iv 0), (2, iv 0)]) rfl ?_
  exact z_conv (hc4 _ 0 (by omega) rfl) (by rfl) (by rfl) (by rfl)
set_option maxHeartbeats 4000000 in
set_option maxRecDepth 100000 in
theorem k_X5_passMinute (l : Launch) (D : va_G) (tc : Nat → ClassId) (ad : Nat → Nat → Nat) (hI : zI ad okC) (M : zM) {T U : Int} (t : Nat) (ht : t < 2) (hW : WTC T U M) (hU : U + 48 ≤ 100000000) : zMv l yX5_passMinute cX5_passMinute 2 none 4 D (tysC tc) ad okC (tmC ad tc) [.ref (ad 12 t)] M (passC M t) 0 0 := by
  have hlc : 0 ≤ M 1 0 5 ∧ M 1 0 5 ≤ 12 := hW.1 1 0 5
  have hh := hW.2.2
  refine z_met hI (plainFor_of_name (by decide)) (Nat.le_of_ble_eq_true rfl) ?_
  intro p e s m args below meth c hC hret hlk
  refine z_conv (L2 := [(0, .ref (ad 12 t))]) ?_ rfl rfl rfl
  have hc40 : ∀ (d40 : Nat) (j : Nat) (hj : j ≤ (M 1 0 5).toNat), (M 1 0 5).toNat - j = d40 → zV p l e (zrm 4 0 0) s m args below meth c (MQ below (zQv D ad okC (tmC ad tc) (passC M t) (zA ad okC s.heap.size)) args s 0 0 (zA ad okC s.heap.size)) D ad okC (tmC ad tc) (zA ad okC s.heap.size) s.heap 2 0 0 (beginsN (movesN M t (M 1 0 5).toNat) t j) [(0, .ref (ad 12 t)), (1, iv ((j : Nat) : Int))] 40 [] := by
    intro d40
    induction d40 using Nat.strongRecOn with
    | _ d40 ih40 =>
      intro j hj hd40
      have hWj := beginsN_wt (t := t) (n := j) ((movesN_wt (t := t) hW (M 1 0 5).toNat (by omega)).mono (T' := T) (U' := U + 36) (by omega) (by omega) (by omega) (by omega)) (by omega)
      have h15 : beginsN (movesN M t (M 1 0 5).toNat) t j 1 0 5 = M 1 0 5 := by rw [beginsN_fr (by decide), movesN_fr (by decide)]
      have h125 : beginsN (movesN M t (M 1 0 5).toNat) t j 12 t 5 = M 12 t 5 := by rw [beginsN_min, movesN_min]
      obtain ⟨Mj, hMj⟩ : ∃ x, x = beginsN (movesN M t (M 1 0 5).toNat) t j := ⟨_, rfl⟩
      rw [← hMj]
      rw [← hMj] at hWj h15 h125
      have hmi : 0 ≤ Mj 12 t 5 ∧ Mj 12 t 5 ≤ T := hWj.1 12 t 5
      refine z_iload_n hC 1 rfl dX5_passMinute_40 rfl ?_
      refine z_aload_n hC 0 rfl dX5_passMinute_41 rfl ?_
      refine z_getR hC zfX5_27 (tmC_12 ad tc _) (okC_12 (by omega)) rfl dX5_passMinute_42 ?_
      have hq1 : 0 ≤ Mj 1 0 5 ∧ Mj 1 0 5 ≤ 12 := hWj.1 1 0 5
      refine z_getI hC zfX5_43 (tmC_1 ad tc _) (okC_1 (by omega)) rfl (x := Mj 1 0 5) (rfl) dX5_passMinute_45 ?_
      refine z_icmp_ge hC 94 dX5_passMinute_48 (by decide) (by omega) (by omega) (fun c48 => ?_) (fun c48 => ?_)
      · skip
        have he : j = (M 1 0 5).toNat := by omega
        subst he
        refine z_aload_n hC 0 rfl dX5_passMinute_94 rfl ?_
        refine z_callVv hC zlX5_98 (k_X5_tireWaiting l D tc ad hI Mj t (by omega) hWj (by omega)) (tmC_12 ad tc _) rfl (okC_12 (by omega)) rfl rfl (Nat.le_of_ble_eq_true rfl) ⟨by decide, by decide⟩ ⟨by decide, by decide⟩ dX5_passMinute_95 ?_
        have hmt : tireC Mj t 12 t 5 = M 12 t 5 := by rw [tireC_min, h125]
        refine z_aload_n hC 0 rfl dX5_passMinute_98 rfl ?_
        refine z_dup hC dX5_passMinute_99 rfl ?_
        have hq2 : 0 ≤ Mj 12 t 5 ∧ Mj 12 t 5 ≤ T := hWj.1 12 t 5
        refine z_getI hC zfX5_52 (tmC_12 ad tc _) (okC_12 (by omega)) rfl (x := Mj 12 t 5) (by simp [zup, tireC_min]) dX5_passMinute_100 ?_
        refine z_iconst hC dX5_passMinute_103 ?_
        refine z_iadd hC dX5_passMinute_104 ?_
        refine z_put hC zgX5_52 (tmC_12 ad tc _) (okC_12 (by omega)) rfl dX5_passMinute_105 ?_
        exact z_vret hC hret hlk (by rw [passC, ← hMj, ← h125]) dX5_passMinute_108
      · skip
        refine z_aload_n hC 0 rfl dX5_passMinute_51 rfl ?_
        refine z_getR hC zfX5_27 (tmC_12 ad tc _) (okC_12 (by omega)) rfl dX5_passMinute_52 ?_
        refine z_aload_n hC 0 rfl dX5_passMinute_55 rfl ?_
        refine z_getR hC zfX5_27 (tmC_12 ad tc _) (okC_12 (by omega)) rfl dX5_passMinute_56 ?_
        refine z_getR hC zfX5_82 (tmC_1 ad tc _) (okC_1 (by omega)) rfl dX5_passMinute_59 ?_
        refine z_iload_n hC 1 rfl dX5_passMinute_62 rfl ?_
        refine z_aaload hC 2 (j) (ad 7 (j)) (tmC_3 ad tc _) (tysC_2 tc) (okC_3 (by omega)) (rfl) (by omega) (by decide) rfl dX5_passMinute_63 ?_
        refine z_aload_n hC 0 rfl dX5_passMinute_64 rfl ?_
        have hq3 : 0 ≤ Mj 12 t 5 ∧ Mj 12 t 5 ≤ T := hWj.1 12 t 5
        refine z_getI hC zfX5_52 (tmC_12 ad tc _) (okC_12 (by omega)) rfl (x := Mj 12 t 5) (rfl) dX5_passMinute_65 ?_
        refine z_callVi hC zlX5_90 (k_X0_isClosed l D tc ad hI Mj j (Mj 12 t 5) (by omega) hWj (by omega)) (tmC_1 ad tc _) rfl (okC_1 (by omega)) rfl rfl (Nat.le_of_ble_eq_true rfl) ⟨by decide, by decide⟩ ⟨by decide, by decide⟩ dX5_passMinute_68 ?_
        refine z_if_ne_b hC 88 dX5_passMinute_71 (by decide) (fun c71 => ?_) (fun c71 => ?_)
        · skip
          refine z_iinc hC 1 (L' := [(1, iv (((j : Nat) : Int) + 1)), (0, .ref (ad 12 t))]) dX5_passMinute_88 rfl (by decide) rfl ?_
          refine z_goto hC 40 dX5_passMinute_91 (by decide) ?_
          refine z_perm [1, 0] (L' := [(0, .ref (ad 12 t)), (1, iv (((j : Nat) : Int) + 1))]) rfl ?_
          exact z_conv (ih40 _ (by omega) (j + 1) (by omega) rfl) (by rw [show beginsN (movesN M t (M 1 0 5).toNat) t (j + 1) = (if closedP (beginsN (movesN M t (M 1 0 5).toNat) t j) j ((beginsN (movesN M t (M 1 0 5).toNat) t j) 12 t 5) then (beginsN (movesN M t (M 1 0 5).toNat) t j) else beginC (beginsN (movesN M t (M 1 0 5).toNat) t j) t j) from rfl, ← hMj]; first | (rw [if_pos (by assumption)]; done) | (rw [if_neg (by assumption)]; done)) (by rfl) (by rfl)
        · skip
          refine z_aload_n hC 0 rfl dX5_passMinute_74 rfl ?_
          refine z_aload_n hC 0 rfl dX5_passMinute_75 rfl ?_
          refine z_getR hC zfX5_27 (tmC_12 ad tc _) (okC_12 (by omega)) rfl dX5_passMinute_76 ?_
          refine z_getR hC zfX5_82 (tmC_1 ad tc _) (okC_1 (by omega)) rfl dX5_passMinute_79 ?_
          refine z_iload_n hC 1 rfl dX5_passMinute_82 rfl ?_
          refine z_aaload hC 2 (j) (ad 7 (j)) (tmC_3 ad tc _) (tysC_2 tc) (okC_3 (by omega)) (rfl) (by omega) (by decide) rfl dX5_passMinute_83 ?_
          refine z_iload_n hC 1 rfl dX5_passMinute_84 rfl ?_
          refine z_callVv hC zlX5_94 (k_X5_beginRide l D tc ad hI Mj t j (by omega) (by omega) hWj) (tmC_12 ad tc _) rfl (okC_12 (by omega)) rfl rfl (Nat.le_of_ble_eq_true rfl) ⟨by decide, by decide⟩ ⟨by decide, by decide⟩ dX5_passMinute_85 ?_
          refine z_iinc hC 1 (L' := [(1, iv (((j : Nat) : Int) + 1)), (0, .ref (ad 12 t))]) dX5_passMinute_88 rfl (by decide) rfl ?_
          refine z_goto hC 40 dX5_passMinute_91 (by decide) ?_
          refine z_perm [1, 0] (L' := [(0, .ref (ad 12 t)), (1, iv (((j : Nat) : Int) + 1))]) rfl ?_
          exact z_conv (ih40 _ (by omega) (j + 1) (by omega) rfl) (by rw [show beginsN (movesN M t (M 1 0 5).toNat) t (j + 1) = (if closedP (beginsN (movesN M t (M 1 0 5).toNat) t j) j ((beginsN (movesN M t (M 1 0 5).toNat) t j) 12 t 5) then (beginsN (movesN M t (M 1 0 5).toNat) t j) else beginC (beginsN (movesN M t (M 1 0 5).toNat) t j) t j) from rfl, ← hMj]; first | (rw [if_pos (by assumption)]; done) | (rw [if_neg (by assumption)]; done)) (by rfl) (by rfl)
  have hc2 : ∀ (d2 : Nat) (j : Nat) (hj : j ≤ (M 1 0 5).toNat), (M 1 0 5).toNat - j = d2 → zV p l e (zrm 4 0 0) s m args below meth c (MQ below (zQv D ad okC (tmC ad tc) (passC M t) (zA ad okC s.heap.size)) args s 0 0 (zA ad okC s.heap.size)) D ad okC (tmC ad tc) (zA ad okC s.heap.size) s.heap 2 0 0 (movesN M t j) [(0, .ref (ad 12 t)), (1, iv ((j : Nat) : Int))] 2 [] := by
    intro d2
    induction d2 using Nat.strongRecOn with
    | _ d2 ih2 =>
      intro j hj hd2
      have hWj := movesN_wt (t := t) hW j (by omega)
      refine z_iload_n hC 1 rfl dX5_passMinute_2 rfl ?_
      refine z_aload_n hC 0 rfl dX5_passMinute_3 rfl ?_
      refine z_getR hC zfX5_27 (tmC_12 ad tc _) (okC_12 (by omega)) rfl dX5_passMinute_4 ?_
      have hq4 : 0 ≤ M 1 0 5 ∧ M 1 0 5 ≤ 12 := hW.1 1 0 5
      refine z_getI hC zfX5_43 (tmC_1 ad tc _) (okC_1 (by omega)) rfl (x := M 1 0 5) (by simp [zup, movesN_fr (f := 1) (by decide)]) dX5_passMinute_7 ?_
      refine z_icmp_ge hC 38 dX5_passMinute_10 (by decide) (by omega) (by omega) (fun c10 => ?_) (fun c10 => ?_)
      · skip
        have he : j = (M 1 0 5).toNat := by omega
        subst he
        refine z_iconst hC dX5_passMinute_38 ?_
        refine z_istore_n hC (L' := [(1, iv 0), (0, .ref (ad 12 t))]) dX5_passMinute_39 rfl (by decide) rfl ?_
        refine z_perm [1, 0] (L' := [(0, .ref (ad 12 t)), (1, iv 0)]) rfl ?_
        exact z_conv (hc40 _ 0 (by omega) rfl) (by rfl) (by rfl) (by rfl)
      · skip
        refine z_aload_n hC 0 rfl dX5_passMinute_13 rfl ?_
        refine z_aload_n hC 0 rfl dX5_passMinute_14 rfl ?_
        refine z_getR hC zfX5_27 (tmC_12 ad tc _) (okC_12 (by omega)) rfl dX5_passMinute_15 ?_
        refine z_getR hC zfX5_82 (tmC_1 ad tc _) (okC_1 (by omega)) rfl dX5_passMinute_18 ?_
        refine z_iload_n hC 1 rfl dX5_passMinute_21 rfl ?_
        refine z_aaload hC 2 (j) (ad 7 (j)) (tmC_3 ad tc _) (tysC_2 tc) (okC_3 (by omega)) (rfl) (by omega) (by decide) rfl dX5_passMinute_22 ?_
        refine z_aload_n hC 0 rfl dX5_passMinute_23 rfl ?_
        refine z_getR hC zfX5_19 (tmC_12 ad tc _) (okC_12 (by omega)) rfl dX5_passMinute_24 ?_
        refine z_iload_n hC 1 rfl dX5_passMinute_27 rfl ?_
        refine z_aaload hC 5 (j) (ad 17 (12 * t + j)) (tmC_14 ad tc _) (tysC_5 tc) (okC_14 (by omega)) (rfl) (by omega) (by decide) rfl dX5_passMinute_28 ?_
        refine z_callVv hC zlX5_86 (k_X5_moveTrolleys l D tc ad hI (movesN M t j) t j (12 * t + j) (by omega) (by omega) (by omega) hWj (by omega)) (tmC_12 ad tc _) rfl (okC_12 (by omega)) rfl rfl (Nat.le_of_ble_eq_true rfl) ⟨by decide, by decide⟩ ⟨by decide, by decide⟩ dX5_passMinute_29 ?_
        refine z_iinc hC 1 (L' := [(1, iv (((j : Nat) : Int) + 1)), (0, .ref (ad 12 t))]) dX5_passMinute_32 rfl (by decide) rfl ?_
        refine z_goto hC 2 dX5_passMinute_35 (by decide) ?_
        refine z_perm [1, 0] (L' := [(0, .ref (ad 12 t)), (1, iv (((j : Nat) : Int) + 1))]) rfl ?_
        exact z_conv (ih2 _ (by omega) (j + 1) (by omega) rfl) (by rfl) (by rfl) (by rfl)
  refine z_iconst hC dX5_passMinute_0 ?_
  refine z_istore_n hC (L' := [(1, iv 0), (0, .ref (ad 12 t))]) dX5_passMinute_1 rfl (by decide) rfl ?_
  refine z_perm [1, 0] (L' := [(0, .ref (ad 12 t)), (1, iv 0)]) rfl ?_
  exact z_conv (hc2 _ 0 (by omega) rfl) (by rfl) (by rfl) (by rfl)
set_option maxHeartbeats 4000000 in
set_option maxRecDepth 100000 in
theorem k_X5_goOn (l : Launch) (D : va_G) (tc : Nat → ClassId) (ad : Nat → Nat → Nat) (hI : zI ad okC) (M : zM) {T U : Int} (t : Nat) (n : Int) (ht : t < 2) (hW : WTC T U M) (hn : 1 ≤ n ∧ n ≤ 200) (hT : T + n ≤ 1000000) (hU : U + 48 * n ≤ 100000000) : zMi l yX5_goOn cX5_goOn 4 (some .int) 5 D (tysC tc) ad okC (tmC ad tc) [.ref (ad 12 t), iv n] M (ridersC (passN M t n.toNat) t 2 - ridersC M t 2) (passN M t n.toNat) 0 0 := by
  have hh := hW.2.2
  refine z_met hI (plainFor_of_name (by decide)) (Nat.le_of_ble_eq_true rfl) ?_
  intro p e s m args below meth c hC hret hlk
  refine z_conv (L2 := [(0, .ref (ad 12 t)), (1, iv n)]) ?_ rfl rfl rfl
  have hc8 : ∀ (d8 : Nat) (j : Nat) (hj : j ≤ n.toNat), n.toNat - j = d8 → zV p l e (zrm 5 0 0) s m args below meth c (MQ below (zQi D ad okC (tmC ad tc) (ridersC (passN M t n.toNat) t 2 - ridersC M t 2) (passN M t n.toNat) (zA ad okC s.heap.size)) args s 0 0 (zA ad okC s.heap.size)) D ad okC (tmC ad tc) (zA ad okC s.heap.size) s.heap 4 0 0 (passN M t j) [(0, .ref (ad 12 t)), (1, iv n), (2, iv (ridersC M t 2)), (3, iv ((j : Nat) : Int))] 8 [] := by
    intro d8
    induction d8 using Nat.strongRecOn with
    | _ d8 ih8 =>
      intro j hj hd8
      have hWj := passN_wt (t := t) hW j (by omega) (by omega)
      refine z_iload_n hC 3 rfl dX5_goOn_8 rfl ?_
      refine z_iload_n hC 1 rfl dX5_goOn_9 rfl ?_
      refine z_icmp_ge hC 23 dX5_goOn_10 (by decide) (by omega) (by omega) (fun c10 => ?_) (fun c10 => ?_)
      · skip
        have he : j = n.toNat := by omega
        subst he
        refine z_aload_n hC 0 rfl dX5_goOn_23 rfl ?_
        refine z_iconst hC dX5_goOn_24 ?_
        refine z_callVi hC zlX5_75 (k_X5_ridersIn l D tc ad hI (passN M t n.toNat) t 2 (by omega) hWj (by omega)) (tmC_12 ad tc _) rfl (okC_12 (by omega)) rfl rfl (Nat.le_of_ble_eq_true rfl) ⟨by decide, by decide⟩ ⟨by decide, by decide⟩ dX5_goOn_25 ?_
        refine z_iload_n hC 2 rfl dX5_goOn_28 rfl ?_
        refine z_isub hC dX5_goOn_29 ?_
        exact z_iret hC hret hlk rfl (by rfl) (by rfl) dX5_goOn_30
      · skip
        refine z_aload_n hC 0 rfl dX5_goOn_13 rfl ?_
        refine z_callVv hC zlX5_79 (k_X5_passMinute l D tc ad hI (passN M t j) t (by omega) hWj (by omega)) (tmC_12 ad tc _) rfl (okC_12 (by omega)) rfl rfl (Nat.le_of_ble_eq_true rfl) ⟨by decide, by decide⟩ ⟨by decide, by decide⟩ dX5_goOn_14 ?_
        refine z_iinc hC 3 (L' := [(3, iv (((j : Nat) : Int) + 1)), (0, .ref (ad 12 t)), (1, iv n), (2, iv (ridersC M t 2))]) dX5_goOn_17 rfl (by decide) rfl ?_
        refine z_goto hC 8 dX5_goOn_20 (by decide) ?_
        refine z_perm [1, 2, 3, 0] (L' := [(0, .ref (ad 12 t)), (1, iv n), (2, iv (ridersC M t 2)), (3, iv (((j : Nat) : Int) + 1))]) rfl ?_
        exact z_conv (ih8 _ (by omega) (j + 1) (by omega) rfl) (by rfl) (by rfl) (by rfl)
  refine z_aload_n hC 0 rfl dX5_goOn_0 rfl ?_
  refine z_iconst hC dX5_goOn_1 ?_
  refine z_callVi hC zlX5_75 (k_X5_ridersIn l D tc ad hI M t 2 (by omega) hW (by omega)) (tmC_12 ad tc _) rfl (okC_12 (by omega)) rfl rfl (Nat.le_of_ble_eq_true rfl) ⟨by decide, by decide⟩ ⟨by decide, by decide⟩ dX5_goOn_2 ?_
  refine z_istore_n hC (L' := [(2, iv (ridersC M t 2)), (0, .ref (ad 12 t)), (1, iv n)]) dX5_goOn_5 rfl (by decide) rfl ?_
  refine z_iconst hC dX5_goOn_6 ?_
  refine z_istore_n hC (L' := [(3, iv 0), (2, iv (ridersC M t 2)), (0, .ref (ad 12 t)), (1, iv n)]) dX5_goOn_7 rfl (by decide) rfl ?_
  refine z_perm [2, 3, 1, 0] (L' := [(0, .ref (ad 12 t)), (1, iv n), (2, iv (ridersC M t 2)), (3, iv 0)]) rfl ?_
  exact z_conv (hc8 _ 0 (by omega) rfl) (by rfl) (by rfl) (by rfl)
set_option maxHeartbeats 4000000 in
set_option maxRecDepth 100000 in
theorem k_X5_copyFrom (l : Launch) (D : va_G) (tc : Nat → ClassId) (ad : Nat → Nat → Nat) (hI : zI ad okC) (M : zM) {T U : Int} (t : Nat) (o : Nat) (ht : t < 2) (ho : o < 2) (hW : WTC T U M) : zMv l yX5_copyFrom cX5_copyFrom 3 none 1 D (tysC tc) ad okC (tmC ad tc) [.ref (ad 12 t), .ref (ad 12 o)] M (copyC M t o) 0 0 := by
  have hlc : 0 ≤ M 1 0 5 ∧ M 1 0 5 ≤ 12 := hW.1 1 0 5
  have hrc : 0 ≤ M 1 0 6 ∧ M 1 0 6 ≤ 12 := hW.1 1 0 6
  have hwo : 0 ≤ M 12 o 4 ∧ M 12 o 4 ≤ 12 := hW.1 12 o 4
  refine z_met hI (plainFor_of_name (by decide)) (Nat.le_of_ble_eq_true rfl) ?_
  intro p e s m args below meth c hC hret hlk
  refine z_conv (L2 := [(0, .ref (ad 12 t)), (1, .ref (ad 12 o))]) ?_ rfl rfl rfl
  have hc78 : ∀ (d78 : Nat) (j : Nat) (hj : j ≤ (M 12 o 4).toNat), (M 12 o 4).toNat - j = d78 → zV p l e (zrm 1 0 0) s m args below meth c (MQ below (zQv D ad okC (tmC ad tc) (copyC M t o) (zA ad okC s.heap.size)) args s 0 0 (zA ad okC s.heap.size)) D ad okC (tmC ad tc) (zA ad okC s.heap.size) s.heap 3 0 0 (cpW (zup (cpL (cpT M t o (M 1 0 6).toNat) t o (M 1 0 5).toNat) 12 t 4 (M 12 o 4)) t o j) [(0, .ref (ad 12 t)), (1, .ref (ad 12 o)), (2, iv ((j : Nat) : Int))] 78 [] := by
    intro d78
    induction d78 using Nat.strongRecOn with
    | _ d78 ih78 =>
      intro j hj hd78
      have hmt : cpW (zup (cpL (cpT M t o (M 1 0 6).toNat) t o (M 1 0 5).toNat) 12 t 4 (M 12 o 4)) t o j 12 t 4 = M 12 o 4 := by rw [cpW_fr (by decide)]; exact zup_at _ _ _ _ _
      have hmo : cpW (zup (cpL (cpT M t o (M 1 0 6).toNat) t o (M 1 0 5).toNat) 12 t 4 (M 12 o 4)) t o j 12 o 5 = M 12 o 5 := by rw [cpW_fr (by decide)]; simp [zup, cpL_fr (f := 12), cpT_fr (f := 12)]
      obtain ⟨Mj, hMj⟩ : ∃ x, x = cpW (zup (cpL (cpT M t o (M 1 0 6).toNat) t o (M 1 0 5).toNat) 12 t 4 (M 12 o 4)) t o j := ⟨_, rfl⟩
      rw [← hMj]
      rw [← hMj] at hmt hmo
      refine z_iload_n hC 2 rfl dX5_copyFrom_78 rfl ?_
      refine z_aload_n hC 0 rfl dX5_copyFrom_79 rfl ?_
      refine z_getI hC zfX5_49 (tmC_12 ad tc _) (okC_12 (by omega)) rfl (x := Mj 12 t 4) (rfl) dX5_copyFrom_80 ?_
      refine z_icmp_ge hC 104 dX5_copyFrom_83 (by decide) (by omega) (by omega) (fun c83 => ?_) (fun c83 => ?_)
      · skip
        have he : j = (M 12 o 4).toNat := by omega
        subst he
        refine z_aload_n hC 0 rfl dX5_copyFrom_104 rfl ?_
        refine z_aload_n hC 1 rfl dX5_copyFrom_105 rfl ?_
        refine z_getI hC zfX5_52 (tmC_12 ad tc _) (okC_12 (by omega)) rfl (x := Mj 12 o 5) (rfl) dX5_copyFrom_106 ?_
        refine z_put hC zgX5_52 (tmC_12 ad tc _) (okC_12 (by omega)) rfl dX5_copyFrom_109 ?_
        exact z_vret hC hret hlk (by rw [hmo, hMj]; rfl) dX5_copyFrom_112
      · skip
        refine z_aload_n hC 0 rfl dX5_copyFrom_86 rfl ?_
        refine z_getR hC zfX5_23 (tmC_12 ad tc _) (okC_12 (by omega)) rfl dX5_copyFrom_87 ?_
        refine z_iload_n hC 2 rfl dX5_copyFrom_90 rfl ?_
        refine z_aload_n hC 1 rfl dX5_copyFrom_91 rfl ?_
        refine z_getR hC zfX5_23 (tmC_12 ad tc _) (okC_12 (by omega)) rfl dX5_copyFrom_92 ?_
        refine z_iload_n hC 2 rfl dX5_copyFrom_95 rfl ?_
        refine z_iaload hC 0 (j) (tmC_15 ad tc _) (tysC_0 tc) (okC_15 (by omega)) (rfl) (by omega) (by decide) (x := Mj 15 o j) (rfl) dX5_copyFrom_96 ?_
        refine z_iastore hC 0 (j) (tmC_15 ad tc _) (tysC_0 tc) (okC_15 (by omega)) (rfl) (by omega) (by decide) dX5_copyFrom_97 ?_
        refine z_iinc hC 2 (L' := [(2, iv (((j : Nat) : Int) + 1)), (0, .ref (ad 12 t)), (1, .ref (ad 12 o))]) dX5_copyFrom_98 rfl (by decide) rfl ?_
        refine z_goto hC 78 dX5_copyFrom_101 (by decide) ?_
        refine z_perm [1, 2, 0] (L' := [(0, .ref (ad 12 t)), (1, .ref (ad 12 o)), (2, iv (((j : Nat) : Int) + 1))]) rfl ?_
        exact z_conv (ih78 _ (by omega) (j + 1) (by omega) rfl) (by rw [hMj]; rfl) (by rfl) (by rfl)
  have hc36 : ∀ (d36 : Nat) (j : Nat) (hj : j ≤ (M 1 0 5).toNat), (M 1 0 5).toNat - j = d36 → zV p l e (zrm 1 0 0) s m args below meth c (MQ below (zQv D ad okC (tmC ad tc) (copyC M t o) (zA ad okC s.heap.size)) args s 0 0 (zA ad okC s.heap.size)) D ad okC (tmC ad tc) (zA ad okC s.heap.size) s.heap 3 0 0 (cpL (cpT M t o (M 1 0 6).toNat) t o j) [(0, .ref (ad 12 t)), (1, .ref (ad 12 o)), (2, iv ((j : Nat) : Int))] 36 [] := by
    intro d36
    induction d36 using Nat.strongRecOn with
    | _ d36 ih36 =>
      intro j hj hd36
      have hWj : WTC T U (cpL (cpT M t o (M 1 0 6).toNat) t o j) := cpL_wt (cpT_wt hW)
      refine z_iload_n hC 2 rfl dX5_copyFrom_36 rfl ?_
      refine z_aload_n hC 0 rfl dX5_copyFrom_37 rfl ?_
      refine z_getR hC zfX5_27 (tmC_12 ad tc _) (okC_12 (by omega)) rfl dX5_copyFrom_38 ?_
      have hq1 : 0 ≤ M 1 0 5 ∧ M 1 0 5 ≤ 12 := hW.1 1 0 5
      refine z_getI hC zfX5_43 (tmC_1 ad tc _) (okC_1 (by omega)) rfl (x := M 1 0 5) (by simp [zup, cpL_fr (f := 1) (by decide), cpT_fr (f := 1) (by decide)]) dX5_copyFrom_41 ?_
      refine z_icmp_ge hC 68 dX5_copyFrom_44 (by decide) (by omega) (by omega) (fun c44 => ?_) (fun c44 => ?_)
      · skip
        have he : j = (M 1 0 5).toNat := by omega
        subst he
        refine z_aload_n hC 0 rfl dX5_copyFrom_68 rfl ?_
        refine z_aload_n hC 1 rfl dX5_copyFrom_69 rfl ?_
        have hq2 : 0 ≤ M 12 o 4 ∧ M 12 o 4 ≤ 12 := hW.1 12 o 4
        refine z_getI hC zfX5_49 (tmC_12 ad tc _) (okC_12 (by omega)) rfl (x := M 12 o 4) (by simp [zup, cpL_fr (f := 12) (by decide), cpT_fr (f := 12) (by decide)]) dX5_copyFrom_70 ?_
        refine z_put hC zgX5_49 (tmC_12 ad tc _) (okC_12 (by omega)) rfl dX5_copyFrom_73 ?_
        refine z_iconst hC dX5_copyFrom_76 ?_
        refine z_istore_n hC (L' := [(2, iv 0), (0, .ref (ad 12 t)), (1, .ref (ad 12 o))]) dX5_copyFrom_77 rfl (by decide) rfl ?_
        refine z_perm [1, 2, 0] (L' := [(0, .ref (ad 12 t)), (1, .ref (ad 12 o)), (2, iv 0)]) rfl ?_
        exact z_conv (hc78 _ 0 (by omega) rfl) (by rfl) (by rfl) (by rfl)
      · skip
        refine z_aload_n hC 0 rfl dX5_copyFrom_47 rfl ?_
        refine z_getR hC zfX5_19 (tmC_12 ad tc _) (okC_12 (by omega)) rfl dX5_copyFrom_48 ?_
        refine z_iload_n hC 2 rfl dX5_copyFrom_51 rfl ?_
        refine z_aaload hC 5 (j) (ad 17 (12 * t + j)) (tmC_14 ad tc _) (tysC_5 tc) (okC_14 (by omega)) (rfl) (by omega) (by decide) rfl dX5_copyFrom_52 ?_
        refine z_aload_n hC 1 rfl dX5_copyFrom_53 rfl ?_
        refine z_getR hC zfX5_19 (tmC_12 ad tc _) (okC_12 (by omega)) rfl dX5_copyFrom_54 ?_
        refine z_iload_n hC 2 rfl dX5_copyFrom_57 rfl ?_
        refine z_aaload hC 5 (j) (ad 17 (12 * o + j)) (tmC_14 ad tc _) (tysC_5 tc) (okC_14 (by omega)) (rfl) (by omega) (by decide) rfl dX5_copyFrom_58 ?_
        refine z_callVv hC zlX5_46 (k_X7_copyFrom l D tc ad hI (cpL (cpT M t o (M 1 0 6).toNat) t o j) (12 * t + j) (12 * o + j) (by omega) (by omega) (by have z0 : 0 ≤ (cpL (cpT M t o (M 1 0 6).toNat) t o j) 17 (12 * o + j) 1 ∧ (cpL (cpT M t o (M 1 0 6).toNat) t o j) 17 (12 * o + j) 1 ≤ 3 := hWj.1 17 (12 * o + j) 1; have z1 : 0 ≤ (cpL (cpT M t o (M 1 0 6).toNat) t o j) 17 (12 * o + j) 1 ∧ (cpL (cpT M t o (M 1 0 6).toNat) t o j) 17 (12 * o + j) 1 ≤ 3 := hWj.1 17 (12 * o + j) 1; omega)) (tmC_17 ad tc _) rfl (okC_17 (by omega)) rfl rfl (Nat.le_of_ble_eq_true rfl) ⟨by decide, by decide⟩ ⟨by decide, by decide⟩ dX5_copyFrom_59 ?_
        refine z_iinc hC 2 (L' := [(2, iv (((j : Nat) : Int) + 1)), (0, .ref (ad 12 t)), (1, .ref (ad 12 o))]) dX5_copyFrom_62 rfl (by decide) rfl ?_
        refine z_goto hC 36 dX5_copyFrom_65 (by decide) ?_
        refine z_perm [1, 2, 0] (L' := [(0, .ref (ad 12 t)), (1, .ref (ad 12 o)), (2, iv (((j : Nat) : Int) + 1))]) rfl ?_
        exact z_conv (ih36 _ (by omega) (j + 1) (by omega) rfl) (by rfl) (by rfl) (by rfl)
  have hc2 : ∀ (d2 : Nat) (j : Nat) (hj : j ≤ (M 1 0 6).toNat), (M 1 0 6).toNat - j = d2 → zV p l e (zrm 1 0 0) s m args below meth c (MQ below (zQv D ad okC (tmC ad tc) (copyC M t o) (zA ad okC s.heap.size)) args s 0 0 (zA ad okC s.heap.size)) D ad okC (tmC ad tc) (zA ad okC s.heap.size) s.heap 3 0 0 (cpT M t o j) [(0, .ref (ad 12 t)), (1, .ref (ad 12 o)), (2, iv ((j : Nat) : Int))] 2 [] := by
    intro d2
    induction d2 using Nat.strongRecOn with
    | _ d2 ih2 =>
      intro j hj hd2
      refine z_iload_n hC 2 rfl dX5_copyFrom_2 rfl ?_
      refine z_aload_n hC 0 rfl dX5_copyFrom_3 rfl ?_
      refine z_getR hC zfX5_27 (tmC_12 ad tc _) (okC_12 (by omega)) rfl dX5_copyFrom_4 ?_
      have hq3 : 0 ≤ M 1 0 6 ∧ M 1 0 6 ≤ 12 := hW.1 1 0 6
      refine z_getI hC zfX5_33 (tmC_1 ad tc _) (okC_1 (by omega)) rfl (x := M 1 0 6) (by simp [zup, cpT_fr (f := 1) (by decide)]) dX5_copyFrom_7 ?_
      refine z_icmp_ge hC 34 dX5_copyFrom_10 (by decide) (by omega) (by omega) (fun c10 => ?_) (fun c10 => ?_)
      · skip
        have he : j = (M 1 0 6).toNat := by omega
        subst he
        refine z_iconst hC dX5_copyFrom_34 ?_
        refine z_istore_n hC (L' := [(2, iv 0), (0, .ref (ad 12 t)), (1, .ref (ad 12 o))]) dX5_copyFrom_35 rfl (by decide) rfl ?_
        refine z_perm [1, 2, 0] (L' := [(0, .ref (ad 12 t)), (1, .ref (ad 12 o)), (2, iv 0)]) rfl ?_
        exact z_conv (hc36 _ 0 (by omega) rfl) (by rfl) (by rfl) (by rfl)
      · skip
        refine z_aload_n hC 0 rfl dX5_copyFrom_13 rfl ?_
        refine z_getR hC zfX5_11 (tmC_12 ad tc _) (okC_12 (by omega)) rfl dX5_copyFrom_14 ?_
        refine z_iload_n hC 2 rfl dX5_copyFrom_17 rfl ?_
        refine z_aaload hC 4 (j) (ad 16 (12 * t + j)) (tmC_13 ad tc _) (tysC_4 tc) (okC_13 (by omega)) (rfl) (by omega) (by decide) rfl dX5_copyFrom_18 ?_
        refine z_aload_n hC 1 rfl dX5_copyFrom_19 rfl ?_
        refine z_getR hC zfX5_11 (tmC_12 ad tc _) (okC_12 (by omega)) rfl dX5_copyFrom_20 ?_
        refine z_iload_n hC 2 rfl dX5_copyFrom_23 rfl ?_
        refine z_aaload hC 4 (j) (ad 16 (12 * o + j)) (tmC_13 ad tc _) (tysC_4 tc) (okC_13 (by omega)) (rfl) (by omega) (by decide) rfl dX5_copyFrom_24 ?_
        refine z_callVv hC zlX5_39 (k_X6_copyFrom l D tc ad hI (cpT M t o j) (12 * t + j) (12 * o + j) (by omega) (by omega)) (tmC_16 ad tc _) rfl (okC_16 (by omega)) rfl rfl (Nat.le_of_ble_eq_true rfl) ⟨by decide, by decide⟩ ⟨by decide, by decide⟩ dX5_copyFrom_25 ?_
        refine z_iinc hC 2 (L' := [(2, iv (((j : Nat) : Int) + 1)), (0, .ref (ad 12 t)), (1, .ref (ad 12 o))]) dX5_copyFrom_28 rfl (by decide) rfl ?_
        refine z_goto hC 2 dX5_copyFrom_31 (by decide) ?_
        refine z_perm [1, 2, 0] (L' := [(0, .ref (ad 12 t)), (1, .ref (ad 12 o)), (2, iv (((j : Nat) : Int) + 1))]) rfl ?_
        exact z_conv (ih2 _ (by omega) (j + 1) (by omega) rfl) (by rfl) (by rfl) (by rfl)
  refine z_iconst hC dX5_copyFrom_0 ?_
  refine z_istore_n hC (L' := [(2, iv 0), (0, .ref (ad 12 t)), (1, .ref (ad 12 o))]) dX5_copyFrom_1 rfl (by decide) rfl ?_
  refine z_perm [1, 2, 0] (L' := [(0, .ref (ad 12 t)), (1, .ref (ad 12 o)), (2, iv 0)]) rfl ?_
  exact z_conv (hc2 _ 0 (by omega) rfl) (by rfl) (by rfl) (by rfl)
set_option maxHeartbeats 4000000 in
set_option maxRecDepth 100000 in
theorem k_X5_queueLength (l : Launch) (D : va_G) (tc : Nat → ClassId) (ad : Nat → Nat → Nat) (hI : zI ad okC) (M : zM) {T U : Int} (t : Nat) (q : Int) (ht : t < 2) (hW : WTC T U M) (hq : -1 ≤ q ∧ q ≤ 100) : zMi l yX5_queueLength cX5_queueLength 4 (some .int) 0 D (tysC tc) ad okC (tmC ad tc) [.ref (ad 12 t), iv q] M (qLen M t q) M 0 0 := by
  have hwc : 0 ≤ M 12 t 4 ∧ M 12 t 4 ≤ 12 := hW.1 12 t 4
  refine z_met hI (plainFor_of_name (by decide)) (Nat.le_of_ble_eq_true rfl) ?_
  intro p e s m args below meth c hC hret hlk
  refine z_conv (L2 := [(0, .ref (ad 12 t)), (1, iv q)]) ?_ rfl rfl rfl
  have hc4 : ∀ (d4 : Nat) (j : Nat) (hj : j ≤ (M 12 t 4).toNat), (M 12 t 4).toNat - j = d4 → zV p l e (zrm 0 0 0) s m args below meth c (MQ below (zQi D ad okC (tmC ad tc) (qLen M t q) M (zA ad okC s.heap.size)) args s 0 0 (zA ad okC s.heap.size)) D ad okC (tmC ad tc) (zA ad okC s.heap.size) s.heap 4 0 0 M [(0, .ref (ad 12 t)), (1, iv q), (2, iv (zcnt (fun j => M 16 (12 * t + (M 15 t j).toNat) 1 = q) j)), (3, iv ((j : Nat) : Int))] 4 [] := by
    intro d4
    induction d4 using Nat.strongRecOn with
    | _ d4 ih4 =>
      intro j hj hd4
      refine z_iload_n hC 3 rfl dX5_queueLength_4 rfl ?_
      refine z_aload_n hC 0 rfl dX5_queueLength_5 rfl ?_
      have hq1 : 0 ≤ M 12 t 4 ∧ M 12 t 4 ≤ 12 := hW.1 12 t 4
      refine z_getI hC zfX5_49 (tmC_12 ad tc _) (okC_12 (by omega)) rfl (x := M 12 t 4) (rfl) dX5_queueLength_6 ?_
      refine z_icmp_ge hC 39 dX5_queueLength_9 (by decide) (by omega) (by omega) (fun c9 => ?_) (fun c9 => ?_)
      · skip
        have he : j = (M 12 t 4).toNat := by omega
        subst he
        refine z_iload_n hC 2 rfl dX5_queueLength_39 rfl ?_
        exact z_iret hC hret hlk rfl (by rfl) (by rfl) dX5_queueLength_40
      · skip
        refine z_aload_n hC 0 rfl dX5_queueLength_12 rfl ?_
        refine z_getR hC zfX5_11 (tmC_12 ad tc _) (okC_12 (by omega)) rfl dX5_queueLength_13 ?_
        refine z_aload_n hC 0 rfl dX5_queueLength_16 rfl ?_
        refine z_getR hC zfX5_23 (tmC_12 ad tc _) (okC_12 (by omega)) rfl dX5_queueLength_17 ?_
        refine z_iload_n hC 3 rfl dX5_queueLength_20 rfl ?_
        have hq2 : 0 ≤ M 15 t j ∧ M 15 t j ≤ 11 := hW.1 15 t j
        refine z_iaload hC 0 (j) (tmC_15 ad tc _) (tysC_0 tc) (okC_15 (by omega)) (rfl) (by omega) (by decide) (x := M 15 t j) (rfl) dX5_queueLength_21 ?_
        refine z_aaload hC 4 ((M 15 t j).toNat) (ad 16 (12 * t + ((M 15 t j).toNat))) (tmC_13 ad tc _) (tysC_4 tc) (okC_13 (by omega)) (by omega) (by omega) (by decide) rfl dX5_queueLength_22 ?_
        have hq3 : -1 ≤ M 16 (12 * t + ((M 15 t j).toNat)) 1 ∧ M 16 (12 * t + ((M 15 t j).toNat)) 1 ≤ 7 := hW.1 16 (12 * t + ((M 15 t j).toNat)) 1
        refine z_getI hC zfX5_162 (tmC_16 ad tc _) (okC_16 (by omega)) rfl (x := M 16 (12 * t + ((M 15 t j).toNat)) 1) (rfl) dX5_queueLength_23 ?_
        refine z_iload_n hC 1 rfl dX5_queueLength_26 rfl ?_
        refine z_icmp_ne hC 33 dX5_queueLength_27 (by decide) (by omega) (by omega) (fun c27 => ?_) (fun c27 => ?_)
        · skip
          refine z_iinc hC 3 (L' := [(3, iv (((j : Nat) : Int) + 1)), (0, .ref (ad 12 t)), (1, iv q), (2, iv (zcnt (fun j => M 16 (12 * t + (M 15 t j).toNat) 1 = q) j))]) dX5_queueLength_33 rfl (by decide) rfl ?_
          refine z_goto hC 4 dX5_queueLength_36 (by decide) ?_
          refine z_perm [1, 2, 3, 0] (L' := [(0, .ref (ad 12 t)), (1, iv q), (2, iv (zcnt (fun j => M 16 (12 * t + (M 15 t j).toNat) 1 = q) j)), (3, iv (((j : Nat) : Int) + 1))]) rfl ?_
          exact z_conv (ih4 _ (by omega) (j + 1) (by omega) rfl) (by rfl) (by simp only [zcnt]; simp [*]) (by rfl)
        · skip
          refine z_iinc hC 2 (L' := [(2, iv (zcnt (fun j => M 16 (12 * t + (M 15 t j).toNat) 1 = q) j + 1)), (0, .ref (ad 12 t)), (1, iv q), (3, iv ((j : Nat) : Int))]) dX5_queueLength_30 rfl (by decide) rfl ?_
          refine z_iinc hC 3 (L' := [(3, iv (((j : Nat) : Int) + 1)), (2, iv (zcnt (fun j => M 16 (12 * t + (M 15 t j).toNat) 1 = q) j + 1)), (0, .ref (ad 12 t)), (1, iv q)]) dX5_queueLength_33 rfl (by decide) rfl ?_
          refine z_goto hC 4 dX5_queueLength_36 (by decide) ?_
          refine z_perm [2, 3, 1, 0] (L' := [(0, .ref (ad 12 t)), (1, iv q), (2, iv (zcnt (fun j => M 16 (12 * t + (M 15 t j).toNat) 1 = q) j + 1)), (3, iv (((j : Nat) : Int) + 1))]) rfl ?_
          exact z_conv (ih4 _ (by omega) (j + 1) (by omega) rfl) (by rfl) (by simp only [zcnt]; simp [*]) (by rfl)
  refine z_iconst hC dX5_queueLength_0 ?_
  refine z_istore_n hC (L' := [(2, iv 0), (0, .ref (ad 12 t)), (1, iv q)]) dX5_queueLength_1 rfl (by decide) rfl ?_
  refine z_iconst hC dX5_queueLength_2 ?_
  refine z_istore_n hC (L' := [(3, iv 0), (2, iv 0), (0, .ref (ad 12 t)), (1, iv q)]) dX5_queueLength_3 rfl (by decide) rfl ?_
  refine z_perm [2, 3, 1, 0] (L' := [(0, .ref (ad 12 t)), (1, iv q), (2, iv 0), (3, iv 0)]) rfl ?_
  exact z_conv (hc4 _ 0 (by omega) rfl) (by rfl) (by rfl) (by rfl)
set_option maxHeartbeats 4000000 in
set_option maxRecDepth 100000 in
theorem k_X5_inQueue (l : Launch) (D : va_G) (tc : Nat → ClassId) (ad : Nat → Nat → Nat) (hI : zI ad okC) (M : zM) {T U : Int} (t : Nat) (q ix : Int) (ht : t < 2) (hW : WTC T U M) (hq : -1 ≤ q ∧ q ≤ 100) (hix : -1 ≤ ix ∧ ix ≤ 100) : zMi l yX5_inQueue cX5_inQueue 5 (some .int) 0 D (tysC tc) ad okC (tmC ad tc) [.ref (ad 12 t), iv q, iv ix] M (qAt M t q ix) M 0 0 := by
  have hwc : 0 ≤ M 12 t 4 ∧ M 12 t 4 ≤ 12 := hW.1 12 t 4
  refine z_met hI (plainFor_of_name (by decide)) (Nat.le_of_ble_eq_true rfl) ?_
  intro p e s m args below meth c hC hret hlk
  refine z_conv (L2 := [(0, .ref (ad 12 t)), (1, iv q), (2, iv ix)]) ?_ rfl rfl rfl
  have hc5 : ∀ (d5 : Nat) (j : Nat) (hj : j ≤ (M 12 t 4).toNat) (hz : ∀ k, k < j → ¬ inQP M t q ix k), (M 12 t 4).toNat - j = d5 → zV p l e (zrm 0 0 0) s m args below meth c (MQ below (zQi D ad okC (tmC ad tc) (qAt M t q ix) M (zA ad okC s.heap.size)) args s 0 0 (zA ad okC s.heap.size)) D ad okC (tmC ad tc) (zA ad okC s.heap.size) s.heap 5 0 0 M [(0, .ref (ad 12 t)), (1, iv q), (2, iv ix), (3, iv (zcnt (fun j => M 16 (12 * t + (M 15 t j).toNat) 1 = q) j)), (4, iv ((j : Nat) : Int))] 5 [] := by
    intro d5
    induction d5 using Nat.strongRecOn with
    | _ d5 ih5 =>
      intro j hj hz hd5
      have hcj := zcnt_le (fun j => M 16 (12 * t + (M 15 t j).toNat) 1 = q) j
      refine z_iload hC 4 rfl dX5_inQueue_5 ?_
      refine z_aload_n hC 0 rfl dX5_inQueue_7 rfl ?_
      have hq1 : 0 ≤ M 12 t 4 ∧ M 12 t 4 ≤ 12 := hW.1 12 t 4
      refine z_getI hC zfX5_49 (tmC_12 ad tc _) (okC_12 (by omega)) rfl (x := M 12 t 4) (rfl) dX5_inQueue_8 ?_
      refine z_icmp_ge hC 55 dX5_inQueue_11 (by decide) (by omega) (by omega) (fun c11 => ?_) (fun c11 => ?_)
      · skip
        refine z_iconst hC dX5_inQueue_55 ?_
        exact z_iret hC hret hlk rfl (by simp only [qAt]; first | (rw [zfst_found hz ⟨by assumption, by assumption⟩ (by omega), if_pos (by omega)]; done) | (rw [show j = (M 12 t 4).toNat by omega] at hz; rw [zfst_none hz, if_neg (by omega)])) (by rfl) dX5_inQueue_56
      · skip
        refine z_aload_n hC 0 rfl dX5_inQueue_14 rfl ?_
        refine z_getR hC zfX5_11 (tmC_12 ad tc _) (okC_12 (by omega)) rfl dX5_inQueue_15 ?_
        refine z_aload_n hC 0 rfl dX5_inQueue_18 rfl ?_
        refine z_getR hC zfX5_23 (tmC_12 ad tc _) (okC_12 (by omega)) rfl dX5_inQueue_19 ?_
        refine z_iload hC 4 rfl dX5_inQueue_22 ?_
        have hq2 : 0 ≤ M 15 t j ∧ M 15 t j ≤ 11 := hW.1 15 t j
        refine z_iaload hC 0 (j) (tmC_15 ad tc _) (tysC_0 tc) (okC_15 (by omega)) (rfl) (by omega) (by decide) (x := M 15 t j) (rfl) dX5_inQueue_24 ?_
        refine z_aaload hC 4 ((M 15 t j).toNat) (ad 16 (12 * t + ((M 15 t j).toNat))) (tmC_13 ad tc _) (tysC_4 tc) (okC_13 (by omega)) (by omega) (by omega) (by decide) rfl dX5_inQueue_25 ?_
        have hq3 : -1 ≤ M 16 (12 * t + ((M 15 t j).toNat)) 1 ∧ M 16 (12 * t + ((M 15 t j).toNat)) 1 ≤ 7 := hW.1 16 (12 * t + ((M 15 t j).toNat)) 1
        refine z_getI hC zfX5_162 (tmC_16 ad tc _) (okC_16 (by omega)) rfl (x := M 16 (12 * t + ((M 15 t j).toNat)) 1) (rfl) dX5_inQueue_26 ?_
        refine z_iload_n hC 1 rfl dX5_inQueue_29 rfl ?_
        refine z_icmp_ne hC 49 dX5_inQueue_30 (by decide) (by omega) (by omega) (fun c30 => ?_) (fun c30 => ?_)
        · skip
          refine z_iinc hC 4 (L' := [(4, iv (((j : Nat) : Int) + 1)), (0, .ref (ad 12 t)), (1, iv q), (2, iv ix), (3, iv (zcnt (fun j => M 16 (12 * t + (M 15 t j).toNat) 1 = q) j))]) dX5_inQueue_49 rfl (by decide) rfl ?_
          refine z_goto hC 5 dX5_inQueue_52 (by decide) ?_
          refine z_perm [1, 2, 3, 4, 0] (L' := [(0, .ref (ad 12 t)), (1, iv q), (2, iv ix), (3, iv (zcnt (fun j => M 16 (12 * t + (M 15 t j).toNat) 1 = q) j)), (4, iv (((j : Nat) : Int) + 1))]) rfl ?_
          exact z_conv (ih5 _ (by omega) (j + 1) (by omega) (fun k hk => (Nat.lt_or_ge k j).elim (hz k) (fun z => by rw [show k = j by omega]; intro y; first | exact absurd y.1 (by assumption) | exact absurd y.2 (by assumption))) rfl) (by rfl) (by simp only [zcnt]; simp [*]) (by rfl)
        · skip
          refine z_iload_n hC 3 rfl dX5_inQueue_33 rfl ?_
          refine z_iload_n hC 2 rfl dX5_inQueue_34 rfl ?_
          refine z_icmp_ne hC 46 dX5_inQueue_35 (by decide) (by omega) (by omega) (fun c35 => ?_) (fun c35 => ?_)
          · skip
            refine z_iinc hC 3 (L' := [(3, iv (zcnt (fun j => M 16 (12 * t + (M 15 t j).toNat) 1 = q) j + 1)), (0, .ref (ad 12 t)), (1, iv q), (2, iv ix), (4, iv ((j : Nat) : Int))]) dX5_inQueue_46 rfl (by decide) rfl ?_
            refine z_iinc hC 4 (L' := [(4, iv (((j : Nat) : Int) + 1)), (3, iv (zcnt (fun j => M 16 (12 * t + (M 15 t j).toNat) 1 = q) j + 1)), (0, .ref (ad 12 t)), (1, iv q), (2, iv ix)]) dX5_inQueue_49 rfl (by decide) rfl ?_
            refine z_goto hC 5 dX5_inQueue_52 (by decide) ?_
            refine z_perm [2, 3, 4, 1, 0] (L' := [(0, .ref (ad 12 t)), (1, iv q), (2, iv ix), (3, iv (zcnt (fun j => M 16 (12 * t + (M 15 t j).toNat) 1 = q) j + 1)), (4, iv (((j : Nat) : Int) + 1))]) rfl ?_
            exact z_conv (ih5 _ (by omega) (j + 1) (by omega) (fun k hk => (Nat.lt_or_ge k j).elim (hz k) (fun z => by rw [show k = j by omega]; intro y; first | exact absurd y.1 (by assumption) | exact absurd y.2 (by assumption))) rfl) (by rfl) (by simp only [zcnt]; simp [*]) (by rfl)
          · skip
            refine z_aload_n hC 0 rfl dX5_inQueue_38 rfl ?_
            refine z_getR hC zfX5_23 (tmC_12 ad tc _) (okC_12 (by omega)) rfl dX5_inQueue_39 ?_
            refine z_iload hC 4 rfl dX5_inQueue_42 ?_
            have hq4 : 0 ≤ M 15 t j ∧ M 15 t j ≤ 11 := hW.1 15 t j
            refine z_iaload hC 0 (j) (tmC_15 ad tc _) (tysC_0 tc) (okC_15 (by omega)) (rfl) (by omega) (by decide) (x := M 15 t j) (rfl) dX5_inQueue_44 ?_
            exact z_iret hC hret hlk rfl (by simp only [qAt]; first | (rw [zfst_found hz ⟨by assumption, by assumption⟩ (by omega), if_pos (by omega)]; done) | (rw [show j = (M 12 t 4).toNat by omega] at hz; rw [zfst_none hz, if_neg (by omega)])) (by rfl) dX5_inQueue_45
  refine z_iconst hC dX5_inQueue_0 ?_
  refine z_istore_n hC (L' := [(3, iv 0), (0, .ref (ad 12 t)), (1, iv q), (2, iv ix)]) dX5_inQueue_1 rfl (by decide) rfl ?_
  refine z_iconst hC dX5_inQueue_2 ?_
  refine z_istore hC (L' := [(4, iv 0), (3, iv 0), (0, .ref (ad 12 t)), (1, iv q), (2, iv ix)]) dX5_inQueue_3 (by decide) rfl ?_
  refine z_perm [2, 3, 4, 1, 0] (L' := [(0, .ref (ad 12 t)), (1, iv q), (2, iv ix), (3, iv 0), (4, iv 0)]) rfl ?_
  exact z_conv (hc5 _ 0 (by omega) (fun k hk => by omega) rfl) (by rfl) (by rfl) (by rfl)
set_option maxHeartbeats 4000000 in
set_option maxRecDepth 100000 in
theorem k_X5_arrivedAt (l : Launch) (D : va_G) (tc : Nat → ClassId) (ad : Nat → Nat → Nat) (hI : zI ad okC) (M : zM) {T U : Int} (t : Nat) (q : Int) (ht : t < 2) (hW : WTC T U M) (hq : -1 ≤ q ∧ q ≤ 100) : zMi l yX5_arrivedAt cX5_arrivedAt 4 (some .int) 0 D (tysC tc) ad okC (tmC ad tc) [.ref (ad 12 t), iv q] M (arrAt M t q) M 0 0 := by
  have hrc : 0 ≤ M 1 0 6 ∧ M 1 0 6 ≤ 12 := hW.1 1 0 6
  refine z_met hI (plainFor_of_name (by decide)) (Nat.le_of_ble_eq_true rfl) ?_
  intro p e s m args below meth c hC hret hlk
  refine z_conv (L2 := [(0, .ref (ad 12 t)), (1, iv q)]) ?_ rfl rfl rfl
  have hc4 : ∀ (d4 : Nat) (j : Nat) (hj : j ≤ (M 1 0 6).toNat), (M 1 0 6).toNat - j = d4 → zV p l e (zrm 0 0 0) s m args below meth c (MQ below (zQi D ad okC (tmC ad tc) (arrAt M t q) M (zA ad okC s.heap.size)) args s 0 0 (zA ad okC s.heap.size)) D ad okC (tmC ad tc) (zA ad okC s.heap.size) s.heap 4 0 0 M [(0, .ref (ad 12 t)), (1, iv q), (2, iv (zcnt (fun j => M 16 (12 * t + j) 0 = 2 ∧ M 16 (12 * t + j) 1 = q) j)), (3, iv ((j : Nat) : Int))] 4 [] := by
    intro d4
    induction d4 using Nat.strongRecOn with
    | _ d4 ih4 =>
      intro j hj hd4
      refine z_iload_n hC 3 rfl dX5_arrivedAt_4 rfl ?_
      refine z_aload_n hC 0 rfl dX5_arrivedAt_5 rfl ?_
      refine z_getR hC zfX5_27 (tmC_12 ad tc _) (okC_12 (by omega)) rfl dX5_arrivedAt_6 ?_
      have hq1 : 0 ≤ M 1 0 6 ∧ M 1 0 6 ≤ 12 := hW.1 1 0 6
      refine z_getI hC zfX5_33 (tmC_1 ad tc _) (okC_1 (by omega)) rfl (x := M 1 0 6) (rfl) dX5_arrivedAt_9 ?_
      refine z_icmp_ge hC 50 dX5_arrivedAt_12 (by decide) (by omega) (by omega) (fun c12 => ?_) (fun c12 => ?_)
      · skip
        have he : j = (M 1 0 6).toNat := by omega
        subst he
        refine z_iload_n hC 2 rfl dX5_arrivedAt_50 rfl ?_
        exact z_iret hC hret hlk rfl (by rfl) (by rfl) dX5_arrivedAt_51
      · skip
        refine z_aload_n hC 0 rfl dX5_arrivedAt_15 rfl ?_
        refine z_getR hC zfX5_11 (tmC_12 ad tc _) (okC_12 (by omega)) rfl dX5_arrivedAt_16 ?_
        refine z_iload_n hC 3 rfl dX5_arrivedAt_19 rfl ?_
        refine z_aaload hC 4 (j) (ad 16 (12 * t + j)) (tmC_13 ad tc _) (tysC_4 tc) (okC_13 (by omega)) (rfl) (by omega) (by decide) rfl dX5_arrivedAt_20 ?_
        have hq2 : 0 ≤ M 16 (12 * t + j) 0 ∧ M 16 (12 * t + j) 0 ≤ 3 := hW.1 16 (12 * t + j) 0
        refine z_getI hC zfX5_183 (tmC_16 ad tc _) (okC_16 (by omega)) rfl (x := M 16 (12 * t + j) 0) (rfl) dX5_arrivedAt_21 ?_
        refine z_iconst hC dX5_arrivedAt_24 ?_
        refine z_icmp_ne hC 44 dX5_arrivedAt_25 (by decide) (by omega) (by omega) (fun c25 => ?_) (fun c25 => ?_)
        · skip
          refine z_iinc hC 3 (L' := [(3, iv (((j : Nat) : Int) + 1)), (0, .ref (ad 12 t)), (1, iv q), (2, iv (zcnt (fun j => M 16 (12 * t + j) 0 = 2 ∧ M 16 (12 * t + j) 1 = q) j))]) dX5_arrivedAt_44 rfl (by decide) rfl ?_
          refine z_goto hC 4 dX5_arrivedAt_47 (by decide) ?_
          refine z_perm [1, 2, 3, 0] (L' := [(0, .ref (ad 12 t)), (1, iv q), (2, iv (zcnt (fun j => M 16 (12 * t + j) 0 = 2 ∧ M 16 (12 * t + j) 1 = q) j)), (3, iv (((j : Nat) : Int) + 1))]) rfl ?_
          exact z_conv (ih4 _ (by omega) (j + 1) (by omega) rfl) (by rfl) (by simp only [zcnt]; simp [*]) (by rfl)
        · skip
          refine z_aload_n hC 0 rfl dX5_arrivedAt_28 rfl ?_
          refine z_getR hC zfX5_11 (tmC_12 ad tc _) (okC_12 (by omega)) rfl dX5_arrivedAt_29 ?_
          refine z_iload_n hC 3 rfl dX5_arrivedAt_32 rfl ?_
          refine z_aaload hC 4 (j) (ad 16 (12 * t + j)) (tmC_13 ad tc _) (tysC_4 tc) (okC_13 (by omega)) (rfl) (by omega) (by decide) rfl dX5_arrivedAt_33 ?_
          have hq3 : -1 ≤ M 16 (12 * t + j) 1 ∧ M 16 (12 * t + j) 1 ≤ 7 := hW.1 16 (12 * t + j) 1
          refine z_getI hC zfX5_162 (tmC_16 ad tc _) (okC_16 (by omega)) rfl (x := M 16 (12 * t + j) 1) (rfl) dX5_arrivedAt_34 ?_
          refine z_iload_n hC 1 rfl dX5_arrivedAt_37 rfl ?_
          refine z_icmp_ne hC 44 dX5_arrivedAt_38 (by decide) (by omega) (by omega) (fun c38 => ?_) (fun c38 => ?_)
          · skip
            refine z_iinc hC 3 (L' := [(3, iv (((j : Nat) : Int) + 1)), (0, .ref (ad 12 t)), (1, iv q), (2, iv (zcnt (fun j => M 16 (12 * t + j) 0 = 2 ∧ M 16 (12 * t + j) 1 = q) j))]) dX5_arrivedAt_44 rfl (by decide) rfl ?_
            refine z_goto hC 4 dX5_arrivedAt_47 (by decide) ?_
            refine z_perm [1, 2, 3, 0] (L' := [(0, .ref (ad 12 t)), (1, iv q), (2, iv (zcnt (fun j => M 16 (12 * t + j) 0 = 2 ∧ M 16 (12 * t + j) 1 = q) j)), (3, iv (((j : Nat) : Int) + 1))]) rfl ?_
            exact z_conv (ih4 _ (by omega) (j + 1) (by omega) rfl) (by rfl) (by simp only [zcnt]; simp [*]) (by rfl)
          · skip
            refine z_iinc hC 2 (L' := [(2, iv (zcnt (fun j => M 16 (12 * t + j) 0 = 2 ∧ M 16 (12 * t + j) 1 = q) j + 1)), (0, .ref (ad 12 t)), (1, iv q), (3, iv ((j : Nat) : Int))]) dX5_arrivedAt_41 rfl (by decide) rfl ?_
            refine z_iinc hC 3 (L' := [(3, iv (((j : Nat) : Int) + 1)), (2, iv (zcnt (fun j => M 16 (12 * t + j) 0 = 2 ∧ M 16 (12 * t + j) 1 = q) j + 1)), (0, .ref (ad 12 t)), (1, iv q)]) dX5_arrivedAt_44 rfl (by decide) rfl ?_
            refine z_goto hC 4 dX5_arrivedAt_47 (by decide) ?_
            refine z_perm [2, 3, 1, 0] (L' := [(0, .ref (ad 12 t)), (1, iv q), (2, iv (zcnt (fun j => M 16 (12 * t + j) 0 = 2 ∧ M 16 (12 * t + j) 1 = q) j + 1)), (3, iv (((j : Nat) : Int) + 1))]) rfl ?_
            exact z_conv (ih4 _ (by omega) (j + 1) (by omega) rfl) (by rfl) (by simp only [zcnt]; simp [*]) (by rfl)
  refine z_iconst hC dX5_arrivedAt_0 ?_
  refine z_istore_n hC (L' := [(2, iv 0), (0, .ref (ad 12 t)), (1, iv q)]) dX5_arrivedAt_1 rfl (by decide) rfl ?_
  refine z_iconst hC dX5_arrivedAt_2 ?_
  refine z_istore_n hC (L' := [(3, iv 0), (2, iv 0), (0, .ref (ad 12 t)), (1, iv q)]) dX5_arrivedAt_3 rfl (by decide) rfl ?_
  refine z_perm [2, 3, 1, 0] (L' := [(0, .ref (ad 12 t)), (1, iv q), (2, iv 0), (3, iv 0)]) rfl ?_
  exact z_conv (hc4 _ 0 (by omega) rfl) (by rfl) (by rfl) (by rfl)
set_option maxHeartbeats 4000000 in
set_option maxRecDepth 100000 in
theorem k_X5_trolleysInAll (l : Launch) (D : va_G) (tc : Nat → ClassId) (ad : Nat → Nat → Nat) (hI : zI ad okC) (M : zM) {T U : Int} (t : Nat) (ht : t < 2) (hW : WTC T U M) : zMi l yX5_trolleysInAll cX5_trolleysInAll 3 (some .int) 1 D (tysC tc) ad okC (tmC ad tc) [.ref (ad 12 t)] M (zsum (fun j => M 17 (12 * t + j) 0 + M 17 (12 * t + j) 1) (M 1 0 5).toNat) M 0 0 := by
  have hlc : 0 ≤ M 1 0 5 ∧ M 1 0 5 ≤ 12 := hW.1 1 0 5
  refine z_met hI (plainFor_of_name (by decide)) (Nat.le_of_ble_eq_true rfl) ?_
  intro p e s m args below meth c hC hret hlk
  refine z_conv (L2 := [(0, .ref (ad 12 t))]) ?_ rfl rfl rfl
  have hc4 : ∀ (d4 : Nat) (j : Nat) (hj : j ≤ (M 1 0 5).toNat), (M 1 0 5).toNat - j = d4 → zV p l e (zrm 1 0 0) s m args below meth c (MQ below (zQi D ad okC (tmC ad tc) (zsum (fun j => M 17 (12 * t + j) 0 + M 17 (12 * t + j) 1) (M 1 0 5).toNat) M (zA ad okC s.heap.size)) args s 0 0 (zA ad okC s.heap.size)) D ad okC (tmC ad tc) (zA ad okC s.heap.size) s.heap 3 0 0 M [(0, .ref (ad 12 t)), (1, iv (zsum (fun j => M 17 (12 * t + j) 0 + M 17 (12 * t + j) 1) j)), (2, iv ((j : Nat) : Int))] 4 [] := by
    intro d4
    induction d4 using Nat.strongRecOn with
    | _ d4 ih4 =>
      intro j hj hd4
      refine z_iload_n hC 2 rfl dX5_trolleysInAll_4 rfl ?_
      refine z_aload_n hC 0 rfl dX5_trolleysInAll_5 rfl ?_
      refine z_getR hC zfX5_27 (tmC_12 ad tc _) (okC_12 (by omega)) rfl dX5_trolleysInAll_6 ?_
      have hq1 : 0 ≤ M 1 0 5 ∧ M 1 0 5 ≤ 12 := hW.1 1 0 5
      refine z_getI hC zfX5_43 (tmC_1 ad tc _) (okC_1 (by omega)) rfl (x := M 1 0 5) (rfl) dX5_trolleysInAll_9 ?_
      refine z_icmp_ge hC 33 dX5_trolleysInAll_12 (by decide) (by omega) (by omega) (fun c12 => ?_) (fun c12 => ?_)
      · skip
        have he : j = (M 1 0 5).toNat := by omega
        subst he
        refine z_iload_n hC 1 rfl dX5_trolleysInAll_33 rfl ?_
        exact z_iret hC hret hlk rfl (by rfl) (by rfl) dX5_trolleysInAll_34
      · skip
        refine z_iload_n hC 1 rfl dX5_trolleysInAll_15 rfl ?_
        refine z_aload_n hC 0 rfl dX5_trolleysInAll_16 rfl ?_
        refine z_getR hC zfX5_19 (tmC_12 ad tc _) (okC_12 (by omega)) rfl dX5_trolleysInAll_17 ?_
        refine z_iload_n hC 2 rfl dX5_trolleysInAll_20 rfl ?_
        refine z_aaload hC 5 (j) (ad 17 (12 * t + j)) (tmC_14 ad tc _) (tysC_5 tc) (okC_14 (by omega)) (rfl) (by omega) (by decide) rfl dX5_trolleysInAll_21 ?_
        refine z_callVi hC zlX5_186 (k_X7_inAll l D tc ad hI M (12 * t + j) (by omega)) (tmC_17 ad tc _) rfl (okC_17 (by omega)) rfl rfl (Nat.le_of_ble_eq_true rfl) ⟨by decide, by decide⟩ ⟨by decide, by decide⟩ dX5_trolleysInAll_22 ?_
        refine z_iadd hC dX5_trolleysInAll_25 ?_
        refine z_istore_n hC (L' := [(1, iv ((zsum (fun j => M 17 (12 * t + j) 0 + M 17 (12 * t + j) 1) j) + (M 17 (12 * t + j) 0 + M 17 (12 * t + j) 1))), (0, .ref (ad 12 t)), (2, iv ((j : Nat) : Int))]) dX5_trolleysInAll_26 rfl (by decide) rfl ?_
        refine z_iinc hC 2 (L' := [(2, iv (((j : Nat) : Int) + 1)), (1, iv ((zsum (fun j => M 17 (12 * t + j) 0 + M 17 (12 * t + j) 1) j) + (M 17 (12 * t + j) 0 + M 17 (12 * t + j) 1))), (0, .ref (ad 12 t))]) dX5_trolleysInAll_27 rfl (by decide) rfl ?_
        refine z_goto hC 4 dX5_trolleysInAll_30 (by decide) ?_
        refine z_perm [2, 1, 0] (L' := [(0, .ref (ad 12 t)), (1, iv ((zsum (fun j => M 17 (12 * t + j) 0 + M 17 (12 * t + j) 1) j) + (M 17 (12 * t + j) 0 + M 17 (12 * t + j) 1))), (2, iv (((j : Nat) : Int) + 1))]) rfl ?_
        exact z_conv (ih4 _ (by omega) (j + 1) (by omega) rfl) (by rfl) (by rfl) (by rfl)
  refine z_iconst hC dX5_trolleysInAll_0 ?_
  refine z_istore_n hC (L' := [(1, iv 0), (0, .ref (ad 12 t))]) dX5_trolleysInAll_1 rfl (by decide) rfl ?_
  refine z_iconst hC dX5_trolleysInAll_2 ?_
  refine z_istore_n hC (L' := [(2, iv 0), (1, iv 0), (0, .ref (ad 12 t))]) dX5_trolleysInAll_3 rfl (by decide) rfl ?_
  refine z_perm [2, 1, 0] (L' := [(0, .ref (ad 12 t)), (1, iv 0), (2, iv 0)]) rfl ?_
  exact z_conv (hc4 _ 0 (by omega) rfl) (by rfl) (by rfl) (by rfl)
set_option maxHeartbeats 4000000 in
set_option maxRecDepth 100000 in
theorem k_X5_ridesInAll (l : Launch) (D : va_G) (tc : Nat → ClassId) (ad : Nat → Nat → Nat) (hI : zI ad okC) (M : zM) {T U : Int} (t : Nat) (ht : t < 2) (hW : WTC T U M) : zMi l yX5_ridesInAll cX5_ridesInAll 3 (some .int) 0 D (tysC tc) ad okC (tmC ad tc) [.ref (ad 12 t)] M (zsum (fun j => M 17 (12 * t + j) 4) (M 1 0 5).toNat) M 0 0 := by
  have hlc : 0 ≤ M 1 0 5 ∧ M 1 0 5 ≤ 12 := hW.1 1 0 5
  refine z_met hI (plainFor_of_name (by decide)) (Nat.le_of_ble_eq_true rfl) ?_
  intro p e s m args below meth c hC hret hlk
  refine z_conv (L2 := [(0, .ref (ad 12 t))]) ?_ rfl rfl rfl
  have hc4 : ∀ (d4 : Nat) (j : Nat) (hj : j ≤ (M 1 0 5).toNat), (M 1 0 5).toNat - j = d4 → zV p l e (zrm 0 0 0) s m args below meth c (MQ below (zQi D ad okC (tmC ad tc) (zsum (fun j => M 17 (12 * t + j) 4) (M 1 0 5).toNat) M (zA ad okC s.heap.size)) args s 0 0 (zA ad okC s.heap.size)) D ad okC (tmC ad tc) (zA ad okC s.heap.size) s.heap 3 0 0 M [(0, .ref (ad 12 t)), (1, iv (zsum (fun j => M 17 (12 * t + j) 4) j)), (2, iv ((j : Nat) : Int))] 4 [] := by
    intro d4
    induction d4 using Nat.strongRecOn with
    | _ d4 ih4 =>
      intro j hj hd4
      refine z_iload_n hC 2 rfl dX5_ridesInAll_4 rfl ?_
      refine z_aload_n hC 0 rfl dX5_ridesInAll_5 rfl ?_
      refine z_getR hC zfX5_27 (tmC_12 ad tc _) (okC_12 (by omega)) rfl dX5_ridesInAll_6 ?_
      have hq1 : 0 ≤ M 1 0 5 ∧ M 1 0 5 ≤ 12 := hW.1 1 0 5
      refine z_getI hC zfX5_43 (tmC_1 ad tc _) (okC_1 (by omega)) rfl (x := M 1 0 5) (rfl) dX5_ridesInAll_9 ?_
      refine z_icmp_ge hC 33 dX5_ridesInAll_12 (by decide) (by omega) (by omega) (fun c12 => ?_) (fun c12 => ?_)
      · skip
        have he : j = (M 1 0 5).toNat := by omega
        subst he
        refine z_iload_n hC 1 rfl dX5_ridesInAll_33 rfl ?_
        exact z_iret hC hret hlk rfl (by rfl) (by rfl) dX5_ridesInAll_34
      · skip
        refine z_iload_n hC 1 rfl dX5_ridesInAll_15 rfl ?_
        refine z_aload_n hC 0 rfl dX5_ridesInAll_16 rfl ?_
        refine z_getR hC zfX5_19 (tmC_12 ad tc _) (okC_12 (by omega)) rfl dX5_ridesInAll_17 ?_
        refine z_iload_n hC 2 rfl dX5_ridesInAll_20 rfl ?_
        refine z_aaload hC 5 (j) (ad 17 (12 * t + j)) (tmC_14 ad tc _) (tysC_5 tc) (okC_14 (by omega)) (rfl) (by omega) (by decide) rfl dX5_ridesInAll_21 ?_
        refine z_getI hC zfX5_189 (tmC_17 ad tc _) (okC_17 (by omega)) rfl (x := M 17 (12 * t + j) 4) (rfl) dX5_ridesInAll_22 ?_
        refine z_iadd hC dX5_ridesInAll_25 ?_
        refine z_istore_n hC (L' := [(1, iv ((zsum (fun j => M 17 (12 * t + j) 4) j) + (M 17 (12 * t + j) 4))), (0, .ref (ad 12 t)), (2, iv ((j : Nat) : Int))]) dX5_ridesInAll_26 rfl (by decide) rfl ?_
        refine z_iinc hC 2 (L' := [(2, iv (((j : Nat) : Int) + 1)), (1, iv ((zsum (fun j => M 17 (12 * t + j) 4) j) + (M 17 (12 * t + j) 4))), (0, .ref (ad 12 t))]) dX5_ridesInAll_27 rfl (by decide) rfl ?_
        refine z_goto hC 4 dX5_ridesInAll_30 (by decide) ?_
        refine z_perm [2, 1, 0] (L' := [(0, .ref (ad 12 t)), (1, iv ((zsum (fun j => M 17 (12 * t + j) 4) j) + (M 17 (12 * t + j) 4))), (2, iv (((j : Nat) : Int) + 1))]) rfl ?_
        exact z_conv (ih4 _ (by omega) (j + 1) (by omega) rfl) (by rfl) (by rfl) (by rfl)
  refine z_iconst hC dX5_ridesInAll_0 ?_
  refine z_istore_n hC (L' := [(1, iv 0), (0, .ref (ad 12 t))]) dX5_ridesInAll_1 rfl (by decide) rfl ?_
  refine z_iconst hC dX5_ridesInAll_2 ?_
  refine z_istore_n hC (L' := [(2, iv 0), (1, iv 0), (0, .ref (ad 12 t))]) dX5_ridesInAll_3 rfl (by decide) rfl ?_
  refine z_perm [2, 1, 0] (L' := [(0, .ref (ad 12 t)), (1, iv 0), (2, iv 0)]) rfl ?_
  exact z_conv (hc4 _ 0 (by omega) rfl) (by rfl) (by rfl) (by rfl)
