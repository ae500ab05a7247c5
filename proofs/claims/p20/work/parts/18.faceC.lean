set_option maxHeartbeats 4000000 in
set_option maxRecDepth 100000 in
theorem k_X8_build (l : Launch) (hl : l.stackTraces = false) (D : va_G) (tc : Nat → ClassId) (ad : Nat → Nat → Nat) (hI : zI ad okC) (M : zM) {T U : Int} (x y q : Int) (hW : WTC T U M) (hx : -2147483648 ≤ x ∧ x < 2147483648) (hy : -2147483648 ≤ y ∧ y < 2147483648) (hq : -2147483648 ≤ q ∧ q < 2147483648) : zMx l yX8_build cX8_build 4 (some .int) 6 D (tysC tc) ad okC (tmC ad tc) [.ref (ad 0 0), iv x, iv y, iv q] M (kBuild M x y q) (M 1 0 4) (addPlatformC M x y q) := by
  refine z_metx hI (by decide) (Nat.le_of_ble_eq_true rfl) ?_
  intro p e s m args below meth c hC hret hlk hX het
  refine z_conv (L2 := [(0, .ref (ad 0 0)), (1, iv x), (2, iv y), (3, iv q)]) ?_ rfl rfl rfl
  refine z_iload_n hC 1 rfl dX8_build_0 rfl ?_
  refine z_iconst hC dX8_build_1 ?_
  refine z_bipush hC dX8_build_2 (by decide) ?_
  refine z_callSi hC zlX8_35 (k_X8_within l D tc ad hI M x 0 40 (by omega) (by omega) (by omega)) rfl rfl (Nat.le_of_ble_eq_true rfl) ⟨by decide, by decide⟩ ⟨by decide, by decide⟩ dX8_build_4 ?_
  refine z_if_eq_b hC 30 dX8_build_7 (by decide) (fun c7 => ?_) (fun c7 => ?_)
  · skip
    have hk9 : kBuild M x y q = 1 := by simp only [kBuild]; repeat (first | rw [if_pos (by first | assumption | omega)] | rw [if_neg (by first | assumption | omega)])
    exact z_throw hC rfl hl hX het hlk (k := kBuild M x y q) (text := "x and y are 0 to 40, the height is 0 to 60") (by decide) (zin 144 (by decide +kernel) rfl) (zin 29 (by decide +kernel) rfl) zTh_43 dX8_build_30 dX8_build_33 dX8_build_34 dX8_build_36 dX8_build_39 (by decide) (by rw [hk9]; decide) (by rw [hk9]; rfl) (by rfl)
  · skip
    refine z_iload_n hC 2 rfl dX8_build_10 rfl ?_
    refine z_iconst hC dX8_build_11 ?_
    refine z_bipush hC dX8_build_12 (by decide) ?_
    refine z_callSi hC zlX8_35 (k_X8_within l D tc ad hI M y 0 40 (by omega) (by omega) (by omega)) rfl rfl (Nat.le_of_ble_eq_true rfl) ⟨by decide, by decide⟩ ⟨by decide, by decide⟩ dX8_build_14 ?_
    refine z_if_eq_b hC 30 dX8_build_17 (by decide) (fun c17 => ?_) (fun c17 => ?_)
    · skip
      have hk9 : kBuild M x y q = 1 := by simp only [kBuild]; repeat (first | rw [if_pos (by first | assumption | omega)] | rw [if_neg (by first | assumption | omega)])
      exact z_throw hC rfl hl hX het hlk (k := kBuild M x y q) (text := "x and y are 0 to 40, the height is 0 to 60") (by decide) (zin 144 (by decide +kernel) rfl) (zin 29 (by decide +kernel) rfl) zTh_43 dX8_build_30 dX8_build_33 dX8_build_34 dX8_build_36 dX8_build_39 (by decide) (by rw [hk9]; decide) (by rw [hk9]; rfl) (by rfl)
    · skip
      refine z_iload_n hC 3 rfl dX8_build_20 rfl ?_
      refine z_iconst hC dX8_build_21 ?_
      refine z_bipush hC dX8_build_22 (by decide) ?_
      refine z_callSi hC zlX8_35 (k_X8_within l D tc ad hI M q 0 60 (by omega) (by omega) (by omega)) rfl rfl (Nat.le_of_ble_eq_true rfl) ⟨by decide, by decide⟩ ⟨by decide, by decide⟩ dX8_build_24 ?_
      refine z_if_ne_b hC 40 dX8_build_27 (by decide) (fun c27 => ?_) (fun c27 => ?_)
      · skip
        refine z_aload_n hC 0 rfl dX8_build_40 rfl ?_
        refine z_getR hC zfX8_10 (tmC_0 ad tc _) (okC_0 (by omega)) rfl dX8_build_41 ?_
        refine z_iload_n hC 1 rfl dX8_build_44 rfl ?_
        refine z_iload_n hC 2 rfl dX8_build_45 rfl ?_
        refine z_callVi hC zlX8_46 (k_X0_hasPlatformAt l D tc ad hI M x y hW (by omega) (by omega)) (tmC_1 ad tc _) rfl (okC_1 (by omega)) rfl rfl (Nat.le_of_ble_eq_true rfl) ⟨by decide, by decide⟩ ⟨by decide, by decide⟩ dX8_build_46 ?_
        refine z_if_ne_b hC 64 dX8_build_49 (by decide) (fun c49 => ?_) (fun c49 => ?_)
        · skip
          have hk9 : kBuild M x y q = 2 := by simp only [kBuild]; repeat (first | rw [if_pos (by first | assumption | omega)] | rw [if_neg (by first | assumption | omega)])
          exact z_throw hC rfl hl hX het hlk (k := kBuild M x y q) (text := "the place is taken, or there are 8 platforms") (by decide) (zin 119 (by decide +kernel) rfl) (zin 30 (by decide +kernel) rfl) zTh_58 dX8_build_64 dX8_build_67 dX8_build_68 dX8_build_70 dX8_build_73 (by decide) (by rw [hk9]; decide) (by rw [hk9]; rfl) (by rfl)
        · skip
          refine z_aload_n hC 0 rfl dX8_build_52 rfl ?_
          refine z_getR hC zfX8_10 (tmC_0 ad tc _) (okC_0 (by omega)) rfl dX8_build_53 ?_
          have hq1 : 0 ≤ M 1 0 4 ∧ M 1 0 4 ≤ 8 := hW.1 1 0 4
          refine z_getI hC zfX8_50 (tmC_1 ad tc _) (okC_1 (by omega)) rfl (x := M 1 0 4) (rfl) dX8_build_56 ?_
          refine z_bipush hC dX8_build_59 (by decide) ?_
          refine z_icmp_lt hC 74 dX8_build_61 (by decide) (by omega) (by omega) (fun c61 => ?_) (fun c61 => ?_)
          · skip
            refine z_aload_n hC 0 rfl dX8_build_74 rfl ?_
            refine z_getR hC zfX8_10 (tmC_0 ad tc _) (okC_0 (by omega)) rfl dX8_build_75 ?_
            refine z_iload_n hC 1 rfl dX8_build_78 rfl ?_
            refine z_iload_n hC 2 rfl dX8_build_79 rfl ?_
            refine z_iload_n hC 3 rfl dX8_build_80 rfl ?_
            refine z_callVi hC zlX8_59 (k_X0_addPlatform l D tc ad hI M x y q hW (by have z0 : 0 ≤ M 1 0 4 ∧ M 1 0 4 ≤ 8 := hW.1 1 0 4; omega)) (tmC_1 ad tc _) rfl (okC_1 (by omega)) rfl rfl (Nat.le_of_ble_eq_true rfl) ⟨by decide, by decide⟩ ⟨by decide, by decide⟩ dX8_build_81 ?_
            have hk9 : kBuild M x y q = 0 := by simp only [kBuild]; repeat (first | rw [if_pos (by first | assumption | omega)] | rw [if_neg (by first | assumption | omega)])
            exact z_iretx hC hret hlk rfl hk9 (by rfl) (by rfl) dX8_build_84
          · skip
            have hk9 : kBuild M x y q = 2 := by simp only [kBuild]; repeat (first | rw [if_pos (by first | assumption | omega)] | rw [if_neg (by first | assumption | omega)])
            exact z_throw hC rfl hl hX het hlk (k := kBuild M x y q) (text := "the place is taken, or there are 8 platforms") (by decide) (zin 119 (by decide +kernel) rfl) (zin 30 (by decide +kernel) rfl) zTh_58 dX8_build_64 dX8_build_67 dX8_build_68 dX8_build_70 dX8_build_73 (by decide) (by rw [hk9]; decide) (by rw [hk9]; rfl) (by rfl)
      · skip
        have hk9 : kBuild M x y q = 1 := by simp only [kBuild]; repeat (first | rw [if_pos (by first | assumption | omega)] | rw [if_neg (by first | assumption | omega)])
        exact z_throw hC rfl hl hX het hlk (k := kBuild M x y q) (text := "x and y are 0 to 40, the height is 0 to 60") (by decide) (zin 144 (by decide +kernel) rfl) (zin 29 (by decide +kernel) rfl) zTh_43 dX8_build_30 dX8_build_33 dX8_build_34 dX8_build_36 dX8_build_39 (by decide) (by rw [hk9]; decide) (by rw [hk9]; rfl) (by rfl)
set_option maxHeartbeats 4000000 in
set_option maxRecDepth 100000 in
theorem k_X8_span (l : Launch) (hl : l.stackTraces = false) (D : va_G) (tc : Nat → ClassId) (ad : Nat → Nat → Nat) (hI : zI ad okC) (M : zM) {T U : Int} (t b mo tr : Int) (hW : WTC T U M) (ht : -2147483648 ≤ t ∧ t < 2147483648) (hb : -2147483648 ≤ b ∧ b < 2147483648) (hmo : -2147483648 ≤ mo ∧ mo < 2147483648) (htr : -2147483648 ≤ tr ∧ tr < 2147483648) : zMx l yX8_span cX8_span 6 (some .int) 6 D (tysC tc) ad okC (tmC ad tc) [.ref (ad 0 0), iv t, iv b, iv mo, iv tr] M (kSpan M t b mo tr) (M 1 0 5) (addTC (addLineC M t b mo) 0 (M 1 0 5) tr) := by
  have hpc : 0 ≤ M 1 0 4 ∧ M 1 0 4 ≤ 8 := hW.1 1 0 4
  have hlc : 0 ≤ M 1 0 5 ∧ M 1 0 5 ≤ 12 := hW.1 1 0 5
  refine z_metx hI (by decide) (Nat.le_of_ble_eq_true rfl) ?_
  intro p e s m args below meth c hC hret hlk hX het
  refine z_conv (L2 := [(0, .ref (ad 0 0)), (1, iv t), (2, iv b), (3, iv mo), (4, iv tr)]) ?_ rfl rfl rfl
  refine z_aload_n hC 0 rfl dX8_span_0 rfl ?_
  refine z_iload_n hC 1 rfl dX8_span_1 rfl ?_
  refine z_callVi hC zlX8_63 (k_X8_isPlatform l D tc ad hI M t hW (by omega)) (tmC_0 ad tc _) rfl (okC_0 (by omega)) rfl rfl (Nat.le_of_ble_eq_true rfl) ⟨by decide, by decide⟩ ⟨by decide, by decide⟩ dX8_span_2 ?_
  refine z_if_eq_b hC 16 dX8_span_5 (by decide) (fun c5 => ?_) (fun c5 => ?_)
  · skip
    have hk9 : kSpan M t b mo tr = 3 := by simp only [kSpan]; repeat (first | rw [if_pos (by first | assumption | omega)] | rw [if_neg (by first | assumption | omega)])
    exact z_throw hC rfl hl hX het hlk (k := kSpan M t b mo tr) (text := "no such platform") (by decide) (zin 45 (by decide +kernel) rfl) (zin 31 (by decide +kernel) rfl) zTh_71 dX8_span_16 dX8_span_19 dX8_span_20 dX8_span_22 dX8_span_25 (by decide) (by rw [hk9]; decide) (by rw [hk9]; rfl) (by rfl)
  · skip
    refine z_aload_n hC 0 rfl dX8_span_8 rfl ?_
    refine z_iload_n hC 2 rfl dX8_span_9 rfl ?_
    refine z_callVi hC zlX8_63 (k_X8_isPlatform l D tc ad hI M b hW (by omega)) (tmC_0 ad tc _) rfl (okC_0 (by omega)) rfl rfl (Nat.le_of_ble_eq_true rfl) ⟨by decide, by decide⟩ ⟨by decide, by decide⟩ dX8_span_10 ?_
    refine z_if_ne_b hC 26 dX8_span_13 (by decide) (fun c13 => ?_) (fun c13 => ?_)
    · skip
      refine z_aload_n hC 0 rfl dX8_span_26 rfl ?_
      refine z_getR hC zfX8_10 (tmC_0 ad tc _) (okC_0 (by omega)) rfl dX8_span_27 ?_
      refine z_iload_n hC 2 rfl dX8_span_30 rfl ?_
      refine z_iload_n hC 1 rfl dX8_span_31 rfl ?_
      refine z_callVi hC zlX8_72 (k_X0_isLower l D tc ad hI M b t hW (by omega) (by omega)) (tmC_1 ad tc _) rfl (okC_1 (by omega)) rfl rfl (Nat.le_of_ble_eq_true rfl) ⟨by decide, by decide⟩ ⟨by decide, by decide⟩ dX8_span_32 ?_
      refine z_if_eq_b hC 60 dX8_span_35 (by decide) (fun c35 => ?_) (fun c35 => ?_)
      · skip
        have hk9 : kSpan M t b mo tr = 1 := by simp only [kSpan]; repeat (first | rw [if_pos (by first | assumption | omega)] | rw [if_neg (by first | assumption | omega)])
        exact z_throw hC rfl hl hX het hlk (k := kSpan M t b mo tr) (text := "the bottom is lower, most is 20 to 150, trolleys are 1 to 3") (by decide) (zin 144 (by decide +kernel) rfl) (zin 29 (by decide +kernel) rfl) zTh_43 dX8_span_60 dX8_span_63 dX8_span_64 dX8_span_66 dX8_span_69 (by decide) (by rw [hk9]; decide) (by rw [hk9]; rfl) (by rfl)
      · skip
        refine z_iload_n hC 3 rfl dX8_span_38 rfl ?_
        refine z_bipush hC dX8_span_39 (by decide) ?_
        refine z_sipush hC dX8_span_41 (by decide) ?_
        refine z_callSi hC zlX8_35 (k_X8_within l D tc ad hI M mo 20 150 (by omega) (by omega) (by omega)) rfl rfl (Nat.le_of_ble_eq_true rfl) ⟨by decide, by decide⟩ ⟨by decide, by decide⟩ dX8_span_44 ?_
        refine z_if_eq_b hC 60 dX8_span_47 (by decide) (fun c47 => ?_) (fun c47 => ?_)
        · skip
          have hk9 : kSpan M t b mo tr = 1 := by simp only [kSpan]; repeat (first | rw [if_pos (by first | assumption | omega)] | rw [if_neg (by first | assumption | omega)])
          exact z_throw hC rfl hl hX het hlk (k := kSpan M t b mo tr) (text := "the bottom is lower, most is 20 to 150, trolleys are 1 to 3") (by decide) (zin 144 (by decide +kernel) rfl) (zin 29 (by decide +kernel) rfl) zTh_43 dX8_span_60 dX8_span_63 dX8_span_64 dX8_span_66 dX8_span_69 (by decide) (by rw [hk9]; decide) (by rw [hk9]; rfl) (by rfl)
        · skip
          refine z_iload hC 4 rfl dX8_span_50 ?_
          refine z_iconst hC dX8_span_52 ?_
          refine z_iconst hC dX8_span_53 ?_
          refine z_callSi hC zlX8_35 (k_X8_within l D tc ad hI M tr 1 3 (by omega) (by omega) (by omega)) rfl rfl (Nat.le_of_ble_eq_true rfl) ⟨by decide, by decide⟩ ⟨by decide, by decide⟩ dX8_span_54 ?_
          refine z_if_ne_b hC 70 dX8_span_57 (by decide) (fun c57 => ?_) (fun c57 => ?_)
          · skip
            refine z_aload_n hC 0 rfl dX8_span_70 rfl ?_
            refine z_getR hC zfX8_10 (tmC_0 ad tc _) (okC_0 (by omega)) rfl dX8_span_71 ?_
            have hq1 : 0 ≤ M 1 0 5 ∧ M 1 0 5 ≤ 12 := hW.1 1 0 5
            refine z_getI hC zfX8_77 (tmC_1 ad tc _) (okC_1 (by omega)) rfl (x := M 1 0 5) (rfl) dX8_span_74 ?_
            refine z_bipush hC dX8_span_77 (by decide) ?_
            refine z_icmp_lt hC 92 dX8_span_79 (by decide) (by omega) (by omega) (fun c79 => ?_) (fun c79 => ?_)
            · skip
              refine z_aload_n hC 0 rfl dX8_span_92 rfl ?_
              refine z_getR hC zfX8_10 (tmC_0 ad tc _) (okC_0 (by omega)) rfl dX8_span_93 ?_
              refine z_iload_n hC 1 rfl dX8_span_96 rfl ?_
              refine z_iload_n hC 2 rfl dX8_span_97 rfl ?_
              refine z_iload_n hC 3 rfl dX8_span_98 rfl ?_
              refine z_callVi hC zlX8_82 (k_X0_addLine l D tc ad hI M t b mo hW (by omega) (by omega) (by omega) (by have z0 : 0 ≤ M 6 b.toNat 2 ∧ M 6 b.toNat 2 ≤ 60 := hW.1 6 b.toNat 2; have z1 : 0 ≤ M 6 t.toNat 2 ∧ M 6 t.toNat 2 ≤ 60 := hW.1 6 t.toNat 2; omega) (by have z0 : 0 ≤ M 1 0 5 ∧ M 1 0 5 ≤ 12 := hW.1 1 0 5; omega)) (tmC_1 ad tc _) rfl (okC_1 (by omega)) rfl rfl (Nat.le_of_ble_eq_true rfl) ⟨by decide, by decide⟩ ⟨by decide, by decide⟩ dX8_span_99 ?_
              refine z_istore hC (L' := [(5, iv (M 1 0 5)), (0, .ref (ad 0 0)), (1, iv t), (2, iv b), (3, iv mo), (4, iv tr)]) dX8_span_102 (by decide) rfl ?_
              refine z_aload_n hC 1 rfl dX8_span_104 rfl ?_
              refine z_getR hC zfX8_21 (tmC_0 ad tc _) (okC_0 (by omega)) rfl dX8_span_105 ?_
              refine z_iload hC 0 rfl dX8_span_108 ?_
              refine z_iload hC 5 rfl dX8_span_110 ?_
              have hW1 : WTC T U (addLineC M t b mo) := addLineC_wt hW (by omega) (by omega) (by omega) (by omega) (by omega)
              refine z_callVv hC zlX8_85 (k_X5_addTrolleys l D tc ad hI (addLineC M t b mo) 0 (M 1 0 5) tr (by omega) hW1 (by omega)) (tmC_12 ad tc _) rfl (okC_12 (by omega)) rfl rfl (Nat.le_of_ble_eq_true rfl) ⟨by decide, by decide⟩ ⟨by decide, by decide⟩ dX8_span_112 ?_
              refine z_iload hC 0 rfl dX8_span_115 ?_
              have hk9 : kSpan M t b mo tr = 0 := by simp only [kSpan]; repeat (first | rw [if_pos (by first | assumption | omega)] | rw [if_neg (by first | assumption | omega)])
              exact z_iretx hC hret hlk rfl hk9 (by rfl) (by rfl) dX8_span_117
            · skip
              have hk9 : kSpan M t b mo tr = 2 := by simp only [kSpan]; repeat (first | rw [if_pos (by first | assumption | omega)] | rw [if_neg (by first | assumption | omega)])
              exact z_throw hC rfl hl hX het hlk (k := kSpan M t b mo tr) (text := "there are 12 lines") (by decide) (zin 119 (by decide +kernel) rfl) (zin 30 (by decide +kernel) rfl) zTh_58 dX8_span_82 dX8_span_85 dX8_span_86 dX8_span_88 dX8_span_91 (by decide) (by rw [hk9]; decide) (by rw [hk9]; rfl) (by rfl)
          · skip
            have hk9 : kSpan M t b mo tr = 1 := by simp only [kSpan]; repeat (first | rw [if_pos (by first | assumption | omega)] | rw [if_neg (by first | assumption | omega)])
            exact z_throw hC rfl hl hX het hlk (k := kSpan M t b mo tr) (text := "the bottom is lower, most is 20 to 150, trolleys are 1 to 3") (by decide) (zin 144 (by decide +kernel) rfl) (zin 29 (by decide +kernel) rfl) zTh_43 dX8_span_60 dX8_span_63 dX8_span_64 dX8_span_66 dX8_span_69 (by decide) (by rw [hk9]; decide) (by rw [hk9]; rfl) (by rfl)
    · skip
      have hk9 : kSpan M t b mo tr = 3 := by simp only [kSpan]; repeat (first | rw [if_pos (by first | assumption | omega)] | rw [if_neg (by first | assumption | omega)])
      exact z_throw hC rfl hl hX het hlk (k := kSpan M t b mo tr) (text := "no such platform") (by decide) (zin 45 (by decide +kernel) rfl) (zin 31 (by decide +kernel) rfl) zTh_71 dX8_span_16 dX8_span_19 dX8_span_20 dX8_span_22 dX8_span_25 (by decide) (by rw [hk9]; decide) (by rw [hk9]; rfl) (by rfl)
set_option maxHeartbeats 4000000 in
set_option maxRecDepth 100000 in
theorem k_X8_add (l : Launch) (hl : l.stackTraces = false) (D : va_G) (tc : Nat → ClassId) (ad : Nat → Nat → Nat) (hI : zI ad okC) (M : zM) {T U : Int} (n : Int) (hW : WTC T U M) (hn : -2147483648 ≤ n ∧ n < 2147483648) : zMx l yX8_add cX8_add 2 (some .int) 6 D (tysC tc) ad okC (tmC ad tc) [.ref (ad 0 0), iv n] M (kAdd M n) ((addTC M 0 n 1) 17 (12 * 0 + n.toNat) 0 + (addTC M 0 n 1) 17 (12 * 0 + n.toNat) 1) (addTC M 0 n 1) := by
  have hlc : 0 ≤ M 1 0 5 ∧ M 1 0 5 ≤ 12 := hW.1 1 0 5
  have hz0 : 0 ≤ M 17 (12 * 0 + n.toNat) 0 ∧ M 17 (12 * 0 + n.toNat) 0 ≤ 3 := hW.1 17 (12 * 0 + n.toNat) 0
  have hz1 : 0 ≤ M 17 (12 * 0 + n.toNat) 1 ∧ M 17 (12 * 0 + n.toNat) 1 ≤ 3 := hW.1 17 (12 * 0 + n.toNat) 1
  refine z_metx hI (by decide) (Nat.le_of_ble_eq_true rfl) ?_
  intro p e s m args below meth c hC hret hlk hX het
  refine z_conv (L2 := [(0, .ref (ad 0 0)), (1, iv n)]) ?_ rfl rfl rfl
  refine z_aload_n hC 0 rfl dX8_add_0 rfl ?_
  refine z_iload_n hC 1 rfl dX8_add_1 rfl ?_
  refine z_callVi hC zlX8_89 (k_X8_isLine l D tc ad hI M n hW (by omega)) (tmC_0 ad tc _) rfl (okC_0 (by omega)) rfl rfl (Nat.le_of_ble_eq_true rfl) ⟨by decide, by decide⟩ ⟨by decide, by decide⟩ dX8_add_2 ?_
  refine z_if_ne_b hC 18 dX8_add_5 (by decide) (fun c5 => ?_) (fun c5 => ?_)
  · skip
    refine z_aload_n hC 0 rfl dX8_add_18 rfl ?_
    refine z_getR hC zfX8_21 (tmC_0 ad tc _) (okC_0 (by omega)) rfl dX8_add_19 ?_
    refine z_getR hC zfX8_94 (tmC_12 ad tc _) (okC_12 (by omega)) rfl dX8_add_22 ?_
    refine z_iload_n hC 1 rfl dX8_add_25 rfl ?_
    refine z_aaload hC 5 ((n).toNat) (ad 17 (12 * 0 + ((n).toNat))) (tmC_14 ad tc _) (tysC_5 tc) (okC_14 (by omega)) (by omega) (by omega) (by decide) rfl dX8_add_26 ?_
    refine z_callVi hC zlX8_98 (k_X7_inAll l D tc ad hI M (12 * 0 + ((n).toNat)) (by omega)) (tmC_17 ad tc _) rfl (okC_17 (by omega)) rfl rfl (Nat.le_of_ble_eq_true rfl) ⟨by decide, by decide⟩ ⟨by decide, by decide⟩ dX8_add_27 ?_
    refine z_iconst hC dX8_add_30 ?_
    refine z_icmp_lt hC 44 dX8_add_31 (by decide) (by omega) (by omega) (fun c31 => ?_) (fun c31 => ?_)
    · skip
      refine z_aload_n hC 0 rfl dX8_add_44 rfl ?_
      refine z_getR hC zfX8_21 (tmC_0 ad tc _) (okC_0 (by omega)) rfl dX8_add_45 ?_
      refine z_iload_n hC 1 rfl dX8_add_48 rfl ?_
      refine z_iconst hC dX8_add_49 ?_
      refine z_callVv hC zlX8_85 (k_X5_addTrolleys l D tc ad hI M 0 n 1 (by omega) hW (by omega)) (tmC_12 ad tc _) rfl (okC_12 (by omega)) rfl rfl (Nat.le_of_ble_eq_true rfl) ⟨by decide, by decide⟩ ⟨by decide, by decide⟩ dX8_add_50 ?_
      refine z_aload_n hC 0 rfl dX8_add_53 rfl ?_
      refine z_getR hC zfX8_21 (tmC_0 ad tc _) (okC_0 (by omega)) rfl dX8_add_54 ?_
      refine z_getR hC zfX8_94 (tmC_12 ad tc _) (okC_12 (by omega)) rfl dX8_add_57 ?_
      refine z_iload_n hC 1 rfl dX8_add_60 rfl ?_
      refine z_aaload hC 5 ((n).toNat) (ad 17 (12 * 0 + ((n).toNat))) (tmC_14 ad tc _) (tysC_5 tc) (okC_14 (by omega)) (by omega) (by omega) (by decide) rfl dX8_add_61 ?_
      refine z_callVi hC zlX8_98 (k_X7_inAll l D tc ad hI (addTC M 0 n 1) (12 * 0 + ((n).toNat)) (by omega)) (tmC_17 ad tc _) rfl (okC_17 (by omega)) rfl rfl (Nat.le_of_ble_eq_true rfl) ⟨by decide, by decide⟩ ⟨by decide, by decide⟩ dX8_add_62 ?_
      have hk9 : kAdd M n = 0 := by simp only [kAdd]; repeat (first | rw [if_pos (by first | assumption | omega)] | rw [if_neg (by first | assumption | omega)])
      exact z_iretx hC hret hlk rfl hk9 (by rfl) (by rfl) dX8_add_65
    · skip
      have hk9 : kAdd M n = 2 := by simp only [kAdd]; repeat (first | rw [if_pos (by first | assumption | omega)] | rw [if_neg (by first | assumption | omega)])
      exact z_throw hC rfl hl hX het hlk (k := kAdd M n) (text := "the line has 3 trolleys") (by decide) (zin 119 (by decide +kernel) rfl) (zin 30 (by decide +kernel) rfl) zTh_58 dX8_add_34 dX8_add_37 dX8_add_38 dX8_add_40 dX8_add_43 (by decide) (by rw [hk9]; decide) (by rw [hk9]; rfl) (by rfl)
  · skip
    have hk9 : kAdd M n = 3 := by simp only [kAdd]; repeat (first | rw [if_pos (by first | assumption | omega)] | rw [if_neg (by first | assumption | omega)])
    exact z_throw hC rfl hl hX het hlk (k := kAdd M n) (text := "no such line") (by decide) (zin 45 (by decide +kernel) rfl) (zin 31 (by decide +kernel) rfl) zTh_71 dX8_add_8 dX8_add_11 dX8_add_12 dX8_add_14 dX8_add_17 (by decide) (by rw [hk9]; decide) (by rw [hk9]; rfl) (by rfl)
set_option maxHeartbeats 4000000 in
set_option maxRecDepth 100000 in
theorem k_X8_setWind (l : Launch) (hl : l.stackTraces = false) (D : va_G) (tc : Nat → ClassId) (ad : Nat → Nat → Nat) (hI : zI ad okC) (M : zM) {T U : Int} (mi w : Int) (hW : WTC T U M) (hmi : -2147483648 ≤ mi ∧ mi < 2147483648) (hw : -2147483648 ≤ w ∧ w < 2147483648) : zMx l yX8_setWind cX8_setWind 4 (some .int) 6 D (tysC tc) ad okC (tmC ad tc) [.ref (ad 0 0), iv mi, iv w] M (kWind mi w) (M 5 0 mi.toNat) (zup M 5 0 mi.toNat w) := by
  refine z_metx hI (by decide) (Nat.le_of_ble_eq_true rfl) ?_
  intro p e s m args below meth c hC hret hlk hX het
  refine z_conv (L2 := [(0, .ref (ad 0 0)), (1, iv mi), (2, iv w)]) ?_ rfl rfl rfl
  refine z_iload_n hC 1 rfl dX8_setWind_0 rfl ?_
  refine z_iconst hC dX8_setWind_1 ?_
  refine z_bipush hC dX8_setWind_2 (by decide) ?_
  refine z_callSi hC zlX8_35 (k_X8_within l D tc ad hI M mi 0 11 (by omega) (by omega) (by omega)) rfl rfl (Nat.le_of_ble_eq_true rfl) ⟨by decide, by decide⟩ ⟨by decide, by decide⟩ dX8_setWind_4 ?_
  refine z_if_ne_b hC 20 dX8_setWind_7 (by decide) (fun c7 => ?_) (fun c7 => ?_)
  · skip
    refine z_iload_n hC 2 rfl dX8_setWind_20 rfl ?_
    refine z_iconst hC dX8_setWind_21 ?_
    refine z_bipush hC dX8_setWind_22 (by decide) ?_
    refine z_callSi hC zlX8_35 (k_X8_within l D tc ad hI M w 0 9 (by omega) (by omega) (by omega)) rfl rfl (Nat.le_of_ble_eq_true rfl) ⟨by decide, by decide⟩ ⟨by decide, by decide⟩ dX8_setWind_24 ?_
    refine z_if_ne_b hC 40 dX8_setWind_27 (by decide) (fun c27 => ?_) (fun c27 => ?_)
    · skip
      refine z_aload_n hC 0 rfl dX8_setWind_40 rfl ?_
      refine z_getR hC zfX8_10 (tmC_0 ad tc _) (okC_0 (by omega)) rfl dX8_setWind_41 ?_
      refine z_getR hC zfX8_110 (tmC_1 ad tc _) (okC_1 (by omega)) rfl dX8_setWind_44 ?_
      refine z_iload_n hC 1 rfl dX8_setWind_47 rfl ?_
      have hq1 : 0 ≤ M 5 0 ((mi).toNat) ∧ M 5 0 ((mi).toNat) ≤ 9 := hW.1 5 0 ((mi).toNat)
      refine z_iaload hC 0 ((mi).toNat) (tmC_5 ad tc _) (tysC_0 tc) (okC_5 (by omega)) (by omega) (by omega) (by decide) (x := M 5 0 ((mi).toNat)) (rfl) dX8_setWind_48 ?_
      refine z_istore_n hC (L' := [(3, iv (M 5 0 ((mi).toNat))), (0, .ref (ad 0 0)), (1, iv mi), (2, iv w)]) dX8_setWind_49 rfl (by decide) rfl ?_
      refine z_aload_n hC 1 rfl dX8_setWind_50 rfl ?_
      refine z_getR hC zfX8_10 (tmC_0 ad tc _) (okC_0 (by omega)) rfl dX8_setWind_51 ?_
      refine z_getR hC zfX8_110 (tmC_1 ad tc _) (okC_1 (by omega)) rfl dX8_setWind_54 ?_
      refine z_iload_n hC 2 rfl dX8_setWind_57 rfl ?_
      refine z_iload_n hC 3 rfl dX8_setWind_58 rfl ?_
      refine z_iastore hC 0 ((mi).toNat) (tmC_5 ad tc _) (tysC_0 tc) (okC_5 (by omega)) (by omega) (by omega) (by decide) dX8_setWind_59 ?_
      refine z_iload_n hC 0 rfl dX8_setWind_60 rfl ?_
      have hk9 : kWind mi w = 0 := by simp only [kWind]; repeat (first | rw [if_pos (by first | assumption | omega)] | rw [if_neg (by first | assumption | omega)])
      exact z_iretx hC hret hlk rfl hk9 (by rfl) (by rfl) dX8_setWind_61
    · skip
      have hk9 : kWind mi w = 1 := by simp only [kWind]; repeat (first | rw [if_pos (by first | assumption | omega)] | rw [if_neg (by first | assumption | omega)])
      exact z_throw hC rfl hl hX het hlk (k := kWind mi w) (text := "the wind is 0 to 9") (by decide) (zin 144 (by decide +kernel) rfl) (zin 29 (by decide +kernel) rfl) zTh_43 dX8_setWind_30 dX8_setWind_33 dX8_setWind_34 dX8_setWind_36 dX8_setWind_39 (by decide) (by rw [hk9]; decide) (by rw [hk9]; rfl) (by rfl)
  · skip
    have hk9 : kWind mi w = 3 := by simp only [kWind]; repeat (first | rw [if_pos (by first | assumption | omega)] | rw [if_neg (by first | assumption | omega)])
    exact z_throw hC rfl hl hX het hlk (k := kWind mi w) (text := "the minute is 0 to 11") (by decide) (zin 45 (by decide +kernel) rfl) (zin 31 (by decide +kernel) rfl) zTh_71 dX8_setWind_10 dX8_setWind_13 dX8_setWind_14 dX8_setWind_16 dX8_setWind_19 (by decide) (by rw [hk9]; decide) (by rw [hk9]; rfl) (by rfl)
set_option maxHeartbeats 4000000 in
set_option maxRecDepth 100000 in
theorem k_X8_platform (l : Launch) (hl : l.stackTraces = false) (D : va_G) (tc : Nat → ClassId) (ad : Nat → Nat → Nat) (hI : zI ad okC) (M : zM) {T U : Int} (n w : Int) (hW : WTC T U M) (hn : -2147483648 ≤ n ∧ n < 2147483648) (hw : -2147483648 ≤ w ∧ w < 2147483648) : zMx l yX8_platform cX8_platform 3 (some .int) 6 D (tysC tc) ad okC (tmC ad tc) [.ref (ad 0 0), iv n, iv w] M (kPlat M n w) (platFactC M n w) M := by
  have hpc : 0 ≤ M 1 0 4 ∧ M 1 0 4 ≤ 8 := hW.1 1 0 4
  refine z_metx hI (by decide) (Nat.le_of_ble_eq_true rfl) ?_
  intro p e s m args below meth c hC hret hlk hX het
  refine z_conv (L2 := [(0, .ref (ad 0 0)), (1, iv n), (2, iv w)]) ?_ rfl rfl rfl
  refine z_aload_n hC 0 rfl dX8_platform_0 rfl ?_
  refine z_iload_n hC 1 rfl dX8_platform_1 rfl ?_
  refine z_callVi hC zlX8_63 (k_X8_isPlatform l D tc ad hI M n hW (by omega)) (tmC_0 ad tc _) rfl (okC_0 (by omega)) rfl rfl (Nat.le_of_ble_eq_true rfl) ⟨by decide, by decide⟩ ⟨by decide, by decide⟩ dX8_platform_2 ?_
  refine z_if_eq_b hC 18 dX8_platform_5 (by decide) (fun c5 => ?_) (fun c5 => ?_)
  · skip
    have hk9 : kPlat M n w = 3 := by simp only [kPlat]; repeat (first | rw [if_pos (by first | assumption | omega)] | rw [if_neg (by first | assumption | omega)])
    exact z_throw hC rfl hl hX het hlk (k := kPlat M n w) (text := "no such platform, or what is not 0 to 7") (by decide) (zin 45 (by decide +kernel) rfl) (zin 31 (by decide +kernel) rfl) zTh_71 dX8_platform_18 dX8_platform_21 dX8_platform_22 dX8_platform_24 dX8_platform_27 (by decide) (by rw [hk9]; decide) (by rw [hk9]; rfl) (by rfl)
  · skip
    refine z_iload_n hC 2 rfl dX8_platform_8 rfl ?_
    refine z_iconst hC dX8_platform_9 ?_
    refine z_bipush hC dX8_platform_10 (by decide) ?_
    refine z_callSi hC zlX8_35 (k_X8_within l D tc ad hI M w 0 7 (by omega) (by omega) (by omega)) rfl rfl (Nat.le_of_ble_eq_true rfl) ⟨by decide, by decide⟩ ⟨by decide, by decide⟩ dX8_platform_12 ?_
    refine z_if_ne_b hC 28 dX8_platform_15 (by decide) (fun c15 => ?_) (fun c15 => ?_)
    · skip
      refine z_aload_n hC 0 rfl dX8_platform_28 rfl ?_
      refine z_iload_n hC 1 rfl dX8_platform_29 rfl ?_
      refine z_iload_n hC 2 rfl dX8_platform_30 rfl ?_
      refine z_callVi hC zlX8_116 (k_X8_platformFact l D tc ad hI M n w hW (by omega) (by omega)) (tmC_0 ad tc _) rfl (okC_0 (by omega)) rfl rfl (Nat.le_of_ble_eq_true rfl) ⟨by decide, by decide⟩ ⟨by decide, by decide⟩ dX8_platform_31 ?_
      have hk9 : kPlat M n w = 0 := by simp only [kPlat]; repeat (first | rw [if_pos (by first | assumption | omega)] | rw [if_neg (by first | assumption | omega)])
      exact z_iretx hC hret hlk rfl hk9 (by rfl) (by rfl) dX8_platform_34
    · skip
      have hk9 : kPlat M n w = 3 := by simp only [kPlat]; repeat (first | rw [if_pos (by first | assumption | omega)] | rw [if_neg (by first | assumption | omega)])
      exact z_throw hC rfl hl hX het hlk (k := kPlat M n w) (text := "no such platform, or what is not 0 to 7") (by decide) (zin 45 (by decide +kernel) rfl) (zin 31 (by decide +kernel) rfl) zTh_71 dX8_platform_18 dX8_platform_21 dX8_platform_22 dX8_platform_24 dX8_platform_27 (by decide) (by rw [hk9]; decide) (by rw [hk9]; rfl) (by rfl)
set_option maxHeartbeats 4000000 in
set_option maxRecDepth 100000 in
theorem k_X8_line (l : Launch) (hl : l.stackTraces = false) (D : va_G) (tc : Nat → ClassId) (ad : Nat → Nat → Nat) (hI : zI ad okC) (M : zM) {T U : Int} (n w : Int) (hW : WTC T U M) (hn : -2147483648 ≤ n ∧ n < 2147483648) (hw : -2147483648 ≤ w ∧ w < 2147483648) : zMx l yX8_line cX8_line 3 (some .int) 6 D (tysC tc) ad okC (tmC ad tc) [.ref (ad 0 0), iv n, iv w] M (kLine M n w) (lineFactC M n w) M := by
  have hlc : 0 ≤ M 1 0 5 ∧ M 1 0 5 ≤ 12 := hW.1 1 0 5
  refine z_metx hI (by decide) (Nat.le_of_ble_eq_true rfl) ?_
  intro p e s m args below meth c hC hret hlk hX het
  refine z_conv (L2 := [(0, .ref (ad 0 0)), (1, iv n), (2, iv w)]) ?_ rfl rfl rfl
  refine z_aload_n hC 0 rfl dX8_line_0 rfl ?_
  refine z_iload_n hC 1 rfl dX8_line_1 rfl ?_
  refine z_callVi hC zlX8_89 (k_X8_isLine l D tc ad hI M n hW (by omega)) (tmC_0 ad tc _) rfl (okC_0 (by omega)) rfl rfl (Nat.le_of_ble_eq_true rfl) ⟨by decide, by decide⟩ ⟨by decide, by decide⟩ dX8_line_2 ?_
  refine z_if_eq_b hC 18 dX8_line_5 (by decide) (fun c5 => ?_) (fun c5 => ?_)
  · skip
    have hk9 : kLine M n w = 3 := by simp only [kLine]; repeat (first | rw [if_pos (by first | assumption | omega)] | rw [if_neg (by first | assumption | omega)])
    exact z_throw hC rfl hl hX het hlk (k := kLine M n w) (text := "no such line, or what is not 0 to 10") (by decide) (zin 45 (by decide +kernel) rfl) (zin 31 (by decide +kernel) rfl) zTh_71 dX8_line_18 dX8_line_21 dX8_line_22 dX8_line_24 dX8_line_27 (by decide) (by rw [hk9]; decide) (by rw [hk9]; rfl) (by rfl)
  · skip
    refine z_iload_n hC 2 rfl dX8_line_8 rfl ?_
    refine z_iconst hC dX8_line_9 ?_
    refine z_bipush hC dX8_line_10 (by decide) ?_
    refine z_callSi hC zlX8_35 (k_X8_within l D tc ad hI M w 0 10 (by omega) (by omega) (by omega)) rfl rfl (Nat.le_of_ble_eq_true rfl) ⟨by decide, by decide⟩ ⟨by decide, by decide⟩ dX8_line_12 ?_
    refine z_if_ne_b hC 28 dX8_line_15 (by decide) (fun c15 => ?_) (fun c15 => ?_)
    · skip
      refine z_aload_n hC 0 rfl dX8_line_28 rfl ?_
      refine z_iload_n hC 1 rfl dX8_line_29 rfl ?_
      refine z_iload_n hC 2 rfl dX8_line_30 rfl ?_
      refine z_callVi hC zlX8_122 (k_X8_lineFact l D tc ad hI M n w hW (by omega) (by omega)) (tmC_0 ad tc _) rfl (okC_0 (by omega)) rfl rfl (Nat.le_of_ble_eq_true rfl) ⟨by decide, by decide⟩ ⟨by decide, by decide⟩ dX8_line_31 ?_
      have hk9 : kLine M n w = 0 := by simp only [kLine]; repeat (first | rw [if_pos (by first | assumption | omega)] | rw [if_neg (by first | assumption | omega)])
      exact z_iretx hC hret hlk rfl hk9 (by rfl) (by rfl) dX8_line_34
    · skip
      have hk9 : kLine M n w = 3 := by simp only [kLine]; repeat (first | rw [if_pos (by first | assumption | omega)] | rw [if_neg (by first | assumption | omega)])
      exact z_throw hC rfl hl hX het hlk (k := kLine M n w) (text := "no such line, or what is not 0 to 10") (by decide) (zin 45 (by decide +kernel) rfl) (zin 31 (by decide +kernel) rfl) zTh_71 dX8_line_18 dX8_line_21 dX8_line_22 dX8_line_24 dX8_line_27 (by decide) (by rw [hk9]; decide) (by rw [hk9]; rfl) (by rfl)
set_option maxHeartbeats 4000000 in
set_option maxRecDepth 100000 in
theorem k_X8_come (l : Launch) (hl : l.stackTraces = false) (D : va_G) (tc : Nat → ClassId) (ad : Nat → Nat → Nat) (hI : zI ad okC) (M : zM) {T U : Int} (q g w pa : Int) (hW : WTC T U M) (hq : -2147483648 ≤ q ∧ q < 2147483648) (hg : -2147483648 ≤ g ∧ g < 2147483648) (hw : -2147483648 ≤ w ∧ w < 2147483648) (hpa : -2147483648 ≤ pa ∧ pa < 2147483648) : zMx l yX8_come cX8_come 6 (some .int) 6 D (tysC tc) ad okC (tmC ad tc) [.ref (ad 0 0), iv q, iv g, iv w, iv pa] M (kCome M q g w pa) (M 1 0 6) (reachC (addRiderC M g w pa) 0 (M 1 0 6) q) := by
  have hpc : 0 ≤ M 1 0 4 ∧ M 1 0 4 ≤ 8 := hW.1 1 0 4
  have hrc : 0 ≤ M 1 0 6 ∧ M 1 0 6 ≤ 12 := hW.1 1 0 6
  refine z_metx hI (by decide) (Nat.le_of_ble_eq_true rfl) ?_
  intro p e s m args below meth c hC hret hlk hX het
  refine z_conv (L2 := [(0, .ref (ad 0 0)), (1, iv q), (2, iv g), (3, iv w), (4, iv pa)]) ?_ rfl rfl rfl
  refine z_aload_n hC 0 rfl dX8_come_0 rfl ?_
  refine z_iload_n hC 1 rfl dX8_come_1 rfl ?_
  refine z_callVi hC zlX8_63 (k_X8_isPlatform l D tc ad hI M q hW (by omega)) (tmC_0 ad tc _) rfl (okC_0 (by omega)) rfl rfl (Nat.le_of_ble_eq_true rfl) ⟨by decide, by decide⟩ ⟨by decide, by decide⟩ dX8_come_2 ?_
  refine z_if_eq_b hC 16 dX8_come_5 (by decide) (fun c5 => ?_) (fun c5 => ?_)
  · skip
    have hk9 : kCome M q g w pa = 3 := by simp only [kCome]; repeat (first | rw [if_pos (by first | assumption | omega)] | rw [if_neg (by first | assumption | omega)])
    exact z_throw hC rfl hl hX het hlk (k := kCome M q g w pa) (text := "no such platform or goal") (by decide) (zin 45 (by decide +kernel) rfl) (zin 31 (by decide +kernel) rfl) zTh_71 dX8_come_16 dX8_come_19 dX8_come_20 dX8_come_22 dX8_come_25 (by decide) (by rw [hk9]; decide) (by rw [hk9]; rfl) (by rfl)
  · skip
    refine z_aload_n hC 0 rfl dX8_come_8 rfl ?_
    refine z_iload_n hC 2 rfl dX8_come_9 rfl ?_
    refine z_callVi hC zlX8_63 (k_X8_isPlatform l D tc ad hI M g hW (by omega)) (tmC_0 ad tc _) rfl (okC_0 (by omega)) rfl rfl (Nat.le_of_ble_eq_true rfl) ⟨by decide, by decide⟩ ⟨by decide, by decide⟩ dX8_come_10 ?_
    refine z_if_ne_b hC 26 dX8_come_13 (by decide) (fun c13 => ?_) (fun c13 => ?_)
    · skip
      refine z_iload_n hC 3 rfl dX8_come_26 rfl ?_
      refine z_callSi hC zlX8_125 (k_X8_isWeight l D tc ad hI M w (by omega)) rfl rfl (Nat.le_of_ble_eq_true rfl) ⟨by decide, by decide⟩ ⟨by decide, by decide⟩ dX8_come_27 ?_
      refine z_if_eq_b hC 44 dX8_come_30 (by decide) (fun c30 => ?_) (fun c30 => ?_)
      · skip
        have hk9 : kCome M q g w pa = 1 := by simp only [kCome]; repeat (first | rw [if_pos (by first | assumption | omega)] | rw [if_neg (by first | assumption | omega)])
        exact z_throw hC rfl hl hX het hlk (k := kCome M q g w pa) (text := "the weight is 20 to 120, the patience 1 to 60") (by decide) (zin 144 (by decide +kernel) rfl) (zin 29 (by decide +kernel) rfl) zTh_43 dX8_come_44 dX8_come_47 dX8_come_48 dX8_come_50 dX8_come_53 (by decide) (by rw [hk9]; decide) (by rw [hk9]; rfl) (by rfl)
      · skip
        refine z_iload hC 4 rfl dX8_come_33 ?_
        refine z_iconst hC dX8_come_35 ?_
        refine z_bipush hC dX8_come_36 (by decide) ?_
        refine z_callSi hC zlX8_35 (k_X8_within l D tc ad hI M pa 1 60 (by omega) (by omega) (by omega)) rfl rfl (Nat.le_of_ble_eq_true rfl) ⟨by decide, by decide⟩ ⟨by decide, by decide⟩ dX8_come_38 ?_
        refine z_if_ne_b hC 54 dX8_come_41 (by decide) (fun c41 => ?_) (fun c41 => ?_)
        · skip
          refine z_aload_n hC 0 rfl dX8_come_54 rfl ?_
          refine z_getR hC zfX8_10 (tmC_0 ad tc _) (okC_0 (by omega)) rfl dX8_come_55 ?_
          have hq1 : 0 ≤ M 1 0 6 ∧ M 1 0 6 ≤ 12 := hW.1 1 0 6
          refine z_getI hC zfX8_150 (tmC_1 ad tc _) (okC_1 (by omega)) rfl (x := M 1 0 6) (rfl) dX8_come_58 ?_
          refine z_bipush hC dX8_come_61 (by decide) ?_
          refine z_icmp_lt hC 76 dX8_come_63 (by decide) (by omega) (by omega) (fun c63 => ?_) (fun c63 => ?_)
          · skip
            refine z_aload_n hC 0 rfl dX8_come_76 rfl ?_
            refine z_getR hC zfX8_10 (tmC_0 ad tc _) (okC_0 (by omega)) rfl dX8_come_77 ?_
            refine z_iload_n hC 2 rfl dX8_come_80 rfl ?_
            refine z_iload_n hC 3 rfl dX8_come_81 rfl ?_
            refine z_iload hC 4 rfl dX8_come_82 ?_
            refine z_callVi hC zlX8_155 (k_X0_addRider l D tc ad hI M g w pa hW (by omega) (by omega) (by omega) (by have z0 : 0 ≤ M 1 0 6 ∧ M 1 0 6 ≤ 12 := hW.1 1 0 6; omega)) (tmC_1 ad tc _) rfl (okC_1 (by omega)) rfl rfl (Nat.le_of_ble_eq_true rfl) ⟨by decide, by decide⟩ ⟨by decide, by decide⟩ dX8_come_84 ?_
            refine z_istore hC (L' := [(5, iv (M 1 0 6)), (0, .ref (ad 0 0)), (1, iv q), (2, iv g), (3, iv w), (4, iv pa)]) dX8_come_87 (by decide) rfl ?_
            refine z_aload_n hC 1 rfl dX8_come_89 rfl ?_
            refine z_getR hC zfX8_21 (tmC_0 ad tc _) (okC_0 (by omega)) rfl dX8_come_90 ?_
            refine z_iload hC 0 rfl dX8_come_93 ?_
            refine z_iload_n hC 2 rfl dX8_come_95 rfl ?_
            have hW1 : WTC T U (addRiderC M g w pa) := addRiderC_wt hW (by omega) (by omega) (by omega) (by omega)
            refine z_callVv hC zlX8_158 (k_X5_reach l D tc ad hI (addRiderC M g w pa) 0 (M 1 0 6) q (by omega) hW1 (by omega) (by omega)) (tmC_12 ad tc _) rfl (okC_12 (by omega)) rfl rfl (Nat.le_of_ble_eq_true rfl) ⟨by decide, by decide⟩ ⟨by decide, by decide⟩ dX8_come_96 ?_
            refine z_iload hC 0 rfl dX8_come_99 ?_
            have hk9 : kCome M q g w pa = 0 := by simp only [kCome]; repeat (first | rw [if_pos (by first | assumption | omega)] | rw [if_neg (by first | assumption | omega)])
            exact z_iretx hC hret hlk rfl hk9 (by rfl) (by rfl) dX8_come_101
          · skip
            have hk9 : kCome M q g w pa = 2 := by simp only [kCome]; repeat (first | rw [if_pos (by first | assumption | omega)] | rw [if_neg (by first | assumption | omega)])
            exact z_throw hC rfl hl hX het hlk (k := kCome M q g w pa) (text := "there are 12 riders") (by decide) (zin 119 (by decide +kernel) rfl) (zin 30 (by decide +kernel) rfl) zTh_58 dX8_come_66 dX8_come_69 dX8_come_70 dX8_come_72 dX8_come_75 (by decide) (by rw [hk9]; decide) (by rw [hk9]; rfl) (by rfl)
        · skip
          have hk9 : kCome M q g w pa = 1 := by simp only [kCome]; repeat (first | rw [if_pos (by first | assumption | omega)] | rw [if_neg (by first | assumption | omega)])
          exact z_throw hC rfl hl hX het hlk (k := kCome M q g w pa) (text := "the weight is 20 to 120, the patience 1 to 60") (by decide) (zin 144 (by decide +kernel) rfl) (zin 29 (by decide +kernel) rfl) zTh_43 dX8_come_44 dX8_come_47 dX8_come_48 dX8_come_50 dX8_come_53 (by decide) (by rw [hk9]; decide) (by rw [hk9]; rfl) (by rfl)
    · skip
      have hk9 : kCome M q g w pa = 3 := by simp only [kCome]; repeat (first | rw [if_pos (by first | assumption | omega)] | rw [if_neg (by first | assumption | omega)])
      exact z_throw hC rfl hl hX het hlk (k := kCome M q g w pa) (text := "no such platform or goal") (by decide) (zin 45 (by decide +kernel) rfl) (zin 31 (by decide +kernel) rfl) zTh_71 dX8_come_16 dX8_come_19 dX8_come_20 dX8_come_22 dX8_come_25 (by decide) (by rw [hk9]; decide) (by rw [hk9]; rfl) (by rfl)
set_option maxHeartbeats 4000000 in
set_option maxRecDepth 100000 in
theorem k_X8_rider (l : Launch) (hl : l.stackTraces = false) (D : va_G) (tc : Nat → ClassId) (ad : Nat → Nat → Nat) (hI : zI ad okC) (M : zM) {T U : Int} (n w : Int) (hW : WTC T U M) (hn : -2147483648 ≤ n ∧ n < 2147483648) (hw : -2147483648 ≤ w ∧ w < 2147483648) : zMx l yX8_rider cX8_rider 3 (some .int) 6 D (tysC tc) ad okC (tmC ad tc) [.ref (ad 0 0), iv n, iv w] M (kRider M n w) (riderFactC M n w) M := by
  have hrc : 0 ≤ M 1 0 6 ∧ M 1 0 6 ≤ 12 := hW.1 1 0 6
  refine z_metx hI (by decide) (Nat.le_of_ble_eq_true rfl) ?_
  intro p e s m args below meth c hC hret hlk hX het
  refine z_conv (L2 := [(0, .ref (ad 0 0)), (1, iv n), (2, iv w)]) ?_ rfl rfl rfl
  refine z_aload_n hC 0 rfl dX8_rider_0 rfl ?_
  refine z_iload_n hC 1 rfl dX8_rider_1 rfl ?_
  refine z_callVi hC zlX8_161 (k_X8_isRider l D tc ad hI M n hW (by omega)) (tmC_0 ad tc _) rfl (okC_0 (by omega)) rfl rfl (Nat.le_of_ble_eq_true rfl) ⟨by decide, by decide⟩ ⟨by decide, by decide⟩ dX8_rider_2 ?_
  refine z_if_eq_b hC 18 dX8_rider_5 (by decide) (fun c5 => ?_) (fun c5 => ?_)
  · skip
    have hk9 : kRider M n w = 3 := by simp only [kRider]; repeat (first | rw [if_pos (by first | assumption | omega)] | rw [if_neg (by first | assumption | omega)])
    exact z_throw hC rfl hl hX het hlk (k := kRider M n w) (text := "no such rider, or what is not 0 to 10") (by decide) (zin 45 (by decide +kernel) rfl) (zin 31 (by decide +kernel) rfl) zTh_71 dX8_rider_18 dX8_rider_21 dX8_rider_22 dX8_rider_24 dX8_rider_27 (by decide) (by rw [hk9]; decide) (by rw [hk9]; rfl) (by rfl)
  · skip
    refine z_iload_n hC 2 rfl dX8_rider_8 rfl ?_
    refine z_iconst hC dX8_rider_9 ?_
    refine z_bipush hC dX8_rider_10 (by decide) ?_
    refine z_callSi hC zlX8_35 (k_X8_within l D tc ad hI M w 0 10 (by omega) (by omega) (by omega)) rfl rfl (Nat.le_of_ble_eq_true rfl) ⟨by decide, by decide⟩ ⟨by decide, by decide⟩ dX8_rider_12 ?_
    refine z_if_ne_b hC 28 dX8_rider_15 (by decide) (fun c15 => ?_) (fun c15 => ?_)
    · skip
      refine z_aload_n hC 0 rfl dX8_rider_28 rfl ?_
      refine z_iload_n hC 1 rfl dX8_rider_29 rfl ?_
      refine z_iload_n hC 2 rfl dX8_rider_30 rfl ?_
      refine z_callVi hC zlX8_166 (k_X8_riderFact l D tc ad hI M n w hW (by omega) (by omega)) (tmC_0 ad tc _) rfl (okC_0 (by omega)) rfl rfl (Nat.le_of_ble_eq_true rfl) ⟨by decide, by decide⟩ ⟨by decide, by decide⟩ dX8_rider_31 ?_
      have hk9 : kRider M n w = 0 := by simp only [kRider]; repeat (first | rw [if_pos (by first | assumption | omega)] | rw [if_neg (by first | assumption | omega)])
      exact z_iretx hC hret hlk rfl hk9 (by rfl) (by rfl) dX8_rider_34
    · skip
      have hk9 : kRider M n w = 3 := by simp only [kRider]; repeat (first | rw [if_pos (by first | assumption | omega)] | rw [if_neg (by first | assumption | omega)])
      exact z_throw hC rfl hl hX het hlk (k := kRider M n w) (text := "no such rider, or what is not 0 to 10") (by decide) (zin 45 (by decide +kernel) rfl) (zin 31 (by decide +kernel) rfl) zTh_71 dX8_rider_18 dX8_rider_21 dX8_rider_22 dX8_rider_24 dX8_rider_27 (by decide) (by rw [hk9]; decide) (by rw [hk9]; rfl) (by rfl)
set_option maxHeartbeats 4000000 in
set_option maxRecDepth 100000 in
theorem k_X8_queue (l : Launch) (hl : l.stackTraces = false) (D : va_G) (tc : Nat → ClassId) (ad : Nat → Nat → Nat) (hI : zI ad okC) (M : zM) {T U : Int} (n ix : Int) (hW : WTC T U M) (hn : -2147483648 ≤ n ∧ n < 2147483648) (hix : -2147483648 ≤ ix ∧ ix < 2147483648) : zMx l yX8_queue cX8_queue 3 (some .int) 6 D (tysC tc) ad okC (tmC ad tc) [.ref (ad 0 0), iv n, iv ix] M (kQueue M n ix) (qAt M 0 n ix) M := by
  have hpc : 0 ≤ M 1 0 4 ∧ M 1 0 4 ≤ 8 := hW.1 1 0 4
  have hql := zcnt_le (fun j => M 16 (12 * 0 + (M 15 0 j).toNat) 1 = n) (M 12 0 4).toNat
  have hwc : 0 ≤ M 12 0 4 ∧ M 12 0 4 ≤ 12 := hW.1 12 0 4
  have hq9 : 0 ≤ qLen M 0 n ∧ qLen M 0 n ≤ 12 := by simp only [qLen]; omega
  refine z_metx hI (by decide) (Nat.le_of_ble_eq_true rfl) ?_
  intro p e s m args below meth c hC hret hlk hX het
  refine z_conv (L2 := [(0, .ref (ad 0 0)), (1, iv n), (2, iv ix)]) ?_ rfl rfl rfl
  refine z_aload_n hC 0 rfl dX8_queue_0 rfl ?_
  refine z_iload_n hC 1 rfl dX8_queue_1 rfl ?_
  refine z_callVi hC zlX8_63 (k_X8_isPlatform l D tc ad hI M n hW (by omega)) (tmC_0 ad tc _) rfl (okC_0 (by omega)) rfl rfl (Nat.le_of_ble_eq_true rfl) ⟨by decide, by decide⟩ ⟨by decide, by decide⟩ dX8_queue_2 ?_
  refine z_if_eq_b hC 26 dX8_queue_5 (by decide) (fun c5 => ?_) (fun c5 => ?_)
  · skip
    have hk9 : kQueue M n ix = 3 := by simp only [kQueue]; repeat (first | rw [if_pos (by first | assumption | omega)] | rw [if_neg (by first | assumption | omega)])
    exact z_throw hC rfl hl hX het hlk (k := kQueue M n ix) (text := "no such platform or place in its queue") (by decide) (zin 45 (by decide +kernel) rfl) (zin 31 (by decide +kernel) rfl) zTh_71 dX8_queue_26 dX8_queue_29 dX8_queue_30 dX8_queue_32 dX8_queue_35 (by decide) (by rw [hk9]; decide) (by rw [hk9]; rfl) (by rfl)
  · skip
    refine z_iload_n hC 2 rfl dX8_queue_8 rfl ?_
    refine z_iconst hC dX8_queue_9 ?_
    refine z_aload_n hC 0 rfl dX8_queue_10 rfl ?_
    refine z_getR hC zfX8_21 (tmC_0 ad tc _) (okC_0 (by omega)) rfl dX8_queue_11 ?_
    refine z_iload_n hC 1 rfl dX8_queue_14 rfl ?_
    refine z_callVi hC zlX8_169 (k_X5_queueLength l D tc ad hI M 0 n (by omega) hW (by omega)) (tmC_12 ad tc _) rfl (okC_12 (by omega)) rfl rfl (Nat.le_of_ble_eq_true rfl) ⟨by decide, by decide⟩ ⟨by decide, by decide⟩ dX8_queue_15 ?_
    refine z_iconst hC dX8_queue_18 ?_
    refine z_isub hC dX8_queue_19 ?_
    refine z_callSi hC zlX8_35 (k_X8_within l D tc ad hI M ix 0 ((qLen M 0 n) - 1) (by omega) (by omega) (by omega)) rfl rfl (Nat.le_of_ble_eq_true rfl) ⟨by decide, by decide⟩ ⟨by decide, by decide⟩ dX8_queue_20 ?_
    refine z_if_ne_b hC 36 dX8_queue_23 (by decide) (fun c23 => ?_) (fun c23 => ?_)
    · skip
      refine z_aload_n hC 0 rfl dX8_queue_36 rfl ?_
      refine z_getR hC zfX8_21 (tmC_0 ad tc _) (okC_0 (by omega)) rfl dX8_queue_37 ?_
      refine z_iload_n hC 1 rfl dX8_queue_40 rfl ?_
      refine z_iload_n hC 2 rfl dX8_queue_41 rfl ?_
      refine z_callVi hC zlX8_174 (k_X5_inQueue l D tc ad hI M 0 n ix (by omega) hW (by omega) (by omega)) (tmC_12 ad tc _) rfl (okC_12 (by omega)) rfl rfl (Nat.le_of_ble_eq_true rfl) ⟨by decide, by decide⟩ ⟨by decide, by decide⟩ dX8_queue_42 ?_
      have hk9 : kQueue M n ix = 0 := by simp only [kQueue]; repeat (first | rw [if_pos (by first | assumption | omega)] | rw [if_neg (by first | assumption | omega)])
      exact z_iretx hC hret hlk rfl hk9 (by rfl) (by rfl) dX8_queue_45
    · skip
      have hk9 : kQueue M n ix = 3 := by simp only [kQueue]; repeat (first | rw [if_pos (by first | assumption | omega)] | rw [if_neg (by first | assumption | omega)])
      exact z_throw hC rfl hl hX het hlk (k := kQueue M n ix) (text := "no such platform or place in its queue") (by decide) (zin 45 (by decide +kernel) rfl) (zin 31 (by decide +kernel) rfl) zTh_71 dX8_queue_26 dX8_queue_29 dX8_queue_30 dX8_queue_32 dX8_queue_35 (by decide) (by rw [hk9]; decide) (by rw [hk9]; rfl) (by rfl)
set_option maxHeartbeats 4000000 in
set_option maxRecDepth 100000 in
theorem k_X8_pass (l : Launch) (hl : l.stackTraces = false) (D : va_G) (tc : Nat → ClassId) (ad : Nat → Nat → Nat) (hI : zI ad okC) (M : zM) {T U : Int} (n : Int) (hW : WTC T U M) (hn : -2147483648 ≤ n ∧ n < 2147483648) (hT : T + 100 ≤ 1000000) (hU : U + 4800 ≤ 100000000) : zMx l yX8_pass cX8_pass 2 (some .int) 6 D (tysC tc) ad okC (tmC ad tc) [.ref (ad 0 0), iv n] M (kPass n) (ridersC (passN M 0 n.toNat) 0 2 - ridersC M 0 2) (passN M 0 n.toNat) := by
  refine z_metx hI (by decide) (Nat.le_of_ble_eq_true rfl) ?_
  intro p e s m args below meth c hC hret hlk hX het
  refine z_conv (L2 := [(0, .ref (ad 0 0)), (1, iv n)]) ?_ rfl rfl rfl
  refine z_iload_n hC 1 rfl dX8_pass_0 rfl ?_
  refine z_iconst hC dX8_pass_1 ?_
  refine z_bipush hC dX8_pass_2 (by decide) ?_
  refine z_callSi hC zlX8_35 (k_X8_within l D tc ad hI M n 1 100 (by omega) (by omega) (by omega)) rfl rfl (Nat.le_of_ble_eq_true rfl) ⟨by decide, by decide⟩ ⟨by decide, by decide⟩ dX8_pass_4 ?_
  refine z_if_ne_b hC 20 dX8_pass_7 (by decide) (fun c7 => ?_) (fun c7 => ?_)
  · skip
    refine z_aload_n hC 0 rfl dX8_pass_20 rfl ?_
    refine z_getR hC zfX8_21 (tmC_0 ad tc _) (okC_0 (by omega)) rfl dX8_pass_21 ?_
    refine z_iload_n hC 1 rfl dX8_pass_24 rfl ?_
    refine z_callVi hC zlX8_179 (k_X5_goOn l D tc ad hI M 0 n (by omega) hW (by omega) (by omega) (by omega)) (tmC_12 ad tc _) rfl (okC_12 (by omega)) rfl rfl (Nat.le_of_ble_eq_true rfl) ⟨by decide, by decide⟩ ⟨by decide, by decide⟩ dX8_pass_25 ?_
    have hk9 : kPass n = 0 := by simp only [kPass]; repeat (first | rw [if_pos (by first | assumption | omega)] | rw [if_neg (by first | assumption | omega)])
    exact z_iretx hC hret hlk rfl hk9 (by rfl) (by rfl) dX8_pass_28
  · skip
    have hk9 : kPass n = 1 := by simp only [kPass]; repeat (first | rw [if_pos (by first | assumption | omega)] | rw [if_neg (by first | assumption | omega)])
    exact z_throw hC rfl hl hX het hlk (k := kPass n) (text := "the minutes are 1 to 100") (by decide) (zin 144 (by decide +kernel) rfl) (zin 29 (by decide +kernel) rfl) zTh_43 dX8_pass_10 dX8_pass_13 dX8_pass_14 dX8_pass_16 dX8_pass_19 (by decide) (by rw [hk9]; decide) (by rw [hk9]; rfl) (by rfl)
set_option maxHeartbeats 4000000 in
set_option maxRecDepth 100000 in
theorem k_X8_count (l : Launch) (hl : l.stackTraces = false) (D : va_G) (tc : Nat → ClassId) (ad : Nat → Nat → Nat) (hI : zI ad okC) (M : zM) {T U : Int} (w : Int) (hW : WTC T U M) (hw : -2147483648 ≤ w ∧ w < 2147483648) : zMx l yX8_count cX8_count 2 (some .int) 6 D (tysC tc) ad okC (tmC ad tc) [.ref (ad 0 0), iv w] M (kCount w) (countFactC M w) M := by
  refine z_metx hI (by decide) (Nat.le_of_ble_eq_true rfl) ?_
  intro p e s m args below meth c hC hret hlk hX het
  refine z_conv (L2 := [(0, .ref (ad 0 0)), (1, iv w)]) ?_ rfl rfl rfl
  refine z_iload_n hC 1 rfl dX8_count_0 rfl ?_
  refine z_iconst hC dX8_count_1 ?_
  refine z_bipush hC dX8_count_2 (by decide) ?_
  refine z_callSi hC zlX8_35 (k_X8_within l D tc ad hI M w 0 9 (by omega) (by omega) (by omega)) rfl rfl (Nat.le_of_ble_eq_true rfl) ⟨by decide, by decide⟩ ⟨by decide, by decide⟩ dX8_count_4 ?_
  refine z_if_ne_b hC 20 dX8_count_7 (by decide) (fun c7 => ?_) (fun c7 => ?_)
  · skip
    refine z_aload_n hC 0 rfl dX8_count_20 rfl ?_
    refine z_iload_n hC 1 rfl dX8_count_21 rfl ?_
    refine z_callVi hC zlX8_184 (k_X8_countFact l D tc ad hI M w hW (by omega)) (tmC_0 ad tc _) rfl (okC_0 (by omega)) rfl rfl (Nat.le_of_ble_eq_true rfl) ⟨by decide, by decide⟩ ⟨by decide, by decide⟩ dX8_count_22 ?_
    have hk9 : kCount w = 0 := by simp only [kCount]; repeat (first | rw [if_pos (by first | assumption | omega)] | rw [if_neg (by first | assumption | omega)])
    exact z_iretx hC hret hlk rfl hk9 (by rfl) (by rfl) dX8_count_25
  · skip
    have hk9 : kCount w = 3 := by simp only [kCount]; repeat (first | rw [if_pos (by first | assumption | omega)] | rw [if_neg (by first | assumption | omega)])
    exact z_throw hC rfl hl hX het hlk (k := kCount w) (text := "what is not 0 to 9") (by decide) (zin 45 (by decide +kernel) rfl) (zin 31 (by decide +kernel) rfl) zTh_71 dX8_count_10 dX8_count_13 dX8_count_14 dX8_count_16 dX8_count_19 (by decide) (by rw [hk9]; decide) (by rw [hk9]; rfl) (by rfl)
set_option maxHeartbeats 4000000 in
set_option maxRecDepth 100000 in
theorem k_X8_way (l : Launch) (hl : l.stackTraces = false) (D : va_G) (tc : Nat → ClassId) (ad : Nat → Nat → Nat) (hI : zI ad okC) (M : zM) {T U : Int} (a b w : Int) (hW : WTC T U M) (ha : -2147483648 ≤ a ∧ a < 2147483648) (hb : -2147483648 ≤ b ∧ b < 2147483648) (hw : -2147483648 ≤ w ∧ w < 2147483648) : zMx l yX8_way cX8_way 4 (some .int) 6 D (tysC tc) ad okC (tmC ad tc) [.ref (ad 0 0), iv a, iv b, iv w] M (kWay M a b w) (linesFromC (planC M 12 b w) 12 a) (planC M 12 b w) := by
  have hpc : 0 ≤ M 1 0 4 ∧ M 1 0 4 ≤ 8 := hW.1 1 0 4
  refine z_metx hI (by decide) (Nat.le_of_ble_eq_true rfl) ?_
  intro p e s m args below meth c hC hret hlk hX het
  refine z_conv (L2 := [(0, .ref (ad 0 0)), (1, iv a), (2, iv b), (3, iv w)]) ?_ rfl rfl rfl
  refine z_aload_n hC 0 rfl dX8_way_0 rfl ?_
  refine z_iload_n hC 1 rfl dX8_way_1 rfl ?_
  refine z_callVi hC zlX8_63 (k_X8_isPlatform l D tc ad hI M a hW (by omega)) (tmC_0 ad tc _) rfl (okC_0 (by omega)) rfl rfl (Nat.le_of_ble_eq_true rfl) ⟨by decide, by decide⟩ ⟨by decide, by decide⟩ dX8_way_2 ?_
  refine z_if_eq_b hC 16 dX8_way_5 (by decide) (fun c5 => ?_) (fun c5 => ?_)
  · skip
    have hk9 : kWay M a b w = 3 := by simp only [kWay]; repeat (first | rw [if_pos (by first | assumption | omega)] | rw [if_neg (by first | assumption | omega)])
    exact z_throw hC rfl hl hX het hlk (k := kWay M a b w) (text := "no such platform") (by decide) (zin 45 (by decide +kernel) rfl) (zin 31 (by decide +kernel) rfl) zTh_71 dX8_way_16 dX8_way_19 dX8_way_20 dX8_way_22 dX8_way_25 (by decide) (by rw [hk9]; decide) (by rw [hk9]; rfl) (by rfl)
  · skip
    refine z_aload_n hC 0 rfl dX8_way_8 rfl ?_
    refine z_iload_n hC 2 rfl dX8_way_9 rfl ?_
    refine z_callVi hC zlX8_63 (k_X8_isPlatform l D tc ad hI M b hW (by omega)) (tmC_0 ad tc _) rfl (okC_0 (by omega)) rfl rfl (Nat.le_of_ble_eq_true rfl) ⟨by decide, by decide⟩ ⟨by decide, by decide⟩ dX8_way_10 ?_
    refine z_if_ne_b hC 26 dX8_way_13 (by decide) (fun c13 => ?_) (fun c13 => ?_)
    · skip
      refine z_iload_n hC 3 rfl dX8_way_26 rfl ?_
      refine z_callSi hC zlX8_125 (k_X8_isWeight l D tc ad hI M w (by omega)) rfl rfl (Nat.le_of_ble_eq_true rfl) ⟨by decide, by decide⟩ ⟨by decide, by decide⟩ dX8_way_27 ?_
      refine z_if_ne_b hC 43 dX8_way_30 (by decide) (fun c30 => ?_) (fun c30 => ?_)
      · skip
        refine z_aload_n hC 0 rfl dX8_way_43 rfl ?_
        refine z_getR hC zfX8_31 (tmC_0 ad tc _) (okC_0 (by omega)) rfl dX8_way_44 ?_
        refine z_aload_n hC 0 rfl dX8_way_47 rfl ?_
        refine z_getR hC zfX8_10 (tmC_0 ad tc _) (okC_0 (by omega)) rfl dX8_way_48 ?_
        refine z_iload_n hC 2 rfl dX8_way_51 rfl ?_
        refine z_iload_n hC 3 rfl dX8_way_52 rfl ?_
        refine z_callVv hC zlX8_187 (k_X4_plan l D tc ad hI M 12 b w (by omega) hW (by omega) (by omega)) (tmC_9 ad tc _) rfl (okC_9 (by omega)) rfl rfl (Nat.le_of_ble_eq_true rfl) ⟨by decide, by decide⟩ ⟨by decide, by decide⟩ dX8_way_53 ?_
        refine z_aload_n hC 0 rfl dX8_way_56 rfl ?_
        refine z_getR hC zfX8_31 (tmC_0 ad tc _) (okC_0 (by omega)) rfl dX8_way_57 ?_
        refine z_iload_n hC 1 rfl dX8_way_60 rfl ?_
        refine z_callVi hC zlX8_191 (k_X4_linesFrom l D tc ad hI (planC M 12 b w) 12 a (by omega) (by omega)) (tmC_9 ad tc _) rfl (okC_9 (by omega)) rfl rfl (Nat.le_of_ble_eq_true rfl) ⟨by decide, by decide⟩ ⟨by decide, by decide⟩ dX8_way_61 ?_
        have hk9 : kWay M a b w = 0 := by simp only [kWay]; repeat (first | rw [if_pos (by first | assumption | omega)] | rw [if_neg (by first | assumption | omega)])
        exact z_iretx hC hret hlk rfl hk9 (by rfl) (by rfl) dX8_way_64
      · skip
        have hk9 : kWay M a b w = 1 := by simp only [kWay]; repeat (first | rw [if_pos (by first | assumption | omega)] | rw [if_neg (by first | assumption | omega)])
        exact z_throw hC rfl hl hX het hlk (k := kWay M a b w) (text := "the weight is 20 to 120") (by decide) (zin 144 (by decide +kernel) rfl) (zin 29 (by decide +kernel) rfl) zTh_43 dX8_way_33 dX8_way_36 dX8_way_37 dX8_way_39 dX8_way_42 (by decide) (by rw [hk9]; decide) (by rw [hk9]; rfl) (by rfl)
    · skip
      have hk9 : kWay M a b w = 3 := by simp only [kWay]; repeat (first | rw [if_pos (by first | assumption | omega)] | rw [if_neg (by first | assumption | omega)])
      exact z_throw hC rfl hl hX het hlk (k := kWay M a b w) (text := "no such platform") (by decide) (zin 45 (by decide +kernel) rfl) (zin 31 (by decide +kernel) rfl) zTh_71 dX8_way_16 dX8_way_19 dX8_way_20 dX8_way_22 dX8_way_25 (by decide) (by rw [hk9]; decide) (by rw [hk9]; rfl) (by rfl)
set_option maxHeartbeats 4000000 in
set_option maxRecDepth 100000 in
theorem k_X8_arrives (l : Launch) (hl : l.stackTraces = false) (D : va_G) (tc : Nat → ClassId) (ad : Nat → Nat → Nat) (hI : zI ad okC) (M : zM) {T U : Int} (n : Int) (hW : WTC T U M) (hn : -2147483648 ≤ n ∧ n < 2147483648) (hT : T + 200 ≤ 1000000) (hU : U + 9600 ≤ 100000000) : zMx l yX8_arrives cX8_arrives 4 (some .int) 6 D (tysC tc) ad okC (tmC ad tc) [.ref (ad 0 0), iv n] M (kArr M n) (arrN M n.toNat 200 16 (12 * 1 + n.toNat) 5) (arrN M n.toNat 200) := by
  have hrc : 0 ≤ M 1 0 6 ∧ M 1 0 6 ≤ 12 := hW.1 1 0 6
  have hh := hW.2.2
  refine z_metx hI (by decide) (Nat.le_of_ble_eq_true rfl) ?_
  intro p e s m args below meth c hC hret hlk hX het
  refine z_conv (L2 := [(0, .ref (ad 0 0)), (1, iv n)]) ?_ rfl rfl rfl
  have hc41 : ∀ (d41 : Nat) (j : Nat) (hj : j ≤ 200) (hn9 : 0 ≤ n ∧ n ≤ M 1 0 6 - 1), 200 - j = d41 → zV p l e (zrm 6 1 6) s m args below meth c (vx_MQ below (zQx D ad okC (tmC ad tc) (kArr M n) (arrN M n.toNat 200 16 (12 * 1 + n.toNat) 5) (arrN M n.toNat 200) (zA ad okC s.heap.size)) (zXx D ad okC (tmC ad tc) (kArr M n) M (zA ad okC s.heap.size)) args s 1 6 (zA ad okC s.heap.size)) D ad okC (tmC ad tc) (zA ad okC s.heap.size) s.heap 4 0 0 (arrN M n.toNat j) [(0, .ref (ad 0 0)), (2, .ref (ad 16 (12 * 1 + n.toNat))), (3, iv ((j : Nat) : Int))] 41 [] := by
    intro d41
    induction d41 using Nat.strongRecOn with
    | _ d41 ih41 =>
      intro j hj hn9 hd41
      have hWj := arrN_wt (r := n.toNat) hW j (by omega) (by omega)
      obtain ⟨Mj, hMj⟩ : ∃ x, x = arrN M n.toNat j := ⟨_, rfl⟩
      rw [← hMj]
      rw [← hMj] at hWj
      have hh2 := hWj.2.2
      refine z_iload_n hC 2 rfl dX8_arrives_41 rfl ?_
      refine z_sipush hC dX8_arrives_42 (by decide) ?_
      refine z_icmp_ge hC 68 dX8_arrives_45 (by decide) (by omega) (by omega) (fun c45 => ?_) (fun c45 => ?_)
      · skip
        have he : j = 200 := by omega
        subst he
        refine z_aload_n hC 1 rfl dX8_arrives_68 rfl ?_
        refine z_getI hC zfX8_213 (tmC_16 ad tc _) (okC_16 (by omega)) rfl (x := Mj 16 (12 * 1 + n.toNat) 5) (rfl) dX8_arrives_69 ?_
        have hk9 : kArr M n = 0 := by simp only [kArr]; repeat (first | rw [if_pos (by first | assumption | omega)] | rw [if_neg (by first | assumption | omega)])
        exact z_iretx hC hret hlk rfl hk9 (by first | (rw [hMj]; done) | rw [hst]) (by first | exact hMj | exact hst.symm) dX8_arrives_72
      · skip
        refine z_aload_n hC 1 rfl dX8_arrives_48 rfl ?_
        refine z_callVi hC zlX8_204 (k_X6_isUnderWay l D tc ad hI Mj (12 * 1 + n.toNat) (by omega) (by have z0 : 0 ≤ Mj 16 (12 * 1 + n.toNat) 0 ∧ Mj 16 (12 * 1 + n.toNat) 0 ≤ 3 := hWj.1 16 (12 * 1 + n.toNat) 0; have z1 : 0 ≤ Mj 16 (12 * 1 + n.toNat) 0 ∧ Mj 16 (12 * 1 + n.toNat) 0 ≤ 3 := hWj.1 16 (12 * 1 + n.toNat) 0; omega)) (tmC_16 ad tc _) rfl (okC_16 (by omega)) rfl rfl (Nat.le_of_ble_eq_true rfl) ⟨by decide, by decide⟩ ⟨by decide, by decide⟩ dX8_arrives_49 ?_
        refine z_if_eq_b hC 68 dX8_arrives_52 (by decide) (fun c52 => ?_) (fun c52 => ?_)
        · skip
          have hst := arrN_stop (by rw [← hMj]; assumption) (200 - j)
          rw [show j + (200 - j) = 200 by omega, ← hMj] at hst
          refine z_aload_n hC 1 rfl dX8_arrives_68 rfl ?_
          refine z_getI hC zfX8_213 (tmC_16 ad tc _) (okC_16 (by omega)) rfl (x := Mj 16 (12 * 1 + n.toNat) 5) (rfl) dX8_arrives_69 ?_
          have hk9 : kArr M n = 0 := by simp only [kArr]; repeat (first | rw [if_pos (by first | assumption | omega)] | rw [if_neg (by first | assumption | omega)])
          exact z_iretx hC hret hlk rfl hk9 (by first | (rw [hMj]; done) | rw [hst]) (by first | exact hMj | exact hst.symm) dX8_arrives_72
        · skip
          refine z_aload_n hC 0 rfl dX8_arrives_55 rfl ?_
          refine z_getR hC zfX8_25 (tmC_0 ad tc _) (okC_0 (by omega)) rfl dX8_arrives_56 ?_
          refine z_callVv hC zlX8_210 (k_X5_passMinute l D tc ad hI Mj 1 (by omega) hWj (by omega)) (tmC_12 ad tc _) rfl (okC_12 (by omega)) rfl rfl (Nat.le_of_ble_eq_true rfl) ⟨by decide, by decide⟩ ⟨by decide, by decide⟩ dX8_arrives_59 ?_
          refine z_iinc hC 2 (L' := [(3, iv (((j : Nat) : Int) + 1)), (0, .ref (ad 0 0)), (2, .ref (ad 16 (12 * 1 + n.toNat)))]) dX8_arrives_62 rfl (by decide) rfl ?_
          refine z_goto hC 41 dX8_arrives_65 (by decide) ?_
          refine z_perm [1, 2, 0] (L' := [(0, .ref (ad 0 0)), (2, .ref (ad 16 (12 * 1 + n.toNat))), (3, iv (((j : Nat) : Int) + 1))]) rfl ?_
          exact z_conv (ih41 _ (by omega) (j + 1) (by omega) hn9 rfl) (by rw [hMj, arrN_s (by rw [← hMj]; assumption)]) (by rfl) (by rfl)
  refine z_aload_n hC 0 rfl dX8_arrives_0 rfl ?_
  refine z_iload_n hC 1 rfl dX8_arrives_1 rfl ?_
  refine z_callVi hC zlX8_161 (k_X8_isRider l D tc ad hI M n hW (by omega)) (tmC_0 ad tc _) rfl (okC_0 (by omega)) rfl rfl (Nat.le_of_ble_eq_true rfl) ⟨by decide, by decide⟩ ⟨by decide, by decide⟩ dX8_arrives_2 ?_
  refine z_if_ne_b hC 18 dX8_arrives_5 (by decide) (fun c5 => ?_) (fun c5 => ?_)
  · skip
    refine z_aload_n hC 0 rfl dX8_arrives_18 rfl ?_
    refine z_getR hC zfX8_25 (tmC_0 ad tc _) (okC_0 (by omega)) rfl dX8_arrives_19 ?_
    refine z_aload_n hC 0 rfl dX8_arrives_22 rfl ?_
    refine z_getR hC zfX8_21 (tmC_0 ad tc _) (okC_0 (by omega)) rfl dX8_arrives_23 ?_
    refine z_callVv hC zlX8_196 (k_X5_copyFrom l D tc ad hI M 1 0 (by omega) (by omega) hW) (tmC_12 ad tc _) rfl (okC_12 (by omega)) rfl rfl (Nat.le_of_ble_eq_true rfl) ⟨by decide, by decide⟩ ⟨by decide, by decide⟩ dX8_arrives_26 ?_
    refine z_aload_n hC 0 rfl dX8_arrives_29 rfl ?_
    refine z_getR hC zfX8_25 (tmC_0 ad tc _) (okC_0 (by omega)) rfl dX8_arrives_30 ?_
    refine z_getR hC zfX8_200 (tmC_12 ad tc _) (okC_12 (by omega)) rfl dX8_arrives_33 ?_
    refine z_iload_n hC 1 rfl dX8_arrives_36 rfl ?_
    refine z_aaload hC 4 ((n).toNat) (ad 16 (12 * 1 + ((n).toNat))) (tmC_13 ad tc _) (tysC_4 tc) (okC_13 (by omega)) (by omega) (by omega) (by decide) rfl dX8_arrives_37 ?_
    refine z_astore_n hC (L' := [(2, .ref (ad 16 (12 * 1 + ((n).toNat)))), (0, .ref (ad 0 0)), (1, iv n)]) dX8_arrives_38 rfl (by decide) rfl ?_
    refine z_iconst hC dX8_arrives_39 ?_
    refine z_istore_n hC (L' := [(3, iv 0), (2, .ref (ad 16 (12 * 1 + ((n).toNat)))), (0, .ref (ad 0 0)), (1, iv n)]) dX8_arrives_40 rfl (by decide) rfl ?_
    refine z_perm [2, 1, 0] (L' := [(0, .ref (ad 0 0)), (2, .ref (ad 16 (12 * 1 + ((n).toNat)))), (3, iv 0)]) rfl ?_
    exact z_conv (hc41 _ 0 (by omega) (by assumption) rfl) (by rfl) (by rfl) (by rfl)
  · skip
    have hk9 : kArr M n = 3 := by simp only [kArr]; repeat (first | rw [if_pos (by first | assumption | omega)] | rw [if_neg (by first | assumption | omega)])
    exact z_throw hC rfl hl hX het hlk (k := kArr M n) (text := "no such rider") (by decide) (zin 45 (by decide +kernel) rfl) (zin 31 (by decide +kernel) rfl) zTh_71 dX8_arrives_8 dX8_arrives_11 dX8_arrives_12 dX8_arrives_14 dX8_arrives_17 (by decide) (by rw [hk9]; decide) (by rw [hk9]; rfl) (by rfl)
set_option maxHeartbeats 4000000 in
set_option maxRecDepth 100000 in
theorem k_X8_advise (l : Launch) (hl : l.stackTraces = false) (D : va_G) (tc : Nat → ClassId) (ad : Nat → Nat → Nat) (hI : zI ad okC) (M : zM) {T U : Int} (n : Int) (hW : WTC T U M) (hn : -2147483648 ≤ n ∧ n < 2147483648) (hT : T + 400 ≤ 1000000) (hU : U + 20000 ≤ 100000000) : zMx l yX8_advise cX8_advise 6 (some .int) 7 D (tysC tc) ad okC (tmC ad tc) [.ref (ad 0 0), iv n] M (kAdv n) ((advN M n (M 1 0 5).toNat).2.2) ((advN M n (M 1 0 5).toNat).1) := by
  have hlc : 0 ≤ M 1 0 5 ∧ M 1 0 5 ≤ 12 := hW.1 1 0 5
  have hh := hW.2.2
  refine z_metx hI (by decide) (Nat.le_of_ble_eq_true rfl) ?_
  intro p e s m args below meth c hC hret hlk hX het
  refine z_conv (L2 := [(0, .ref (ad 0 0)), (1, iv n)]) ?_ rfl rfl rfl
  have hc45 : ∀ (d45 : Nat) (j : Nat) (hj : j ≤ (M 1 0 5).toNat) (hn9 : 1 ≤ n ∧ n ≤ 30), (M 1 0 5).toNat - j = d45 → zV p l e (zrm 7 1 6) s m args below meth c (vx_MQ below (zQx D ad okC (tmC ad tc) (kAdv n) ((advN M n (M 1 0 5).toNat).2.2) ((advN M n (M 1 0 5).toNat).1) (zA ad okC s.heap.size)) (zXx D ad okC (tmC ad tc) (kAdv n) M (zA ad okC s.heap.size)) args s 1 6 (zA ad okC s.heap.size)) D ad okC (tmC ad tc) (zA ad okC s.heap.size) s.heap 6 0 0 ((advN M n j).1) [(0, .ref (ad 0 0)), (1, iv n), (2, iv ((advN M n j).2.1)), (3, iv ((advN M n j).2.2)), (4, iv ((j : Nat) : Int))] 45 [] := by
    intro d45
    induction d45 using Nat.strongRecOn with
    | _ d45 ih45 =>
      intro j hj hn9 hd45
      obtain ⟨hWj, h15, hb1, hb2⟩ := adv_inv hW hn9 (by omega) (by omega) j hj
      obtain ⟨Mj, hMj⟩ : ∃ x, x = (advN M n j).1 := ⟨_, rfl⟩
      rw [← hMj]
      rw [← hMj] at hWj h15
      have hh2 := hWj.2.2
      refine z_iload hC 4 rfl dX8_advise_45 ?_
      refine z_aload_n hC 0 rfl dX8_advise_47 rfl ?_
      refine z_getR hC zfX8_10 (tmC_0 ad tc _) (okC_0 (by omega)) rfl dX8_advise_48 ?_
      have hq1 : 0 ≤ Mj 1 0 5 ∧ Mj 1 0 5 ≤ 12 := hWj.1 1 0 5
      refine z_getI hC zfX8_77 (tmC_1 ad tc _) (okC_1 (by omega)) rfl (x := Mj 1 0 5) (rfl) dX8_advise_51 ?_
      refine z_icmp_ge hC 101 dX8_advise_54 (by decide) (by omega) (by omega) (fun c54 => ?_) (fun c54 => ?_)
      · skip
        have he : j = (M 1 0 5).toNat := by omega
        subst he
        refine z_iload_n hC 3 rfl dX8_advise_101 rfl ?_
        have hk9 : kAdv n = 0 := by simp only [kAdv]; repeat (first | rw [if_pos (by first | assumption | omega)] | rw [if_neg (by first | assumption | omega)])
        exact z_iretx hC hret hlk rfl hk9 (by rfl) (by exact hMj) dX8_advise_102
      · skip
        refine z_aload_n hC 0 rfl dX8_advise_57 rfl ?_
        refine z_getR hC zfX8_21 (tmC_0 ad tc _) (okC_0 (by omega)) rfl dX8_advise_58 ?_
        refine z_getR hC zfX8_94 (tmC_12 ad tc _) (okC_12 (by omega)) rfl dX8_advise_61 ?_
        refine z_iload hC 4 rfl dX8_advise_64 ?_
        refine z_aaload hC 5 (j) (ad 17 (12 * 0 + j)) (tmC_14 ad tc _) (tysC_5 tc) (okC_14 (by omega)) (rfl) (by omega) (by decide) rfl dX8_advise_66 ?_
        refine z_callVi hC zlX8_98 (k_X7_inAll l D tc ad hI Mj (12 * 0 + j) (by omega)) (tmC_17 ad tc _) rfl (okC_17 (by omega)) rfl rfl (Nat.le_of_ble_eq_true rfl) ⟨by decide, by decide⟩ ⟨by decide, by decide⟩ dX8_advise_67 ?_
        have hz0 : 0 ≤ Mj 17 (12 * 0 + j) 0 ∧ Mj 17 (12 * 0 + j) 0 ≤ 3 := hWj.1 17 (12 * 0 + j) 0
        have hz1 : 0 ≤ Mj 17 (12 * 0 + j) 1 ∧ Mj 17 (12 * 0 + j) 1 ≤ 3 := hWj.1 17 (12 * 0 + j) 1
        refine z_iconst hC dX8_advise_70 ?_
        refine z_icmp_ge hC 95 dX8_advise_71 (by decide) (by omega) (by omega) (fun c71 => ?_) (fun c71 => ?_)
        · skip
          refine z_iinc hC 4 (L' := [(4, iv (((j : Nat) : Int) + 1)), (0, .ref (ad 0 0)), (1, iv n), (2, iv ((advN M n j).2.1)), (3, iv ((advN M n j).2.2))]) dX8_advise_95 rfl (by decide) rfl ?_
          refine z_goto hC 45 dX8_advise_98 (by decide) ?_
          refine z_perm [1, 2, 3, 4, 0] (L' := [(0, .ref (ad 0 0)), (1, iv n), (2, iv ((advN M n j).2.1)), (3, iv ((advN M n j).2.2)), (4, iv (((j : Nat) : Int) + 1))]) rfl ?_
          exact z_conv (ih45 _ (by omega) (j + 1) (by omega) hn9 rfl) (by rw [show advN M n (j + 1) = advS n j (advN M n j) from rfl]; simp only [advS, ← hMj]; repeat (first | rw [if_pos (by first | assumption | omega)] | rw [if_neg (by first | assumption | omega)]); try exact hMj) (by rw [show advN M n (j + 1) = advS n j (advN M n j) from rfl]; simp only [advS, ← hMj]; repeat (first | rw [if_pos (by first | assumption | omega)] | rw [if_neg (by first | assumption | omega)]); try rfl) (by rfl)
        · skip
          refine z_aload_n hC 0 rfl dX8_advise_74 rfl ?_
          refine z_iload hC 4 rfl dX8_advise_75 ?_
          refine z_iload_n hC 1 rfl dX8_advise_77 rfl ?_
          refine z_callVi hC zlX8_218 (k_X8_arrivalsWithOneMore l D tc ad hI Mj ((j : Nat) : Int) n hWj (by have z0 : 0 ≤ Mj 1 0 5 ∧ Mj 1 0 5 ≤ 12 := hWj.1 1 0 5; omega) c71 (by omega) (by omega) (by omega)) (tmC_0 ad tc _) rfl (okC_0 (by omega)) rfl rfl (Nat.le_of_ble_eq_true rfl) ⟨by decide, by decide⟩ ⟨by decide, by decide⟩ dX8_advise_78 ?_
          have hob := oneMoreR_bd hWj (n := (j : Int)) (mi := n) ⟨by omega, by omega⟩ c71 hn9 (by omega) (by omega)
          refine z_istore hC (L' := [(5, iv (oneMoreR Mj ((j : Nat) : Int) n)), (0, .ref (ad 0 0)), (1, iv n), (2, iv ((advN M n j).2.1)), (3, iv ((advN M n j).2.2)), (4, iv ((j : Nat) : Int))]) dX8_advise_81 (by decide) rfl ?_
          refine z_iload hC 0 rfl dX8_advise_83 ?_
          refine z_iload_n hC 3 rfl dX8_advise_85 rfl ?_
          refine z_icmp_le hC 95 dX8_advise_86 (by decide) (by omega) (by omega) (fun c86 => ?_) (fun c86 => ?_)
          · skip
            refine z_iinc hC 5 (L' := [(4, iv (((j : Nat) : Int) + 1)), (5, iv (oneMoreR Mj ((j : Nat) : Int) n)), (0, .ref (ad 0 0)), (1, iv n), (2, iv ((advN M n j).2.1)), (3, iv ((advN M n j).2.2))]) dX8_advise_95 rfl (by decide) rfl ?_
            refine z_goto hC 45 dX8_advise_98 (by decide) ?_
            refine z_perm [2, 3, 4, 5, 0] (L' := [(0, .ref (ad 0 0)), (1, iv n), (2, iv ((advN M n j).2.1)), (3, iv ((advN M n j).2.2)), (4, iv (((j : Nat) : Int) + 1))]) rfl ?_
            exact z_conv (ih45 _ (by omega) (j + 1) (by omega) hn9 rfl) (by rw [show advN M n (j + 1) = advS n j (advN M n j) from rfl]; simp only [advS, ← hMj]; repeat (first | rw [if_pos (by first | assumption | omega)] | rw [if_neg (by first | assumption | omega)]); try exact hMj) (by rw [show advN M n (j + 1) = advS n j (advN M n j) from rfl]; simp only [advS, ← hMj]; repeat (first | rw [if_pos (by first | assumption | omega)] | rw [if_neg (by first | assumption | omega)]); try rfl) (by rfl)
          · skip
            refine z_iload hC 0 rfl dX8_advise_89 ?_
            refine z_istore_n hC (L' := [(2, iv (oneMoreR Mj ((j : Nat) : Int) n)), (5, iv (oneMoreR Mj ((j : Nat) : Int) n)), (0, .ref (ad 0 0)), (1, iv n), (3, iv ((advN M n j).2.2)), (4, iv ((j : Nat) : Int))]) dX8_advise_91 rfl (by decide) rfl ?_
            refine z_iload hC 5 rfl dX8_advise_92 ?_
            refine z_istore_n hC (L' := [(3, iv ((j : Nat) : Int)), (2, iv (oneMoreR Mj ((j : Nat) : Int) n)), (5, iv (oneMoreR Mj ((j : Nat) : Int) n)), (0, .ref (ad 0 0)), (1, iv n), (4, iv ((j : Nat) : Int))]) dX8_advise_94 rfl (by decide) rfl ?_
            refine z_iinc hC 5 (L' := [(4, iv (((j : Nat) : Int) + 1)), (3, iv ((j : Nat) : Int)), (2, iv (oneMoreR Mj ((j : Nat) : Int) n)), (5, iv (oneMoreR Mj ((j : Nat) : Int) n)), (0, .ref (ad 0 0)), (1, iv n)]) dX8_advise_95 rfl (by decide) rfl ?_
            refine z_goto hC 45 dX8_advise_98 (by decide) ?_
            refine z_perm [4, 5, 2, 1, 0] (L' := [(0, .ref (ad 0 0)), (1, iv n), (2, iv (oneMoreR Mj ((j : Nat) : Int) n)), (3, iv ((j : Nat) : Int)), (4, iv (((j : Nat) : Int) + 1))]) rfl ?_
            exact z_conv (ih45 _ (by omega) (j + 1) (by omega) hn9 rfl) (by rw [show advN M n (j + 1) = advS n j (advN M n j) from rfl]; simp only [advS, ← hMj]; repeat (first | rw [if_pos (by first | assumption | omega)] | rw [if_neg (by first | assumption | omega)]); try exact hMj) (by rw [show advN M n (j + 1) = advS n j (advN M n j) from rfl]; simp only [advS, ← hMj]; repeat (first | rw [if_pos (by first | assumption | omega)] | rw [if_neg (by first | assumption | omega)]); try rfl) (by rfl)
  refine z_iload_n hC 1 rfl dX8_advise_0 rfl ?_
  refine z_iconst hC dX8_advise_1 ?_
  refine z_bipush hC dX8_advise_2 (by decide) ?_
  refine z_callSi hC zlX8_35 (k_X8_within l D tc ad hI M n 1 30 (by omega) (by omega) (by omega)) rfl rfl (Nat.le_of_ble_eq_true rfl) ⟨by decide, by decide⟩ ⟨by decide, by decide⟩ dX8_advise_4 ?_
  refine z_if_ne_b hC 20 dX8_advise_7 (by decide) (fun c7 => ?_) (fun c7 => ?_)
  · skip
    refine z_aload_n hC 0 rfl dX8_advise_20 rfl ?_
    refine z_getR hC zfX8_25 (tmC_0 ad tc _) (okC_0 (by omega)) rfl dX8_advise_21 ?_
    refine z_aload_n hC 0 rfl dX8_advise_24 rfl ?_
    refine z_getR hC zfX8_21 (tmC_0 ad tc _) (okC_0 (by omega)) rfl dX8_advise_25 ?_
    refine z_callVv hC zlX8_196 (k_X5_copyFrom l D tc ad hI M 1 0 (by omega) (by omega) hW) (tmC_12 ad tc _) rfl (okC_12 (by omega)) rfl rfl (Nat.le_of_ble_eq_true rfl) ⟨by decide, by decide⟩ ⟨by decide, by decide⟩ dX8_advise_28 ?_
    refine z_aload_n hC 0 rfl dX8_advise_31 rfl ?_
    refine z_getR hC zfX8_25 (tmC_0 ad tc _) (okC_0 (by omega)) rfl dX8_advise_32 ?_
    refine z_iload_n hC 1 rfl dX8_advise_35 rfl ?_
    have hW1 : WTC T U (copyC M 1 0) := copyC_wt hW
    refine z_callVi hC zlX8_179 (k_X5_goOn l D tc ad hI (copyC M 1 0) 1 n (by omega) hW1 (by omega) (by omega) (by omega)) (tmC_12 ad tc _) rfl (okC_12 (by omega)) rfl rfl (Nat.le_of_ble_eq_true rfl) ⟨by decide, by decide⟩ ⟨by decide, by decide⟩ dX8_advise_36 ?_
    refine z_istore_n hC (L' := [(2, iv (ridersC (passN (copyC M 1 0) 1 n.toNat) 1 2 - ridersC (copyC M 1 0) 1 2)), (0, .ref (ad 0 0)), (1, iv n)]) dX8_advise_39 rfl (by decide) rfl ?_
    refine z_iconst hC dX8_advise_40 ?_
    refine z_istore_n hC (L' := [(3, iv (-1)), (2, iv (ridersC (passN (copyC M 1 0) 1 n.toNat) 1 2 - ridersC (copyC M 1 0) 1 2)), (0, .ref (ad 0 0)), (1, iv n)]) dX8_advise_41 rfl (by decide) rfl ?_
    refine z_iconst hC dX8_advise_42 ?_
    refine z_istore hC (L' := [(4, iv 0), (3, iv (-1)), (2, iv (ridersC (passN (copyC M 1 0) 1 n.toNat) 1 2 - ridersC (copyC M 1 0) 1 2)), (0, .ref (ad 0 0)), (1, iv n)]) dX8_advise_43 (by decide) rfl ?_
    refine z_perm [3, 4, 2, 1, 0] (L' := [(0, .ref (ad 0 0)), (1, iv n), (2, iv (ridersC (passN (copyC M 1 0) 1 n.toNat) 1 2 - ridersC (copyC M 1 0) 1 2)), (3, iv (-1)), (4, iv 0)]) rfl ?_
    exact z_conv (hc45 _ 0 (by omega) (by assumption) rfl) (by rfl) (by rfl) (by rfl)
  · skip
    have hk9 : kAdv n = 1 := by simp only [kAdv]; repeat (first | rw [if_pos (by first | assumption | omega)] | rw [if_neg (by first | assumption | omega)])
    exact z_throw hC rfl hl hX het hlk (k := kAdv n) (text := "the minutes are 1 to 30") (by decide) (zin 144 (by decide +kernel) rfl) (zin 29 (by decide +kernel) rfl) zTh_43 dX8_advise_10 dX8_advise_13 dX8_advise_14 dX8_advise_16 dX8_advise_19 (by decide) (by rw [hk9]; decide) (by rw [hk9]; rfl) (by rfl)
