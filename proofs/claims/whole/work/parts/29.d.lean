set_option maxHeartbeats 4000000 in
set_option maxRecDepth 100000 in
theorem k_X10_riderTold (l : Launch) (D : va_G) (tc : Nat → ClassId) (ad : Nat → Nat → Nat) (hI : zI ad okM) (M : zM) {T U : Int} (n w : Int) (hW : WTM T U M) (hn : 0 ≤ n ∧ n ≤ 11) (hw : 0 ≤ w ∧ w ≤ 10) (hat : M 20 0 n.toNat = 0 → M 21 0 n.toNat ≤ 7) : zMi l yX10_riderTold cX10_riderTold 4 (some .int) 63 D (tysM tc) ad okM (tmM ad tc) [.ref (ad 0 0), iv n, iv w] M (riderToldM M n w) M 0 0 := by
  have h3 : 0 ≤ M 3 0 (M 21 0 n.toNat).toNat ∧ M 3 0 (M 21 0 n.toNat).toNat ≤ 60 := hW.1 3 0 _
  have h10 : 0 ≤ M 10 0 n.toNat ∧ M 10 0 n.toNat ≤ 7 := hW.1 10 0 _
  have h8 : 0 ≤ M 8 0 n.toNat ∧ M 8 0 n.toNat ≤ 120 := hW.1 8 0 _
  have h21 : 0 ≤ M 21 0 n.toNat ∧ M 21 0 n.toNat ≤ 11 := hW.1 21 0 _
  have hfb := fewN_bd (M := M) (to := M 10 0 n.toNat) (w := M 8 0 n.toNat) (d := 61) (M 21 0 n.toNat)
  refine z_met hI (plainFor_of_name (by decide)) (Nat.le_of_ble_eq_true rfl) ?_
  intro p e s m args below meth c hC hret hlk
  refine z_conv (L2 := [(0, .ref (ad 0 0)), (1, iv n), (2, iv w)]) ?_ rfl rfl rfl
  refine z_iload_n hC 2 rfl dX10_riderTold_0 rfl ?_
  refine z_iconst hC dX10_riderTold_1 ?_
  refine z_icmp_ge hC 39 dX10_riderTold_2 (by decide) (by omega) (by omega) (fun c2 => ?_) (fun c2 => ?_)
  · skip
    refine z_aload_n hC 0 rfl dX10_riderTold_39 rfl ?_
    refine z_getR hC zfX10_45 (tmM_0 ad tc _) (okM_0 (by omega)) rfl dX10_riderTold_40 ?_
    refine z_getRN hC zfX10_98 (tmM_11 ad tc _) (okM_11 (by omega)) rfl dX10_riderTold_43 ?_
    refine z_iload_n hC 1 rfl dX10_riderTold_46 rfl ?_
    have hq1 : 0 ≤ M 20 0 ((n).toNat) ∧ M 20 0 ((n).toNat) ≤ 3 := hW.1 20 0 ((n).toNat)
    refine z_iaload hC 0 ((n).toNat) (tmM_20 ad tc _) (tysM_0 tc) (okM_20 (by omega)) (by omega) (by omega) (by decide) (x := M 20 0 ((n).toNat)) (rfl) dX10_riderTold_47 ?_
    refine z_if_ne hC 55 dX10_riderTold_48 (by decide) (by omega) (fun c48 => ?_) (fun c48 => ?_)
    · skip
      refine z_iconst hC dX10_riderTold_55 ?_
      refine z_istore_n hC (L' := [(3, iv 0), (0, .ref (ad 0 0)), (1, iv n), (2, iv w)]) dX10_riderTold_56 rfl (by decide) rfl ?_
      refine z_iload_n hC 3 rfl dX10_riderTold_57 rfl ?_
      rcases (show w = 3 ∨ w = 4 ∨ w = 5 ∨ w = 6 ∨ w = 7 ∨ w = 8 ∨ w = 9 ∨ w = 10 by omega) with rfl | rfl | rfl | rfl | rfl | rfl | rfl | rfl
      · skip
        refine z_tableIn hC 100 dX10_riderTold_58 (by decide) (by decide) (by decide) rfl (by decide) ?_
        refine z_aload_n hC 1 rfl dX10_riderTold_100 rfl ?_
        refine z_getR hC zfX10_45 (tmM_0 ad tc _) (okM_0 (by omega)) rfl dX10_riderTold_101 ?_
        refine z_getRN hC zfX10_98 (tmM_11 ad tc _) (okM_11 (by omega)) rfl dX10_riderTold_104 ?_
        refine z_iload_n hC 2 rfl dX10_riderTold_107 rfl ?_
        have hq2 : 0 ≤ M 20 0 ((n).toNat) ∧ M 20 0 ((n).toNat) ≤ 3 := hW.1 20 0 ((n).toNat)
        refine z_iaload hC 0 ((n).toNat) (tmM_20 ad tc _) (tysM_0 tc) (okM_20 (by omega)) (by omega) (by omega) (by decide) (x := M 20 0 ((n).toNat)) (rfl) dX10_riderTold_108 ?_
        exact z_iret hC hret hlk rfl (by rfl) (by rfl) dX10_riderTold_109
      · skip
        refine z_tableIn hC 110 dX10_riderTold_58 (by decide) (by decide) (by decide) rfl (by decide) ?_
        refine z_iload_n hC 0 rfl dX10_riderTold_110 rfl ?_
        refine z_if_ne hC 127 dX10_riderTold_111 (by decide) (by omega) (fun c111 => ?_) (fun c111 => ?_)
        · skip
          refine z_aload_n hC 1 rfl dX10_riderTold_127 rfl ?_
          refine z_getR hC zfX10_45 (tmM_0 ad tc _) (okM_0 (by omega)) rfl dX10_riderTold_128 ?_
          refine z_getRN hC zfX10_143 (tmM_11 ad tc _) (okM_11 (by omega)) rfl dX10_riderTold_131 ?_
          refine z_iload_n hC 2 rfl dX10_riderTold_134 rfl ?_
          have hq3 : 0 ≤ M 21 0 ((n).toNat) ∧ M 21 0 ((n).toNat) ≤ 11 := hW.1 21 0 ((n).toNat)
          refine z_iaload hC 0 ((n).toNat) (tmM_21 ad tc _) (tysM_0 tc) (okM_21 (by omega)) (by omega) (by omega) (by decide) (x := M 21 0 ((n).toNat)) (rfl) dX10_riderTold_135 ?_
          refine z_goto hC 140 dX10_riderTold_136 (by decide) ?_
          exact z_iret hC hret hlk rfl (by rw [riderToldM_4]; first | (exfalso; omega) | (rw [if_pos (by omega)]; done) | (rw [if_neg (by omega)]; done)) (by rfl) dX10_riderTold_140
        · skip
          refine z_aload_n hC 1 rfl dX10_riderTold_114 rfl ?_
          refine z_getR hC zfX10_45 (tmM_0 ad tc _) (okM_0 (by omega)) rfl dX10_riderTold_115 ?_
          refine z_getRN hC zfX10_98 (tmM_11 ad tc _) (okM_11 (by omega)) rfl dX10_riderTold_118 ?_
          refine z_iload_n hC 2 rfl dX10_riderTold_121 rfl ?_
          have hq4 : 0 ≤ M 20 0 ((n).toNat) ∧ M 20 0 ((n).toNat) ≤ 3 := hW.1 20 0 ((n).toNat)
          refine z_iaload hC 0 ((n).toNat) (tmM_20 ad tc _) (tysM_0 tc) (okM_20 (by omega)) (by omega) (by omega) (by decide) (x := M 20 0 ((n).toNat)) (rfl) dX10_riderTold_122 ?_
          refine z_iconst hC dX10_riderTold_123 ?_
          refine z_icmp_ne hC 139 dX10_riderTold_124 (by decide) (by omega) (by omega) (fun c124 => ?_) (fun c124 => ?_)
          · skip
            refine z_iconst hC dX10_riderTold_139 ?_
            exact z_iret hC hret hlk rfl (by rw [riderToldM_4]; first | (exfalso; omega) | (rw [if_pos (by omega)]; done) | (rw [if_neg (by omega)]; done)) (by rfl) dX10_riderTold_140
          · skip
            refine z_aload_n hC 1 rfl dX10_riderTold_127 rfl ?_
            refine z_getR hC zfX10_45 (tmM_0 ad tc _) (okM_0 (by omega)) rfl dX10_riderTold_128 ?_
            refine z_getRN hC zfX10_143 (tmM_11 ad tc _) (okM_11 (by omega)) rfl dX10_riderTold_131 ?_
            refine z_iload_n hC 2 rfl dX10_riderTold_134 rfl ?_
            have hq5 : 0 ≤ M 21 0 ((n).toNat) ∧ M 21 0 ((n).toNat) ≤ 11 := hW.1 21 0 ((n).toNat)
            refine z_iaload hC 0 ((n).toNat) (tmM_21 ad tc _) (tysM_0 tc) (okM_21 (by omega)) (by omega) (by omega) (by decide) (x := M 21 0 ((n).toNat)) (rfl) dX10_riderTold_135 ?_
            refine z_goto hC 140 dX10_riderTold_136 (by decide) ?_
            exact z_iret hC hret hlk rfl (by rw [riderToldM_4]; first | (exfalso; omega) | (rw [if_pos (by omega)]; done) | (rw [if_neg (by omega)]; done)) (by rfl) dX10_riderTold_140
      · skip
        refine z_tableIn hC 141 dX10_riderTold_58 (by decide) (by decide) (by decide) rfl (by decide) ?_
        refine z_aload_n hC 1 rfl dX10_riderTold_141 rfl ?_
        refine z_getR hC zfX10_45 (tmM_0 ad tc _) (okM_0 (by omega)) rfl dX10_riderTold_142 ?_
        refine z_getRN hC zfX10_98 (tmM_11 ad tc _) (okM_11 (by omega)) rfl dX10_riderTold_145 ?_
        refine z_iload_n hC 2 rfl dX10_riderTold_148 rfl ?_
        have hq6 : 0 ≤ M 20 0 ((n).toNat) ∧ M 20 0 ((n).toNat) ≤ 3 := hW.1 20 0 ((n).toNat)
        refine z_iaload hC 0 ((n).toNat) (tmM_20 ad tc _) (tysM_0 tc) (okM_20 (by omega)) (by omega) (by omega) (by decide) (x := M 20 0 ((n).toNat)) (rfl) dX10_riderTold_149 ?_
        refine z_iconst hC dX10_riderTold_150 ?_
        refine z_icmp_ne hC 166 dX10_riderTold_151 (by decide) (by omega) (by omega) (fun c151 => ?_) (fun c151 => ?_)
        · skip
          refine z_iconst hC dX10_riderTold_166 ?_
          exact z_iret hC hret hlk rfl (by rw [riderToldM_5]; first | (exfalso; omega) | (rw [if_pos (by omega)]; done) | (rw [if_neg (by omega)]; done)) (by rfl) dX10_riderTold_167
        · skip
          refine z_aload_n hC 1 rfl dX10_riderTold_154 rfl ?_
          refine z_getR hC zfX10_45 (tmM_0 ad tc _) (okM_0 (by omega)) rfl dX10_riderTold_155 ?_
          refine z_getRN hC zfX10_143 (tmM_11 ad tc _) (okM_11 (by omega)) rfl dX10_riderTold_158 ?_
          refine z_iload_n hC 2 rfl dX10_riderTold_161 rfl ?_
          have hq7 : 0 ≤ M 21 0 ((n).toNat) ∧ M 21 0 ((n).toNat) ≤ 11 := hW.1 21 0 ((n).toNat)
          refine z_iaload hC 0 ((n).toNat) (tmM_21 ad tc _) (tysM_0 tc) (okM_21 (by omega)) (by omega) (by omega) (by decide) (x := M 21 0 ((n).toNat)) (rfl) dX10_riderTold_162 ?_
          refine z_goto hC 167 dX10_riderTold_163 (by decide) ?_
          exact z_iret hC hret hlk rfl (by rw [riderToldM_5]; first | (exfalso; omega) | (rw [if_pos (by omega)]; done) | (rw [if_neg (by omega)]; done)) (by rfl) dX10_riderTold_167
      · skip
        refine z_tableIn hC 168 dX10_riderTold_58 (by decide) (by decide) (by decide) rfl (by decide) ?_
        refine z_iload_n hC 0 rfl dX10_riderTold_168 rfl ?_
        refine z_if_eq hC 184 dX10_riderTold_169 (by decide) (by omega) (fun c169 => ?_) (fun c169 => ?_)
        · skip
          refine z_aload_n hC 1 rfl dX10_riderTold_184 rfl ?_
          refine z_getR hC zfX10_45 (tmM_0 ad tc _) (okM_0 (by omega)) rfl dX10_riderTold_185 ?_
          refine z_getRN hC zfX10_98 (tmM_11 ad tc _) (okM_11 (by omega)) rfl dX10_riderTold_188 ?_
          refine z_iload_n hC 2 rfl dX10_riderTold_191 rfl ?_
          have hq8 : 0 ≤ M 20 0 ((n).toNat) ∧ M 20 0 ((n).toNat) ≤ 3 := hW.1 20 0 ((n).toNat)
          refine z_iaload hC 0 ((n).toNat) (tmM_20 ad tc _) (tysM_0 tc) (okM_20 (by omega)) (by omega) (by omega) (by decide) (x := M 20 0 ((n).toNat)) (rfl) dX10_riderTold_192 ?_
          refine z_iconst hC dX10_riderTold_193 ?_
          refine z_icmp_ne hC 208 dX10_riderTold_194 (by decide) (by omega) (by omega) (fun c194 => ?_) (fun c194 => ?_)
          · skip
            refine z_iconst hC dX10_riderTold_208 ?_
            exact z_iret hC hret hlk rfl (by rw [riderToldM_6]; first | (exfalso; omega) | (rw [if_pos (by omega)]; done) | (rw [if_neg (by omega), if_pos (by omega)]; done) | (rw [if_neg (by omega), if_neg (by omega)]; done)) (by rfl) dX10_riderTold_209
          · skip
            refine z_aload_n hC 1 rfl dX10_riderTold_197 rfl ?_
            refine z_getR hC zfX10_45 (tmM_0 ad tc _) (okM_0 (by omega)) rfl dX10_riderTold_198 ?_
            refine z_iload_n hC 2 rfl dX10_riderTold_201 rfl ?_
            refine z_callVi hC zlX10_149 (k_X9_leftOf l D tc ad hI M 0 n (by omega) hW ⟨by omega, by omega⟩) (tmM_11 ad tc _) rfl (okM_11 (by omega)) rfl rfl (Nat.le_of_ble_eq_true rfl) ⟨by decide, by decide⟩ ⟨by decide, by decide⟩ dX10_riderTold_202 ?_
            refine z_goto hC 209 dX10_riderTold_205 (by decide) ?_
            exact z_iret hC hret hlk rfl (by rw [riderToldM_6]; first | (exfalso; omega) | (rw [if_pos (by omega)]; done) | (rw [if_neg (by omega), if_pos (by omega)]; done) | (rw [if_neg (by omega), if_neg (by omega)]; done)) (by rfl) dX10_riderTold_209
        · skip
          refine z_aload_n hC 1 rfl dX10_riderTold_172 rfl ?_
          refine z_getR hC zfX10_45 (tmM_0 ad tc _) (okM_0 (by omega)) rfl dX10_riderTold_173 ?_
          refine z_getRN hC zfX10_146 (tmM_11 ad tc _) (okM_11 (by omega)) rfl dX10_riderTold_176 ?_
          refine z_iload_n hC 2 rfl dX10_riderTold_179 rfl ?_
          have hq9 : -(1000 + U) ≤ M 22 0 ((n).toNat) ∧ M 22 0 ((n).toNat) ≤ 1000 + U := hW.1 22 0 ((n).toNat)
          refine z_iaload hC 0 ((n).toNat) (tmM_22 ad tc _) (tysM_0 tc) (okM_22 (by omega)) (by omega) (by omega) (by decide) (x := M 22 0 ((n).toNat)) (rfl) dX10_riderTold_180 ?_
          refine z_goto hC 209 dX10_riderTold_181 (by decide) ?_
          exact z_iret hC hret hlk rfl (by rw [riderToldM_6]; first | (exfalso; omega) | (rw [if_pos (by omega)]; done) | (rw [if_neg (by omega), if_pos (by omega)]; done) | (rw [if_neg (by omega), if_neg (by omega)]; done)) (by rfl) dX10_riderTold_209
      · skip
        refine z_tableIn hC 210 dX10_riderTold_58 (by decide) (by decide) (by decide) rfl (by decide) ?_
        refine z_iload_n hC 0 rfl dX10_riderTold_210 rfl ?_
        refine z_if_eq hC 246 dX10_riderTold_211 (by decide) (by omega) (fun c211 => ?_) (fun c211 => ?_)
        · skip
          refine z_iconst hC dX10_riderTold_246 ?_
          exact z_iret hC hret hlk rfl (by rw [riderToldM_7]; first | (exfalso; omega) | exact (if_pos (by omega)).symm | exact (if_neg (by omega)).symm) (by rfl) dX10_riderTold_247
        · skip
          refine z_iconst hC dX10_riderTold_214 ?_
          refine z_aload_n hC 1 rfl dX10_riderTold_215 rfl ?_
          refine z_aload_n hC 1 rfl dX10_riderTold_216 rfl ?_
          refine z_getR hC zfX10_45 (tmM_0 ad tc _) (okM_0 (by omega)) rfl dX10_riderTold_217 ?_
          refine z_getRN hC zfX10_143 (tmM_11 ad tc _) (okM_11 (by omega)) rfl dX10_riderTold_220 ?_
          refine z_iload_n hC 2 rfl dX10_riderTold_223 rfl ?_
          have hq10 : 0 ≤ M 21 0 ((n).toNat) ∧ M 21 0 ((n).toNat) ≤ 11 := hW.1 21 0 ((n).toNat)
          refine z_iaload hC 0 ((n).toNat) (tmM_21 ad tc _) (tysM_0 tc) (okM_21 (by omega)) (by omega) (by omega) (by decide) (x := M 21 0 ((n).toNat)) (rfl) dX10_riderTold_224 ?_
          refine z_aload_n hC 1 rfl dX10_riderTold_225 rfl ?_
          refine z_getR hC zfX10_37 (tmM_0 ad tc _) (okM_0 (by omega)) rfl dX10_riderTold_226 ?_
          refine z_iload_n hC 2 rfl dX10_riderTold_229 rfl ?_
          have hq11 : 0 ≤ M 10 0 ((n).toNat) ∧ M 10 0 ((n).toNat) ≤ 7 := hW.1 10 0 ((n).toNat)
          refine z_iaload hC 0 ((n).toNat) (tmM_10 ad tc _) (tysM_0 tc) (okM_10 (by omega)) (by omega) (by omega) (by decide) (x := M 10 0 ((n).toNat)) (rfl) dX10_riderTold_230 ?_
          refine z_aload_n hC 1 rfl dX10_riderTold_231 rfl ?_
          refine z_getR hC zfX10_31 (tmM_0 ad tc _) (okM_0 (by omega)) rfl dX10_riderTold_232 ?_
          refine z_iload_n hC 2 rfl dX10_riderTold_235 rfl ?_
          have hq12 : 0 ≤ M 8 0 ((n).toNat) ∧ M 8 0 ((n).toNat) ≤ 120 := hW.1 8 0 ((n).toNat)
          refine z_iaload hC 0 ((n).toNat) (tmM_8 ad tc _) (tysM_0 tc) (okM_8 (by omega)) (by omega) (by omega) (by decide) (x := M 8 0 ((n).toNat)) (rfl) dX10_riderTold_236 ?_
          refine z_callVi hC zlX10_78 (k_X10_fewR l D tc ad hI M 61 (M 21 0 ((n).toNat)) (M 10 0 ((n).toNat)) (M 8 0 ((n).toNat)) hW ⟨by omega, by omega⟩ ⟨by omega, by omega⟩ (by omega) (by omega)) (tmM_0 ad tc _) rfl (okM_0 (by omega)) rfl rfl (Nat.le_of_ble_eq_true rfl) ⟨by decide, by decide⟩ ⟨by decide, by decide⟩ dX10_riderTold_237 ?_
          refine z_callSi hC zlX10_152 (m_J9_max_7cf53 l D tc ad hI M 0 (fewN M (M 10 0 ((n).toNat)) (M 8 0 ((n).toNat)) 61 (M 21 0 ((n).toNat))) (by omega) (by omega)) rfl rfl (Nat.le_of_ble_eq_true rfl) ⟨by decide, by decide⟩ ⟨by decide, by decide⟩ dX10_riderTold_240 ?_
          refine z_goto hC 247 dX10_riderTold_243 (by decide) ?_
          exact z_iret hC hret hlk rfl (by rw [riderToldM_7]; first | (exfalso; omega) | exact (if_pos (by omega)).symm | exact (if_neg (by omega)).symm) (by rfl) dX10_riderTold_247
      · skip
        refine z_tableIn hC 248 dX10_riderTold_58 (by decide) (by decide) (by decide) rfl (by decide) ?_
        refine z_iload_n hC 0 rfl dX10_riderTold_248 rfl ?_
        refine z_if_eq hC 280 dX10_riderTold_249 (by decide) (by omega) (fun c249 => ?_) (fun c249 => ?_)
        · skip
          refine z_iconst hC dX10_riderTold_280 ?_
          exact z_iret hC hret hlk rfl (by rw [riderToldM_8]; first | (exfalso; omega) | (rw [if_pos (by omega)]; done) | (rw [if_neg (by omega)]; done)) (by rfl) dX10_riderTold_281
        · skip
          refine z_aload_n hC 1 rfl dX10_riderTold_252 rfl ?_
          refine z_aload_n hC 1 rfl dX10_riderTold_253 rfl ?_
          refine z_getR hC zfX10_45 (tmM_0 ad tc _) (okM_0 (by omega)) rfl dX10_riderTold_254 ?_
          refine z_getRN hC zfX10_143 (tmM_11 ad tc _) (okM_11 (by omega)) rfl dX10_riderTold_257 ?_
          refine z_iload_n hC 2 rfl dX10_riderTold_260 rfl ?_
          have hq13 : 0 ≤ M 21 0 ((n).toNat) ∧ M 21 0 ((n).toNat) ≤ 11 := hW.1 21 0 ((n).toNat)
          refine z_iaload hC 0 ((n).toNat) (tmM_21 ad tc _) (tysM_0 tc) (okM_21 (by omega)) (by omega) (by omega) (by decide) (x := M 21 0 ((n).toNat)) (rfl) dX10_riderTold_261 ?_
          refine z_aload_n hC 1 rfl dX10_riderTold_262 rfl ?_
          refine z_getR hC zfX10_37 (tmM_0 ad tc _) (okM_0 (by omega)) rfl dX10_riderTold_263 ?_
          refine z_iload_n hC 2 rfl dX10_riderTold_266 rfl ?_
          have hq14 : 0 ≤ M 10 0 ((n).toNat) ∧ M 10 0 ((n).toNat) ≤ 7 := hW.1 10 0 ((n).toNat)
          refine z_iaload hC 0 ((n).toNat) (tmM_10 ad tc _) (tysM_0 tc) (okM_10 (by omega)) (by omega) (by omega) (by decide) (x := M 10 0 ((n).toNat)) (rfl) dX10_riderTold_267 ?_
          refine z_aload_n hC 1 rfl dX10_riderTold_268 rfl ?_
          refine z_getR hC zfX10_31 (tmM_0 ad tc _) (okM_0 (by omega)) rfl dX10_riderTold_269 ?_
          refine z_iload_n hC 2 rfl dX10_riderTold_272 rfl ?_
          have hq15 : 0 ≤ M 8 0 ((n).toNat) ∧ M 8 0 ((n).toNat) ≤ 120 := hW.1 8 0 ((n).toNat)
          refine z_iaload hC 0 ((n).toNat) (tmM_8 ad tc _) (tysM_0 tc) (okM_8 (by omega)) (by omega) (by omega) (by decide) (x := M 8 0 ((n).toNat)) (rfl) dX10_riderTold_273 ?_
          refine z_callVi hC zlX10_155 (k_X10_first l D tc ad hI M (M 21 0 ((n).toNat)) (M 10 0 ((n).toNat)) (M 8 0 ((n).toNat)) hW ⟨by omega, by omega⟩ ⟨by omega, by omega⟩ (by omega)) (tmM_0 ad tc _) rfl (okM_0 (by omega)) rfl rfl (Nat.le_of_ble_eq_true rfl) ⟨by decide, by decide⟩ ⟨by decide, by decide⟩ dX10_riderTold_274 ?_
          refine z_goto hC 281 dX10_riderTold_277 (by decide) ?_
          exact z_iret hC hret hlk rfl (by rw [riderToldM_8]; first | (exfalso; omega) | (rw [if_pos (by omega)]; done) | (rw [if_neg (by omega)]; done)) (by rfl) dX10_riderTold_281
      · skip
        refine z_tableIn hC 282 dX10_riderTold_58 (by decide) (by decide) (by decide) rfl (by decide) ?_
        refine z_aload_n hC 1 rfl dX10_riderTold_282 rfl ?_
        refine z_getR hC zfX10_45 (tmM_0 ad tc _) (okM_0 (by omega)) rfl dX10_riderTold_283 ?_
        refine z_getRN hC zfX10_158 (tmM_11 ad tc _) (okM_11 (by omega)) rfl dX10_riderTold_286 ?_
        refine z_iload_n hC 2 rfl dX10_riderTold_289 rfl ?_
        refine z_iaload hC 0 ((n).toNat) (tmM_23 ad tc _) (tysM_0 tc) (okM_23 (by omega)) (by omega) (by omega) (by decide) (x := M 23 0 ((n).toNat)) (rfl) dX10_riderTold_290 ?_
        exact z_iret hC hret hlk rfl (by rfl) (by rfl) dX10_riderTold_291
      · skip
        refine z_tableOut hC 292 dX10_riderTold_58 (by decide) (by decide) (by decide) ?_
        refine z_aload_n hC 1 rfl dX10_riderTold_292 rfl ?_
        refine z_getR hC zfX10_45 (tmM_0 ad tc _) (okM_0 (by omega)) rfl dX10_riderTold_293 ?_
        refine z_getRN hC zfX10_136 (tmM_11 ad tc _) (okM_11 (by omega)) rfl dX10_riderTold_296 ?_
        refine z_iload_n hC 2 rfl dX10_riderTold_299 rfl ?_
        refine z_iaload hC 0 ((n).toNat) (tmM_24 ad tc _) (tysM_0 tc) (okM_24 (by omega)) (by omega) (by omega) (by decide) (x := M 24 0 ((n).toNat)) (rfl) dX10_riderTold_300 ?_
        exact z_iret hC hret hlk rfl (by rfl) (by rfl) dX10_riderTold_301
    · skip
      refine z_iconst hC dX10_riderTold_51 ?_
      refine z_goto hC 56 dX10_riderTold_52 (by decide) ?_
      refine z_istore_n hC (L' := [(3, iv 1), (0, .ref (ad 0 0)), (1, iv n), (2, iv w)]) dX10_riderTold_56 rfl (by decide) rfl ?_
      refine z_iload_n hC 3 rfl dX10_riderTold_57 rfl ?_
      rcases (show w = 3 ∨ w = 4 ∨ w = 5 ∨ w = 6 ∨ w = 7 ∨ w = 8 ∨ w = 9 ∨ w = 10 by omega) with rfl | rfl | rfl | rfl | rfl | rfl | rfl | rfl
      · skip
        refine z_tableIn hC 100 dX10_riderTold_58 (by decide) (by decide) (by decide) rfl (by decide) ?_
        refine z_aload_n hC 1 rfl dX10_riderTold_100 rfl ?_
        refine z_getR hC zfX10_45 (tmM_0 ad tc _) (okM_0 (by omega)) rfl dX10_riderTold_101 ?_
        refine z_getRN hC zfX10_98 (tmM_11 ad tc _) (okM_11 (by omega)) rfl dX10_riderTold_104 ?_
        refine z_iload_n hC 2 rfl dX10_riderTold_107 rfl ?_
        have hq16 : 0 ≤ M 20 0 ((n).toNat) ∧ M 20 0 ((n).toNat) ≤ 3 := hW.1 20 0 ((n).toNat)
        refine z_iaload hC 0 ((n).toNat) (tmM_20 ad tc _) (tysM_0 tc) (okM_20 (by omega)) (by omega) (by omega) (by decide) (x := M 20 0 ((n).toNat)) (rfl) dX10_riderTold_108 ?_
        exact z_iret hC hret hlk rfl (by rfl) (by rfl) dX10_riderTold_109
      · skip
        refine z_tableIn hC 110 dX10_riderTold_58 (by decide) (by decide) (by decide) rfl (by decide) ?_
        refine z_iload_n hC 0 rfl dX10_riderTold_110 rfl ?_
        refine z_if_ne hC 127 dX10_riderTold_111 (by decide) (by omega) (fun c111 => ?_) (fun c111 => ?_)
        · skip
          refine z_aload_n hC 1 rfl dX10_riderTold_127 rfl ?_
          refine z_getR hC zfX10_45 (tmM_0 ad tc _) (okM_0 (by omega)) rfl dX10_riderTold_128 ?_
          refine z_getRN hC zfX10_143 (tmM_11 ad tc _) (okM_11 (by omega)) rfl dX10_riderTold_131 ?_
          refine z_iload_n hC 2 rfl dX10_riderTold_134 rfl ?_
          have hq17 : 0 ≤ M 21 0 ((n).toNat) ∧ M 21 0 ((n).toNat) ≤ 11 := hW.1 21 0 ((n).toNat)
          refine z_iaload hC 0 ((n).toNat) (tmM_21 ad tc _) (tysM_0 tc) (okM_21 (by omega)) (by omega) (by omega) (by decide) (x := M 21 0 ((n).toNat)) (rfl) dX10_riderTold_135 ?_
          refine z_goto hC 140 dX10_riderTold_136 (by decide) ?_
          exact z_iret hC hret hlk rfl (by rw [riderToldM_4]; first | (exfalso; omega) | (rw [if_pos (by omega)]; done) | (rw [if_neg (by omega)]; done)) (by rfl) dX10_riderTold_140
        · skip
          refine z_aload_n hC 1 rfl dX10_riderTold_114 rfl ?_
          refine z_getR hC zfX10_45 (tmM_0 ad tc _) (okM_0 (by omega)) rfl dX10_riderTold_115 ?_
          refine z_getRN hC zfX10_98 (tmM_11 ad tc _) (okM_11 (by omega)) rfl dX10_riderTold_118 ?_
          refine z_iload_n hC 2 rfl dX10_riderTold_121 rfl ?_
          have hq18 : 0 ≤ M 20 0 ((n).toNat) ∧ M 20 0 ((n).toNat) ≤ 3 := hW.1 20 0 ((n).toNat)
          refine z_iaload hC 0 ((n).toNat) (tmM_20 ad tc _) (tysM_0 tc) (okM_20 (by omega)) (by omega) (by omega) (by decide) (x := M 20 0 ((n).toNat)) (rfl) dX10_riderTold_122 ?_
          refine z_iconst hC dX10_riderTold_123 ?_
          refine z_icmp_ne hC 139 dX10_riderTold_124 (by decide) (by omega) (by omega) (fun c124 => ?_) (fun c124 => ?_)
          · skip
            refine z_iconst hC dX10_riderTold_139 ?_
            exact z_iret hC hret hlk rfl (by rw [riderToldM_4]; first | (exfalso; omega) | (rw [if_pos (by omega)]; done) | (rw [if_neg (by omega)]; done)) (by rfl) dX10_riderTold_140
          · skip
            refine z_aload_n hC 1 rfl dX10_riderTold_127 rfl ?_
            refine z_getR hC zfX10_45 (tmM_0 ad tc _) (okM_0 (by omega)) rfl dX10_riderTold_128 ?_
            refine z_getRN hC zfX10_143 (tmM_11 ad tc _) (okM_11 (by omega)) rfl dX10_riderTold_131 ?_
            refine z_iload_n hC 2 rfl dX10_riderTold_134 rfl ?_
            have hq19 : 0 ≤ M 21 0 ((n).toNat) ∧ M 21 0 ((n).toNat) ≤ 11 := hW.1 21 0 ((n).toNat)
            refine z_iaload hC 0 ((n).toNat) (tmM_21 ad tc _) (tysM_0 tc) (okM_21 (by omega)) (by omega) (by omega) (by decide) (x := M 21 0 ((n).toNat)) (rfl) dX10_riderTold_135 ?_
            refine z_goto hC 140 dX10_riderTold_136 (by decide) ?_
            exact z_iret hC hret hlk rfl (by rw [riderToldM_4]; first | (exfalso; omega) | (rw [if_pos (by omega)]; done) | (rw [if_neg (by omega)]; done)) (by rfl) dX10_riderTold_140
      · skip
        refine z_tableIn hC 141 dX10_riderTold_58 (by decide) (by decide) (by decide) rfl (by decide) ?_
        refine z_aload_n hC 1 rfl dX10_riderTold_141 rfl ?_
        refine z_getR hC zfX10_45 (tmM_0 ad tc _) (okM_0 (by omega)) rfl dX10_riderTold_142 ?_
        refine z_getRN hC zfX10_98 (tmM_11 ad tc _) (okM_11 (by omega)) rfl dX10_riderTold_145 ?_
        refine z_iload_n hC 2 rfl dX10_riderTold_148 rfl ?_
        have hq20 : 0 ≤ M 20 0 ((n).toNat) ∧ M 20 0 ((n).toNat) ≤ 3 := hW.1 20 0 ((n).toNat)
        refine z_iaload hC 0 ((n).toNat) (tmM_20 ad tc _) (tysM_0 tc) (okM_20 (by omega)) (by omega) (by omega) (by decide) (x := M 20 0 ((n).toNat)) (rfl) dX10_riderTold_149 ?_
        refine z_iconst hC dX10_riderTold_150 ?_
        refine z_icmp_ne hC 166 dX10_riderTold_151 (by decide) (by omega) (by omega) (fun c151 => ?_) (fun c151 => ?_)
        · skip
          refine z_iconst hC dX10_riderTold_166 ?_
          exact z_iret hC hret hlk rfl (by rw [riderToldM_5]; first | (exfalso; omega) | (rw [if_pos (by omega)]; done) | (rw [if_neg (by omega)]; done)) (by rfl) dX10_riderTold_167
        · skip
          refine z_aload_n hC 1 rfl dX10_riderTold_154 rfl ?_
          refine z_getR hC zfX10_45 (tmM_0 ad tc _) (okM_0 (by omega)) rfl dX10_riderTold_155 ?_
          refine z_getRN hC zfX10_143 (tmM_11 ad tc _) (okM_11 (by omega)) rfl dX10_riderTold_158 ?_
          refine z_iload_n hC 2 rfl dX10_riderTold_161 rfl ?_
          have hq21 : 0 ≤ M 21 0 ((n).toNat) ∧ M 21 0 ((n).toNat) ≤ 11 := hW.1 21 0 ((n).toNat)
          refine z_iaload hC 0 ((n).toNat) (tmM_21 ad tc _) (tysM_0 tc) (okM_21 (by omega)) (by omega) (by omega) (by decide) (x := M 21 0 ((n).toNat)) (rfl) dX10_riderTold_162 ?_
          refine z_goto hC 167 dX10_riderTold_163 (by decide) ?_
          exact z_iret hC hret hlk rfl (by rw [riderToldM_5]; first | (exfalso; omega) | (rw [if_pos (by omega)]; done) | (rw [if_neg (by omega)]; done)) (by rfl) dX10_riderTold_167
      · skip
        refine z_tableIn hC 168 dX10_riderTold_58 (by decide) (by decide) (by decide) rfl (by decide) ?_
        refine z_iload_n hC 0 rfl dX10_riderTold_168 rfl ?_
        refine z_if_eq hC 184 dX10_riderTold_169 (by decide) (by omega) (fun c169 => ?_) (fun c169 => ?_)
        · skip
          refine z_aload_n hC 1 rfl dX10_riderTold_184 rfl ?_
          refine z_getR hC zfX10_45 (tmM_0 ad tc _) (okM_0 (by omega)) rfl dX10_riderTold_185 ?_
          refine z_getRN hC zfX10_98 (tmM_11 ad tc _) (okM_11 (by omega)) rfl dX10_riderTold_188 ?_
          refine z_iload_n hC 2 rfl dX10_riderTold_191 rfl ?_
          have hq22 : 0 ≤ M 20 0 ((n).toNat) ∧ M 20 0 ((n).toNat) ≤ 3 := hW.1 20 0 ((n).toNat)
          refine z_iaload hC 0 ((n).toNat) (tmM_20 ad tc _) (tysM_0 tc) (okM_20 (by omega)) (by omega) (by omega) (by decide) (x := M 20 0 ((n).toNat)) (rfl) dX10_riderTold_192 ?_
          refine z_iconst hC dX10_riderTold_193 ?_
          refine z_icmp_ne hC 208 dX10_riderTold_194 (by decide) (by omega) (by omega) (fun c194 => ?_) (fun c194 => ?_)
          · skip
            refine z_iconst hC dX10_riderTold_208 ?_
            exact z_iret hC hret hlk rfl (by rw [riderToldM_6]; first | (exfalso; omega) | (rw [if_pos (by omega)]; done) | (rw [if_neg (by omega), if_pos (by omega)]; done) | (rw [if_neg (by omega), if_neg (by omega)]; done)) (by rfl) dX10_riderTold_209
          · skip
            refine z_aload_n hC 1 rfl dX10_riderTold_197 rfl ?_
            refine z_getR hC zfX10_45 (tmM_0 ad tc _) (okM_0 (by omega)) rfl dX10_riderTold_198 ?_
            refine z_iload_n hC 2 rfl dX10_riderTold_201 rfl ?_
            refine z_callVi hC zlX10_149 (k_X9_leftOf l D tc ad hI M 0 n (by omega) hW ⟨by omega, by omega⟩) (tmM_11 ad tc _) rfl (okM_11 (by omega)) rfl rfl (Nat.le_of_ble_eq_true rfl) ⟨by decide, by decide⟩ ⟨by decide, by decide⟩ dX10_riderTold_202 ?_
            refine z_goto hC 209 dX10_riderTold_205 (by decide) ?_
            exact z_iret hC hret hlk rfl (by rw [riderToldM_6]; first | (exfalso; omega) | (rw [if_pos (by omega)]; done) | (rw [if_neg (by omega), if_pos (by omega)]; done) | (rw [if_neg (by omega), if_neg (by omega)]; done)) (by rfl) dX10_riderTold_209
        · skip
          refine z_aload_n hC 1 rfl dX10_riderTold_172 rfl ?_
          refine z_getR hC zfX10_45 (tmM_0 ad tc _) (okM_0 (by omega)) rfl dX10_riderTold_173 ?_
          refine z_getRN hC zfX10_146 (tmM_11 ad tc _) (okM_11 (by omega)) rfl dX10_riderTold_176 ?_
          refine z_iload_n hC 2 rfl dX10_riderTold_179 rfl ?_
          have hq23 : -(1000 + U) ≤ M 22 0 ((n).toNat) ∧ M 22 0 ((n).toNat) ≤ 1000 + U := hW.1 22 0 ((n).toNat)
          refine z_iaload hC 0 ((n).toNat) (tmM_22 ad tc _) (tysM_0 tc) (okM_22 (by omega)) (by omega) (by omega) (by decide) (x := M 22 0 ((n).toNat)) (rfl) dX10_riderTold_180 ?_
          refine z_goto hC 209 dX10_riderTold_181 (by decide) ?_
          exact z_iret hC hret hlk rfl (by rw [riderToldM_6]; first | (exfalso; omega) | (rw [if_pos (by omega)]; done) | (rw [if_neg (by omega), if_pos (by omega)]; done) | (rw [if_neg (by omega), if_neg (by omega)]; done)) (by rfl) dX10_riderTold_209
      · skip
        refine z_tableIn hC 210 dX10_riderTold_58 (by decide) (by decide) (by decide) rfl (by decide) ?_
        refine z_iload_n hC 0 rfl dX10_riderTold_210 rfl ?_
        refine z_if_eq hC 246 dX10_riderTold_211 (by decide) (by omega) (fun c211 => ?_) (fun c211 => ?_)
        · skip
          refine z_iconst hC dX10_riderTold_246 ?_
          exact z_iret hC hret hlk rfl (by rw [riderToldM_7]; first | (exfalso; omega) | exact (if_pos (by omega)).symm | exact (if_neg (by omega)).symm) (by rfl) dX10_riderTold_247
        · skip
          refine z_iconst hC dX10_riderTold_214 ?_
          refine z_aload_n hC 1 rfl dX10_riderTold_215 rfl ?_
          refine z_aload_n hC 1 rfl dX10_riderTold_216 rfl ?_
          refine z_getR hC zfX10_45 (tmM_0 ad tc _) (okM_0 (by omega)) rfl dX10_riderTold_217 ?_
          refine z_getRN hC zfX10_143 (tmM_11 ad tc _) (okM_11 (by omega)) rfl dX10_riderTold_220 ?_
          refine z_iload_n hC 2 rfl dX10_riderTold_223 rfl ?_
          have hq24 : 0 ≤ M 21 0 ((n).toNat) ∧ M 21 0 ((n).toNat) ≤ 11 := hW.1 21 0 ((n).toNat)
          refine z_iaload hC 0 ((n).toNat) (tmM_21 ad tc _) (tysM_0 tc) (okM_21 (by omega)) (by omega) (by omega) (by decide) (x := M 21 0 ((n).toNat)) (rfl) dX10_riderTold_224 ?_
          refine z_aload_n hC 1 rfl dX10_riderTold_225 rfl ?_
          refine z_getR hC zfX10_37 (tmM_0 ad tc _) (okM_0 (by omega)) rfl dX10_riderTold_226 ?_
          refine z_iload_n hC 2 rfl dX10_riderTold_229 rfl ?_
          have hq25 : 0 ≤ M 10 0 ((n).toNat) ∧ M 10 0 ((n).toNat) ≤ 7 := hW.1 10 0 ((n).toNat)
          refine z_iaload hC 0 ((n).toNat) (tmM_10 ad tc _) (tysM_0 tc) (okM_10 (by omega)) (by omega) (by omega) (by decide) (x := M 10 0 ((n).toNat)) (rfl) dX10_riderTold_230 ?_
          refine z_aload_n hC 1 rfl dX10_riderTold_231 rfl ?_
          refine z_getR hC zfX10_31 (tmM_0 ad tc _) (okM_0 (by omega)) rfl dX10_riderTold_232 ?_
          refine z_iload_n hC 2 rfl dX10_riderTold_235 rfl ?_
          have hq26 : 0 ≤ M 8 0 ((n).toNat) ∧ M 8 0 ((n).toNat) ≤ 120 := hW.1 8 0 ((n).toNat)
          refine z_iaload hC 0 ((n).toNat) (tmM_8 ad tc _) (tysM_0 tc) (okM_8 (by omega)) (by omega) (by omega) (by decide) (x := M 8 0 ((n).toNat)) (rfl) dX10_riderTold_236 ?_
          refine z_callVi hC zlX10_78 (k_X10_fewR l D tc ad hI M 61 (M 21 0 ((n).toNat)) (M 10 0 ((n).toNat)) (M 8 0 ((n).toNat)) hW ⟨by omega, by omega⟩ ⟨by omega, by omega⟩ (by omega) (by omega)) (tmM_0 ad tc _) rfl (okM_0 (by omega)) rfl rfl (Nat.le_of_ble_eq_true rfl) ⟨by decide, by decide⟩ ⟨by decide, by decide⟩ dX10_riderTold_237 ?_
          refine z_callSi hC zlX10_152 (m_J9_max_7cf53 l D tc ad hI M 0 (fewN M (M 10 0 ((n).toNat)) (M 8 0 ((n).toNat)) 61 (M 21 0 ((n).toNat))) (by omega) (by omega)) rfl rfl (Nat.le_of_ble_eq_true rfl) ⟨by decide, by decide⟩ ⟨by decide, by decide⟩ dX10_riderTold_240 ?_
          refine z_goto hC 247 dX10_riderTold_243 (by decide) ?_
          exact z_iret hC hret hlk rfl (by rw [riderToldM_7]; first | (exfalso; omega) | exact (if_pos (by omega)).symm | exact (if_neg (by omega)).symm) (by rfl) dX10_riderTold_247
      · skip
        refine z_tableIn hC 248 dX10_riderTold_58 (by decide) (by decide) (by decide) rfl (by decide) ?_
        refine z_iload_n hC 0 rfl dX10_riderTold_248 rfl ?_
        refine z_if_eq hC 280 dX10_riderTold_249 (by decide) (by omega) (fun c249 => ?_) (fun c249 => ?_)
        · skip
          refine z_iconst hC dX10_riderTold_280 ?_
          exact z_iret hC hret hlk rfl (by rw [riderToldM_8]; first | (exfalso; omega) | (rw [if_pos (by omega)]; done) | (rw [if_neg (by omega)]; done)) (by rfl) dX10_riderTold_281
        · skip
          refine z_aload_n hC 1 rfl dX10_riderTold_252 rfl ?_
          refine z_aload_n hC 1 rfl dX10_riderTold_253 rfl ?_
          refine z_getR hC zfX10_45 (tmM_0 ad tc _) (okM_0 (by omega)) rfl dX10_riderTold_254 ?_
          refine z_getRN hC zfX10_143 (tmM_11 ad tc _) (okM_11 (by omega)) rfl dX10_riderTold_257 ?_
          refine z_iload_n hC 2 rfl dX10_riderTold_260 rfl ?_
          have hq27 : 0 ≤ M 21 0 ((n).toNat) ∧ M 21 0 ((n).toNat) ≤ 11 := hW.1 21 0 ((n).toNat)
          refine z_iaload hC 0 ((n).toNat) (tmM_21 ad tc _) (tysM_0 tc) (okM_21 (by omega)) (by omega) (by omega) (by decide) (x := M 21 0 ((n).toNat)) (rfl) dX10_riderTold_261 ?_
          refine z_aload_n hC 1 rfl dX10_riderTold_262 rfl ?_
          refine z_getR hC zfX10_37 (tmM_0 ad tc _) (okM_0 (by omega)) rfl dX10_riderTold_263 ?_
          refine z_iload_n hC 2 rfl dX10_riderTold_266 rfl ?_
          have hq28 : 0 ≤ M 10 0 ((n).toNat) ∧ M 10 0 ((n).toNat) ≤ 7 := hW.1 10 0 ((n).toNat)
          refine z_iaload hC 0 ((n).toNat) (tmM_10 ad tc _) (tysM_0 tc) (okM_10 (by omega)) (by omega) (by omega) (by decide) (x := M 10 0 ((n).toNat)) (rfl) dX10_riderTold_267 ?_
          refine z_aload_n hC 1 rfl dX10_riderTold_268 rfl ?_
          refine z_getR hC zfX10_31 (tmM_0 ad tc _) (okM_0 (by omega)) rfl dX10_riderTold_269 ?_
          refine z_iload_n hC 2 rfl dX10_riderTold_272 rfl ?_
          have hq29 : 0 ≤ M 8 0 ((n).toNat) ∧ M 8 0 ((n).toNat) ≤ 120 := hW.1 8 0 ((n).toNat)
          refine z_iaload hC 0 ((n).toNat) (tmM_8 ad tc _) (tysM_0 tc) (okM_8 (by omega)) (by omega) (by omega) (by decide) (x := M 8 0 ((n).toNat)) (rfl) dX10_riderTold_273 ?_
          refine z_callVi hC zlX10_155 (k_X10_first l D tc ad hI M (M 21 0 ((n).toNat)) (M 10 0 ((n).toNat)) (M 8 0 ((n).toNat)) hW ⟨by omega, by omega⟩ ⟨by omega, by omega⟩ (by omega)) (tmM_0 ad tc _) rfl (okM_0 (by omega)) rfl rfl (Nat.le_of_ble_eq_true rfl) ⟨by decide, by decide⟩ ⟨by decide, by decide⟩ dX10_riderTold_274 ?_
          refine z_goto hC 281 dX10_riderTold_277 (by decide) ?_
          exact z_iret hC hret hlk rfl (by rw [riderToldM_8]; first | (exfalso; omega) | (rw [if_pos (by omega)]; done) | (rw [if_neg (by omega)]; done)) (by rfl) dX10_riderTold_281
      · skip
        refine z_tableIn hC 282 dX10_riderTold_58 (by decide) (by decide) (by decide) rfl (by decide) ?_
        refine z_aload_n hC 1 rfl dX10_riderTold_282 rfl ?_
        refine z_getR hC zfX10_45 (tmM_0 ad tc _) (okM_0 (by omega)) rfl dX10_riderTold_283 ?_
        refine z_getRN hC zfX10_158 (tmM_11 ad tc _) (okM_11 (by omega)) rfl dX10_riderTold_286 ?_
        refine z_iload_n hC 2 rfl dX10_riderTold_289 rfl ?_
        refine z_iaload hC 0 ((n).toNat) (tmM_23 ad tc _) (tysM_0 tc) (okM_23 (by omega)) (by omega) (by omega) (by decide) (x := M 23 0 ((n).toNat)) (rfl) dX10_riderTold_290 ?_
        exact z_iret hC hret hlk rfl (by rfl) (by rfl) dX10_riderTold_291
      · skip
        refine z_tableOut hC 292 dX10_riderTold_58 (by decide) (by decide) (by decide) ?_
        refine z_aload_n hC 1 rfl dX10_riderTold_292 rfl ?_
        refine z_getR hC zfX10_45 (tmM_0 ad tc _) (okM_0 (by omega)) rfl dX10_riderTold_293 ?_
        refine z_getRN hC zfX10_136 (tmM_11 ad tc _) (okM_11 (by omega)) rfl dX10_riderTold_296 ?_
        refine z_iload_n hC 2 rfl dX10_riderTold_299 rfl ?_
        refine z_iaload hC 0 ((n).toNat) (tmM_24 ad tc _) (tysM_0 tc) (okM_24 (by omega)) (by omega) (by omega) (by decide) (x := M 24 0 ((n).toNat)) (rfl) dX10_riderTold_300 ?_
        exact z_iret hC hret hlk rfl (by rfl) (by rfl) dX10_riderTold_301
  · skip
    refine z_iload_n hC 2 rfl dX10_riderTold_5 rfl ?_
    refine z_if_ne hC 18 dX10_riderTold_6 (by decide) (by omega) (fun c6 => ?_) (fun c6 => ?_)
    · skip
      refine z_iload_n hC 2 rfl dX10_riderTold_18 rfl ?_
      refine z_iconst hC dX10_riderTold_19 ?_
      refine z_icmp_ne hC 32 dX10_riderTold_20 (by decide) (by omega) (by omega) (fun c20 => ?_) (fun c20 => ?_)
      · skip
        refine z_aload_n hC 0 rfl dX10_riderTold_32 rfl ?_
        refine z_getR hC zfX10_37 (tmM_0 ad tc _) (okM_0 (by omega)) rfl dX10_riderTold_33 ?_
        refine z_iload_n hC 1 rfl dX10_riderTold_36 rfl ?_
        have hq30 : 0 ≤ M 10 0 ((n).toNat) ∧ M 10 0 ((n).toNat) ≤ 7 := hW.1 10 0 ((n).toNat)
        refine z_iaload hC 0 ((n).toNat) (tmM_10 ad tc _) (tysM_0 tc) (okM_10 (by omega)) (by omega) (by omega) (by decide) (x := M 10 0 ((n).toNat)) (rfl) dX10_riderTold_37 ?_
        exact z_iret hC hret hlk rfl (by rcases (show w = 0 ∨ w = 1 ∨ w = 2 by omega) with rfl | rfl | rfl <;> first | (exfalso; omega) | rfl) (by rfl) dX10_riderTold_38
      · skip
        refine z_aload_n hC 0 rfl dX10_riderTold_23 rfl ?_
        refine z_getR hC zfX10_34 (tmM_0 ad tc _) (okM_0 (by omega)) rfl dX10_riderTold_24 ?_
        refine z_iload_n hC 1 rfl dX10_riderTold_27 rfl ?_
        have hq31 : 0 ≤ M 9 0 ((n).toNat) ∧ M 9 0 ((n).toNat) ≤ 60 := hW.1 9 0 ((n).toNat)
        refine z_iaload hC 0 ((n).toNat) (tmM_9 ad tc _) (tysM_0 tc) (okM_9 (by omega)) (by omega) (by omega) (by decide) (x := M 9 0 ((n).toNat)) (rfl) dX10_riderTold_28 ?_
        refine z_goto hC 38 dX10_riderTold_29 (by decide) ?_
        exact z_iret hC hret hlk rfl (by rcases (show w = 0 ∨ w = 1 ∨ w = 2 by omega) with rfl | rfl | rfl <;> first | (exfalso; omega) | rfl) (by rfl) dX10_riderTold_38
    · skip
      refine z_aload_n hC 0 rfl dX10_riderTold_9 rfl ?_
      refine z_getR hC zfX10_31 (tmM_0 ad tc _) (okM_0 (by omega)) rfl dX10_riderTold_10 ?_
      refine z_iload_n hC 1 rfl dX10_riderTold_13 rfl ?_
      have hq32 : 0 ≤ M 8 0 ((n).toNat) ∧ M 8 0 ((n).toNat) ≤ 120 := hW.1 8 0 ((n).toNat)
      refine z_iaload hC 0 ((n).toNat) (tmM_8 ad tc _) (tysM_0 tc) (okM_8 (by omega)) (by omega) (by omega) (by decide) (x := M 8 0 ((n).toNat)) (rfl) dX10_riderTold_14 ?_
      refine z_goto hC 38 dX10_riderTold_15 (by decide) ?_
      exact z_iret hC hret hlk rfl (by rcases (show w = 0 ∨ w = 1 ∨ w = 2 by omega) with rfl | rfl | rfl <;> first | (exfalso; omega) | rfl) (by rfl) dX10_riderTold_38
