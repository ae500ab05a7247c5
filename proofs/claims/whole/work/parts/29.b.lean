set_option maxHeartbeats 4000000 in
set_option maxRecDepth 100000 in
theorem k_X10_platformTold (l : Launch) (D : va_G) (tc : Nat → ClassId) (ad : Nat → Nat → Nat) (hI : zI ad okM) (M : zM) {T U : Int} (n w : Int) (hW : WTM T U M) (hn : 0 ≤ n ∧ n ≤ 7) (hw : 0 ≤ w ∧ w ≤ 7) : zMi l yX10_platformTold cX10_platformTold 7 (some .int) 0 D (tysM tc) ad okM (tmM ad tc) [.ref (ad 0 0), iv n, iv w] M (platToldM M n w) M 1 8 := by
  have hlc : 0 ≤ M 0 0 5 ∧ M 0 0 5 ≤ 12 := hW.1 0 0 5
  have hrc : 0 ≤ M 0 0 10 ∧ M 0 0 10 ≤ 12 := hW.1 0 0 10
  have h18 : 0 ≤ M 18 0 n.toNat ∧ M 18 0 n.toNat ≤ 12 := hW.1 18 0 _
  refine z_met hI (plainFor_of_name (by decide)) (Nat.le_of_ble_eq_true rfl) ?_
  intro p e s m args below meth c hC hret hlk
  refine z_conv (L2 := [(0, .ref (ad 0 0)), (1, iv n), (2, iv w)]) ?_ rfl rfl rfl
  have hc69 : ∀ (d69 : Nat) (j : Nat) (hj : j ≤ (M 0 0 10).toNat), (M 0 0 10).toNat - j = d69 → zV p l e (zrm 0 1 8) s m args below meth c (MQ below (zQi D ad okM (tmM ad tc) (platToldM M n w) M (zA ad okM s.heap.size)) args s 1 8 (zA ad okM s.heap.size)) D ad okM (tmM ad tc) (zA ad okM s.heap.size) s.heap 7 0 0 M [(0, .ref (ad 0 0)), (1, iv n), (2, iv w), (3, iv (zcnt (fun x9 => M 4 0 x9 = n) (M 0 0 5).toNat)), (4, iv (zcnt (fun x9 => M 5 0 x9 = n) (M 0 0 5).toNat)), (5, iv (zcnt (fun x9 => M 20 0 x9 = 2 ∧ M 10 0 x9 = n) j)), (6, iv ((j : Nat) : Int))] 69 [] := by
    intro d69
    induction d69 using Nat.strongRecOn with
    | _ d69 ih69 =>
      intro j hj hd69
      refine z_iload hC 6 rfl dX10_platformTold_69 ?_
      refine z_aload_n hC 0 rfl dX10_platformTold_71 rfl ?_
      have hq1 : 0 ≤ M 0 0 10 ∧ M 0 0 10 ≤ 12 := hW.1 0 0 10
      refine z_getI hC zfX10_95 (tmM_0 ad tc _) (okM_0 (by omega)) rfl (x := M 0 0 10) (rfl) dX10_platformTold_72 ?_
      refine z_icmp_ge hC 119 dX10_platformTold_75 (by decide) (by omega) (by omega) (fun c75 => ?_) (fun c75 => ?_)
      · skip
        have he : j = (M 0 0 10).toNat := by omega
        subst he
        refine z_bipush hC dX10_platformTold_119 (by decide) ?_
        refine z_newN hC 8 (by decide) ⟨by decide, by decide⟩ dX10_platformTold_121 (fun b9 hI9 hC9 => ?_)
        refine z_conv (L2 := [(0, .ref (adN ad b9 0 0)), (1, iv n), (2, iv w), (3, iv (zcnt (fun x9 => M 4 0 x9 = n) (M 0 0 5).toNat)), (4, iv (zcnt (fun x9 => M 5 0 x9 = n) (M 0 0 5).toNat)), (5, iv (zcnt (fun x9 => M 20 0 x9 = 2 ∧ M 10 0 x9 = n) ((M 0 0 10).toNat))), (6, iv ((((M 0 0 10).toNat) : Nat) : Int))]) (St2 := [.ref (adN ad b9 25 0)]) ?_ rfl rfl rfl
        obtain ⟨ad9, had⟩ : ∃ x, x = adN ad b9 := ⟨_, rfl⟩
        rw [← had] at hI9 hC9 ⊢
        refine z_dup hC9 dX10_platformTold_123 rfl ?_
        refine z_iconst hC9 dX10_platformTold_124 ?_
        refine z_aload_n hC9 0 rfl dX10_platformTold_125 rfl ?_
        refine z_getR hC9 zfX10_9 (tmN_0 ad9 tc _) (okN_0 (by omega)) rfl dX10_platformTold_126 ?_
        refine z_iload_n hC9 1 rfl dX10_platformTold_129 rfl ?_
        have hq2 : 0 ≤ M 1 0 ((n).toNat) ∧ M 1 0 ((n).toNat) ≤ 40 := hW.1 1 0 ((n).toNat)
        refine z_iaload hC9 0 ((n).toNat) (tmN_1 ad9 tc _) (tysN_0 tc) (okN_1 (by omega)) (by omega) (by omega) (by decide) (x := M 1 0 ((n).toNat)) (by simp [zup, z0_fr (f := 1) (by decide)]) dX10_platformTold_130 ?_
        refine z_iastore hC9 0 (0) (tmN_25 ad9 tc _) (tysN_0 tc) (okN_25 (by omega)) (rfl) (by omega) (by decide) dX10_platformTold_131 ?_
        refine z_dup hC9 dX10_platformTold_132 rfl ?_
        refine z_iconst hC9 dX10_platformTold_133 ?_
        refine z_aload_n hC9 0 rfl dX10_platformTold_134 rfl ?_
        refine z_getR hC9 zfX10_13 (tmN_0 ad9 tc _) (okN_0 (by omega)) rfl dX10_platformTold_135 ?_
        refine z_iload_n hC9 1 rfl dX10_platformTold_138 rfl ?_
        have hq3 : 0 ≤ M 2 0 ((n).toNat) ∧ M 2 0 ((n).toNat) ≤ 40 := hW.1 2 0 ((n).toNat)
        refine z_iaload hC9 0 ((n).toNat) (tmN_2 ad9 tc _) (tysN_0 tc) (okN_2 (by omega)) (by omega) (by omega) (by decide) (x := M 2 0 ((n).toNat)) (by simp [zup, z0_fr (f := 2) (by decide)]) dX10_platformTold_139 ?_
        refine z_iastore hC9 0 (1) (tmN_25 ad9 tc _) (tysN_0 tc) (okN_25 (by omega)) (rfl) (by omega) (by decide) dX10_platformTold_140 ?_
        refine z_dup hC9 dX10_platformTold_141 rfl ?_
        refine z_iconst hC9 dX10_platformTold_142 ?_
        refine z_aload_n hC9 0 rfl dX10_platformTold_143 rfl ?_
        refine z_getR hC9 zfX10_16 (tmN_0 ad9 tc _) (okN_0 (by omega)) rfl dX10_platformTold_144 ?_
        refine z_iload_n hC9 1 rfl dX10_platformTold_147 rfl ?_
        have hq4 : 0 ≤ M 3 0 ((n).toNat) ∧ M 3 0 ((n).toNat) ≤ 60 := hW.1 3 0 ((n).toNat)
        refine z_iaload hC9 0 ((n).toNat) (tmN_3 ad9 tc _) (tysN_0 tc) (okN_3 (by omega)) (by omega) (by omega) (by decide) (x := M 3 0 ((n).toNat)) (by simp [zup, z0_fr (f := 3) (by decide)]) dX10_platformTold_148 ?_
        refine z_iastore hC9 0 (2) (tmN_25 ad9 tc _) (tysN_0 tc) (okN_25 (by omega)) (rfl) (by omega) (by decide) dX10_platformTold_149 ?_
        refine z_dup hC9 dX10_platformTold_150 rfl ?_
        refine z_iconst hC9 dX10_platformTold_151 ?_
        refine z_aload_n hC9 0 rfl dX10_platformTold_152 rfl ?_
        refine z_getR hC9 zfX10_45 (tmN_0 ad9 tc _) (okN_0 (by omega)) rfl dX10_platformTold_153 ?_
        refine z_getRN hC9 zfX10_101 (tmN_11 ad9 tc _) (okN_11 (by omega)) rfl dX10_platformTold_156 ?_
        refine z_iload_n hC9 1 rfl dX10_platformTold_159 rfl ?_
        have hq5 : 0 ≤ M 18 0 ((n).toNat) ∧ M 18 0 ((n).toNat) ≤ 12 := hW.1 18 0 ((n).toNat)
        refine z_iaload hC9 0 ((n).toNat) (tmN_18 ad9 tc _) (tysN_0 tc) (okN_18 (by omega)) (by omega) (by omega) (by decide) (x := M 18 0 ((n).toNat)) (by simp [zup, z0_fr (f := 18) (by decide)]) dX10_platformTold_160 ?_
        refine z_iastore hC9 0 (3) (tmN_25 ad9 tc _) (tysN_0 tc) (okN_25 (by omega)) (rfl) (by omega) (by decide) dX10_platformTold_161 ?_
        refine z_dup hC9 dX10_platformTold_162 rfl ?_
        refine z_iconst hC9 dX10_platformTold_163 ?_
        refine z_aload_n hC9 0 rfl dX10_platformTold_164 rfl ?_
        refine z_getR hC9 zfX10_45 (tmN_0 ad9 tc _) (okN_0 (by omega)) rfl dX10_platformTold_165 ?_
        refine z_getRN hC9 zfX10_101 (tmN_11 ad9 tc _) (okN_11 (by omega)) rfl dX10_platformTold_168 ?_
        refine z_iload_n hC9 1 rfl dX10_platformTold_171 rfl ?_
        have hq6 : 0 ≤ M 18 0 ((n).toNat) ∧ M 18 0 ((n).toNat) ≤ 12 := hW.1 18 0 ((n).toNat)
        refine z_iaload hC9 0 ((n).toNat) (tmN_18 ad9 tc _) (tysN_0 tc) (okN_18 (by omega)) (by omega) (by omega) (by decide) (x := M 18 0 ((n).toNat)) (by simp [zup, z0_fr (f := 18) (by decide)]) dX10_platformTold_172 ?_
        refine z_if_ne hC9 180 dX10_platformTold_173 (by decide) (by omega) (fun c173 => ?_) (fun c173 => ?_)
        · skip
          refine z_aload_n hC9 0 rfl dX10_platformTold_180 rfl ?_
          refine z_getR hC9 zfX10_45 (tmN_0 ad9 tc _) (okN_0 (by omega)) rfl dX10_platformTold_181 ?_
          refine z_getRN hC9 zfX10_104 (tmN_11 ad9 tc _) (okN_11 (by omega)) rfl dX10_platformTold_184 ?_
          refine z_bipush hC9 dX10_platformTold_187 (by decide) ?_
          refine z_iload_n hC9 1 rfl dX10_platformTold_189 rfl ?_
          refine z_imul hC9 dX10_platformTold_190 ?_
          have hq7 : 0 ≤ M 19 0 ((12 * n).toNat) ∧ M 19 0 ((12 * n).toNat) ≤ 11 := hW.1 19 0 ((12 * n).toNat)
          refine z_iaload hC9 0 ((12 * n).toNat) (tmN_19 ad9 tc _) (tysN_0 tc) (okN_19 (by omega)) (by omega) (by omega) (by decide) (x := M 19 0 ((12 * n).toNat)) (by simp [zup, z0_fr (f := 19) (by decide)]) dX10_platformTold_191 ?_
          refine z_iastore hC9 0 (4) (tmN_25 ad9 tc _) (tysN_0 tc) (okN_25 (by omega)) (rfl) (by omega) (by decide) dX10_platformTold_192 ?_
          refine z_dup hC9 dX10_platformTold_193 rfl ?_
          refine z_iconst hC9 dX10_platformTold_194 ?_
          refine z_iload_n hC9 3 rfl dX10_platformTold_195 rfl ?_
          refine z_iastore hC9 0 (5) (tmN_25 ad9 tc _) (tysN_0 tc) (okN_25 (by omega)) (rfl) (by omega) (by decide) dX10_platformTold_196 ?_
          refine z_dup hC9 dX10_platformTold_197 rfl ?_
          refine z_bipush hC9 dX10_platformTold_198 (by decide) ?_
          refine z_iload hC9 4 rfl dX10_platformTold_200 ?_
          refine z_iastore hC9 0 (6) (tmN_25 ad9 tc _) (tysN_0 tc) (okN_25 (by omega)) (rfl) (by omega) (by decide) dX10_platformTold_202 ?_
          refine z_dup hC9 dX10_platformTold_203 rfl ?_
          refine z_bipush hC9 dX10_platformTold_204 (by decide) ?_
          refine z_iload hC9 5 rfl dX10_platformTold_206 ?_
          refine z_iastore hC9 0 (7) (tmN_25 ad9 tc _) (tysN_0 tc) (okN_25 (by omega)) (rfl) (by omega) (by decide) dX10_platformTold_208 ?_
          refine z_astore hC9 (L' := [(6, .ref (ad9 25 0)), (0, .ref (ad9 0 0)), (1, iv n), (2, iv w), (3, iv (zcnt (fun x9 => M 4 0 x9 = n) (M 0 0 5).toNat)), (4, iv (zcnt (fun x9 => M 5 0 x9 = n) (M 0 0 5).toNat)), (5, iv (zcnt (fun x9 => M 20 0 x9 = 2 ∧ M 10 0 x9 = n) ((M 0 0 10).toNat)))]) dX10_platformTold_209 (by decide) rfl ?_
          refine z_aload hC9 0 rfl dX10_platformTold_211 ?_
          refine z_iload_n hC9 3 rfl dX10_platformTold_213 rfl ?_
          refine z_iaload hC9 0 ((w).toNat) (tmN_25 ad9 tc _) (tysN_0 tc) (okN_25 (by omega)) (by omega) (by omega) (by decide) (x := (zup (zup (zup (zup (zup (zup (zup (zup (z0 M) 25 0 0 (M 1 0 ((n).toNat))) 25 0 1 (M 2 0 ((n).toNat))) 25 0 2 (M 3 0 ((n).toNat))) 25 0 3 (M 18 0 ((n).toNat))) 25 0 4 (M 19 0 ((12 * n).toNat))) 25 0 5 (zcnt (fun x9 => M 4 0 x9 = n) (M 0 0 5).toNat)) 25 0 6 (zcnt (fun x9 => M 5 0 x9 = n) (M 0 0 5).toNat)) 25 0 7 (zcnt (fun x9 => M 20 0 x9 = 2 ∧ M 10 0 x9 = n) ((M 0 0 10).toNat))) 25 0 ((w).toNat)) (rfl) dX10_platformTold_214 ?_
          exact z_iretN hC9 had hret hlk rfl (by rcases (show w = 0 ∨ w = 1 ∨ w = 2 ∨ w = 3 ∨ w = 4 ∨ w = 5 ∨ w = 6 ∨ w = 7 by omega) with rfl | rfl | rfl | rfl | rfl | rfl | rfl | rfl <;> first | rfl | exact (if_pos (by assumption)).symm | exact (if_neg (by assumption)).symm) (fun f h => by intro q9; (repeat rw [zup_fr (okM_ne q9)]); rw [z0_fr (okM_ne q9)]) ⟨by decide, by decide⟩ dX10_platformTold_215
        · skip
          refine z_iconst hC9 dX10_platformTold_176 ?_
          refine z_goto hC9 192 dX10_platformTold_177 (by decide) ?_
          refine z_iastore hC9 0 (4) (tmN_25 ad9 tc _) (tysN_0 tc) (okN_25 (by omega)) (rfl) (by omega) (by decide) dX10_platformTold_192 ?_
          refine z_dup hC9 dX10_platformTold_193 rfl ?_
          refine z_iconst hC9 dX10_platformTold_194 ?_
          refine z_iload_n hC9 3 rfl dX10_platformTold_195 rfl ?_
          refine z_iastore hC9 0 (5) (tmN_25 ad9 tc _) (tysN_0 tc) (okN_25 (by omega)) (rfl) (by omega) (by decide) dX10_platformTold_196 ?_
          refine z_dup hC9 dX10_platformTold_197 rfl ?_
          refine z_bipush hC9 dX10_platformTold_198 (by decide) ?_
          refine z_iload hC9 4 rfl dX10_platformTold_200 ?_
          refine z_iastore hC9 0 (6) (tmN_25 ad9 tc _) (tysN_0 tc) (okN_25 (by omega)) (rfl) (by omega) (by decide) dX10_platformTold_202 ?_
          refine z_dup hC9 dX10_platformTold_203 rfl ?_
          refine z_bipush hC9 dX10_platformTold_204 (by decide) ?_
          refine z_iload hC9 5 rfl dX10_platformTold_206 ?_
          refine z_iastore hC9 0 (7) (tmN_25 ad9 tc _) (tysN_0 tc) (okN_25 (by omega)) (rfl) (by omega) (by decide) dX10_platformTold_208 ?_
          refine z_astore hC9 (L' := [(6, .ref (ad9 25 0)), (0, .ref (ad9 0 0)), (1, iv n), (2, iv w), (3, iv (zcnt (fun x9 => M 4 0 x9 = n) (M 0 0 5).toNat)), (4, iv (zcnt (fun x9 => M 5 0 x9 = n) (M 0 0 5).toNat)), (5, iv (zcnt (fun x9 => M 20 0 x9 = 2 ∧ M 10 0 x9 = n) ((M 0 0 10).toNat)))]) dX10_platformTold_209 (by decide) rfl ?_
          refine z_aload hC9 0 rfl dX10_platformTold_211 ?_
          refine z_iload_n hC9 3 rfl dX10_platformTold_213 rfl ?_
          refine z_iaload hC9 0 ((w).toNat) (tmN_25 ad9 tc _) (tysN_0 tc) (okN_25 (by omega)) (by omega) (by omega) (by decide) (x := (zup (zup (zup (zup (zup (zup (zup (zup (z0 M) 25 0 0 (M 1 0 ((n).toNat))) 25 0 1 (M 2 0 ((n).toNat))) 25 0 2 (M 3 0 ((n).toNat))) 25 0 3 (M 18 0 ((n).toNat))) 25 0 4 (-1)) 25 0 5 (zcnt (fun x9 => M 4 0 x9 = n) (M 0 0 5).toNat)) 25 0 6 (zcnt (fun x9 => M 5 0 x9 = n) (M 0 0 5).toNat)) 25 0 7 (zcnt (fun x9 => M 20 0 x9 = 2 ∧ M 10 0 x9 = n) ((M 0 0 10).toNat))) 25 0 ((w).toNat)) (rfl) dX10_platformTold_214 ?_
          exact z_iretN hC9 had hret hlk rfl (by rcases (show w = 0 ∨ w = 1 ∨ w = 2 ∨ w = 3 ∨ w = 4 ∨ w = 5 ∨ w = 6 ∨ w = 7 by omega) with rfl | rfl | rfl | rfl | rfl | rfl | rfl | rfl <;> first | rfl | exact (if_pos (by assumption)).symm | exact (if_neg (by assumption)).symm) (fun f h => by intro q9; (repeat rw [zup_fr (okM_ne q9)]); rw [z0_fr (okM_ne q9)]) ⟨by decide, by decide⟩ dX10_platformTold_215
      · skip
        refine z_iload hC 5 rfl dX10_platformTold_78 ?_
        refine z_aload_n hC 0 rfl dX10_platformTold_80 rfl ?_
        refine z_getR hC zfX10_45 (tmM_0 ad tc _) (okM_0 (by omega)) rfl dX10_platformTold_81 ?_
        refine z_getRN hC zfX10_98 (tmM_11 ad tc _) (okM_11 (by omega)) rfl dX10_platformTold_84 ?_
        refine z_iload hC 6 rfl dX10_platformTold_87 ?_
        have hq8 : 0 ≤ M 20 0 j ∧ M 20 0 j ≤ 3 := hW.1 20 0 j
        refine z_iaload hC 0 (j) (tmM_20 ad tc _) (tysM_0 tc) (okM_20 (by omega)) (rfl) (by omega) (by decide) (x := M 20 0 j) (rfl) dX10_platformTold_89 ?_
        refine z_iconst hC dX10_platformTold_90 ?_
        refine z_icmp_ne hC 109 dX10_platformTold_91 (by decide) (by omega) (by omega) (fun c91 => ?_) (fun c91 => ?_)
        · skip
          refine z_iconst hC dX10_platformTold_109 ?_
          refine z_iadd hC dX10_platformTold_110 ?_
          refine z_istore hC (L' := [(5, iv ((zcnt (fun x9 => M 20 0 x9 = 2 ∧ M 10 0 x9 = n) j) + 0)), (0, .ref (ad 0 0)), (1, iv n), (2, iv w), (3, iv (zcnt (fun x9 => M 4 0 x9 = n) (M 0 0 5).toNat)), (4, iv (zcnt (fun x9 => M 5 0 x9 = n) (M 0 0 5).toNat)), (6, iv ((j : Nat) : Int))]) dX10_platformTold_111 (by decide) rfl ?_
          refine z_iinc hC 6 (L' := [(6, iv (((j : Nat) : Int) + 1)), (5, iv ((zcnt (fun x9 => M 20 0 x9 = 2 ∧ M 10 0 x9 = n) j) + 0)), (0, .ref (ad 0 0)), (1, iv n), (2, iv w), (3, iv (zcnt (fun x9 => M 4 0 x9 = n) (M 0 0 5).toNat)), (4, iv (zcnt (fun x9 => M 5 0 x9 = n) (M 0 0 5).toNat))]) dX10_platformTold_113 rfl (by decide) rfl ?_
          refine z_goto hC 69 dX10_platformTold_116 (by decide) ?_
          refine z_perm [2, 3, 4, 5, 6, 1, 0] (L' := [(0, .ref (ad 0 0)), (1, iv n), (2, iv w), (3, iv (zcnt (fun x9 => M 4 0 x9 = n) (M 0 0 5).toNat)), (4, iv (zcnt (fun x9 => M 5 0 x9 = n) (M 0 0 5).toNat)), (5, iv ((zcnt (fun x9 => M 20 0 x9 = 2 ∧ M 10 0 x9 = n) j) + 0)), (6, iv (((j : Nat) : Int) + 1))]) rfl ?_
          exact z_conv (ih69 _ (by omega) (j + 1) (by omega) rfl) (by rfl) (by simp only [zcnt]; simp [*]) (by rfl)
        · skip
          refine z_aload_n hC 0 rfl dX10_platformTold_94 rfl ?_
          refine z_getR hC zfX10_37 (tmM_0 ad tc _) (okM_0 (by omega)) rfl dX10_platformTold_95 ?_
          refine z_iload hC 6 rfl dX10_platformTold_98 ?_
          have hq9 : 0 ≤ M 10 0 j ∧ M 10 0 j ≤ 7 := hW.1 10 0 j
          refine z_iaload hC 0 (j) (tmM_10 ad tc _) (tysM_0 tc) (okM_10 (by omega)) (rfl) (by omega) (by decide) (x := M 10 0 j) (rfl) dX10_platformTold_100 ?_
          refine z_iload_n hC 1 rfl dX10_platformTold_101 rfl ?_
          refine z_icmp_ne hC 109 dX10_platformTold_102 (by decide) (by omega) (by omega) (fun c102 => ?_) (fun c102 => ?_)
          · skip
            refine z_iconst hC dX10_platformTold_109 ?_
            refine z_iadd hC dX10_platformTold_110 ?_
            refine z_istore hC (L' := [(5, iv ((zcnt (fun x9 => M 20 0 x9 = 2 ∧ M 10 0 x9 = n) j) + 0)), (0, .ref (ad 0 0)), (1, iv n), (2, iv w), (3, iv (zcnt (fun x9 => M 4 0 x9 = n) (M 0 0 5).toNat)), (4, iv (zcnt (fun x9 => M 5 0 x9 = n) (M 0 0 5).toNat)), (6, iv ((j : Nat) : Int))]) dX10_platformTold_111 (by decide) rfl ?_
            refine z_iinc hC 6 (L' := [(6, iv (((j : Nat) : Int) + 1)), (5, iv ((zcnt (fun x9 => M 20 0 x9 = 2 ∧ M 10 0 x9 = n) j) + 0)), (0, .ref (ad 0 0)), (1, iv n), (2, iv w), (3, iv (zcnt (fun x9 => M 4 0 x9 = n) (M 0 0 5).toNat)), (4, iv (zcnt (fun x9 => M 5 0 x9 = n) (M 0 0 5).toNat))]) dX10_platformTold_113 rfl (by decide) rfl ?_
            refine z_goto hC 69 dX10_platformTold_116 (by decide) ?_
            refine z_perm [2, 3, 4, 5, 6, 1, 0] (L' := [(0, .ref (ad 0 0)), (1, iv n), (2, iv w), (3, iv (zcnt (fun x9 => M 4 0 x9 = n) (M 0 0 5).toNat)), (4, iv (zcnt (fun x9 => M 5 0 x9 = n) (M 0 0 5).toNat)), (5, iv ((zcnt (fun x9 => M 20 0 x9 = 2 ∧ M 10 0 x9 = n) j) + 0)), (6, iv (((j : Nat) : Int) + 1))]) rfl ?_
            exact z_conv (ih69 _ (by omega) (j + 1) (by omega) rfl) (by rfl) (by simp only [zcnt]; simp [*]) (by rfl)
          · skip
            refine z_iconst hC dX10_platformTold_105 ?_
            refine z_goto hC 110 dX10_platformTold_106 (by decide) ?_
            refine z_iadd hC dX10_platformTold_110 ?_
            refine z_istore hC (L' := [(5, iv ((zcnt (fun x9 => M 20 0 x9 = 2 ∧ M 10 0 x9 = n) j) + 1)), (0, .ref (ad 0 0)), (1, iv n), (2, iv w), (3, iv (zcnt (fun x9 => M 4 0 x9 = n) (M 0 0 5).toNat)), (4, iv (zcnt (fun x9 => M 5 0 x9 = n) (M 0 0 5).toNat)), (6, iv ((j : Nat) : Int))]) dX10_platformTold_111 (by decide) rfl ?_
            refine z_iinc hC 6 (L' := [(6, iv (((j : Nat) : Int) + 1)), (5, iv ((zcnt (fun x9 => M 20 0 x9 = 2 ∧ M 10 0 x9 = n) j) + 1)), (0, .ref (ad 0 0)), (1, iv n), (2, iv w), (3, iv (zcnt (fun x9 => M 4 0 x9 = n) (M 0 0 5).toNat)), (4, iv (zcnt (fun x9 => M 5 0 x9 = n) (M 0 0 5).toNat))]) dX10_platformTold_113 rfl (by decide) rfl ?_
            refine z_goto hC 69 dX10_platformTold_116 (by decide) ?_
            refine z_perm [2, 3, 4, 5, 6, 1, 0] (L' := [(0, .ref (ad 0 0)), (1, iv n), (2, iv w), (3, iv (zcnt (fun x9 => M 4 0 x9 = n) (M 0 0 5).toNat)), (4, iv (zcnt (fun x9 => M 5 0 x9 = n) (M 0 0 5).toNat)), (5, iv ((zcnt (fun x9 => M 20 0 x9 = 2 ∧ M 10 0 x9 = n) j) + 1)), (6, iv (((j : Nat) : Int) + 1))]) rfl ?_
            exact z_conv (ih69 _ (by omega) (j + 1) (by omega) rfl) (by rfl) (by simp only [zcnt]; simp [*]) (by rfl)
  have hc11 : ∀ (d11 : Nat) (j : Nat) (hj : j ≤ (M 0 0 5).toNat), (M 0 0 5).toNat - j = d11 → zV p l e (zrm 0 1 8) s m args below meth c (MQ below (zQi D ad okM (tmM ad tc) (platToldM M n w) M (zA ad okM s.heap.size)) args s 1 8 (zA ad okM s.heap.size)) D ad okM (tmM ad tc) (zA ad okM s.heap.size) s.heap 7 0 0 M [(0, .ref (ad 0 0)), (1, iv n), (2, iv w), (3, iv (zcnt (fun x9 => M 4 0 x9 = n) j)), (4, iv (zcnt (fun x9 => M 5 0 x9 = n) j)), (5, iv 0), (6, iv ((j : Nat) : Int))] 11 [] := by
    intro d11
    induction d11 using Nat.strongRecOn with
    | _ d11 ih11 =>
      intro j hj hd11
      refine z_iload hC 6 rfl dX10_platformTold_11 ?_
      refine z_aload_n hC 0 rfl dX10_platformTold_13 rfl ?_
      have hq10 : 0 ≤ M 0 0 5 ∧ M 0 0 5 ≤ 12 := hW.1 0 0 5
      refine z_getI hC zfX10_63 (tmM_0 ad tc _) (okM_0 (by omega)) rfl (x := M 0 0 5) (rfl) dX10_platformTold_14 ?_
      refine z_icmp_ge hC 66 dX10_platformTold_17 (by decide) (by omega) (by omega) (fun c17 => ?_) (fun c17 => ?_)
      · skip
        have he : j = (M 0 0 5).toNat := by omega
        subst he
        refine z_iconst hC dX10_platformTold_66 ?_
        refine z_istore hC (L' := [(6, iv 0), (0, .ref (ad 0 0)), (1, iv n), (2, iv w), (3, iv (zcnt (fun x9 => M 4 0 x9 = n) ((M 0 0 5).toNat))), (4, iv (zcnt (fun x9 => M 5 0 x9 = n) ((M 0 0 5).toNat))), (5, iv 0)]) dX10_platformTold_67 (by decide) rfl ?_
        refine z_perm [1, 2, 3, 4, 5, 6, 0] (L' := [(0, .ref (ad 0 0)), (1, iv n), (2, iv w), (3, iv (zcnt (fun x9 => M 4 0 x9 = n) ((M 0 0 5).toNat))), (4, iv (zcnt (fun x9 => M 5 0 x9 = n) ((M 0 0 5).toNat))), (5, iv 0), (6, iv 0)]) rfl ?_
        exact z_conv (hc69 _ 0 (by omega) rfl) (by rfl) (by rfl) (by rfl)
      · skip
        refine z_iload_n hC 3 rfl dX10_platformTold_20 rfl ?_
        refine z_aload_n hC 0 rfl dX10_platformTold_21 rfl ?_
        refine z_getR hC zfX10_19 (tmM_0 ad tc _) (okM_0 (by omega)) rfl dX10_platformTold_22 ?_
        refine z_iload hC 6 rfl dX10_platformTold_25 ?_
        have hq11 : 0 ≤ M 4 0 j ∧ M 4 0 j ≤ 7 := hW.1 4 0 j
        refine z_iaload hC 0 (j) (tmM_4 ad tc _) (tysM_0 tc) (okM_4 (by omega)) (rfl) (by omega) (by decide) (x := M 4 0 j) (rfl) dX10_platformTold_27 ?_
        refine z_iload_n hC 1 rfl dX10_platformTold_28 rfl ?_
        refine z_icmp_ne hC 36 dX10_platformTold_29 (by decide) (by omega) (by omega) (fun c29 => ?_) (fun c29 => ?_)
        · skip
          refine z_iconst hC dX10_platformTold_36 ?_
          refine z_iadd hC dX10_platformTold_37 ?_
          refine z_istore_n hC (L' := [(3, iv ((zcnt (fun x9 => M 4 0 x9 = n) j) + 0)), (0, .ref (ad 0 0)), (1, iv n), (2, iv w), (4, iv (zcnt (fun x9 => M 5 0 x9 = n) j)), (5, iv 0), (6, iv ((j : Nat) : Int))]) dX10_platformTold_38 rfl (by decide) rfl ?_
          refine z_iload hC 4 rfl dX10_platformTold_39 ?_
          refine z_aload_n hC 1 rfl dX10_platformTold_41 rfl ?_
          refine z_getR hC zfX10_22 (tmM_0 ad tc _) (okM_0 (by omega)) rfl dX10_platformTold_42 ?_
          refine z_iload hC 6 rfl dX10_platformTold_45 ?_
          have hq12 : 0 ≤ M 5 0 j ∧ M 5 0 j ≤ 7 := hW.1 5 0 j
          refine z_iaload hC 0 (j) (tmM_5 ad tc _) (tysM_0 tc) (okM_5 (by omega)) (rfl) (by omega) (by decide) (x := M 5 0 j) (rfl) dX10_platformTold_47 ?_
          refine z_iload_n hC 2 rfl dX10_platformTold_48 rfl ?_
          refine z_icmp_ne hC 56 dX10_platformTold_49 (by decide) (by omega) (by omega) (fun c49 => ?_) (fun c49 => ?_)
          · skip
            refine z_iconst hC dX10_platformTold_56 ?_
            refine z_iadd hC dX10_platformTold_57 ?_
            refine z_istore hC (L' := [(4, iv ((zcnt (fun x9 => M 5 0 x9 = n) j) + 0)), (3, iv ((zcnt (fun x9 => M 4 0 x9 = n) j) + 0)), (0, .ref (ad 0 0)), (1, iv n), (2, iv w), (5, iv 0), (6, iv ((j : Nat) : Int))]) dX10_platformTold_58 (by decide) rfl ?_
            refine z_iinc hC 6 (L' := [(6, iv (((j : Nat) : Int) + 1)), (4, iv ((zcnt (fun x9 => M 5 0 x9 = n) j) + 0)), (3, iv ((zcnt (fun x9 => M 4 0 x9 = n) j) + 0)), (0, .ref (ad 0 0)), (1, iv n), (2, iv w), (5, iv 0)]) dX10_platformTold_60 rfl (by decide) rfl ?_
            refine z_goto hC 11 dX10_platformTold_63 (by decide) ?_
            refine z_perm [3, 4, 5, 2, 1, 6, 0] (L' := [(0, .ref (ad 0 0)), (1, iv n), (2, iv w), (3, iv ((zcnt (fun x9 => M 4 0 x9 = n) j) + 0)), (4, iv ((zcnt (fun x9 => M 5 0 x9 = n) j) + 0)), (5, iv 0), (6, iv (((j : Nat) : Int) + 1))]) rfl ?_
            exact z_conv (ih11 _ (by omega) (j + 1) (by omega) rfl) (by rfl) (by simp only [zcnt]; simp [*]) (by rfl)
          · skip
            refine z_iconst hC dX10_platformTold_52 ?_
            refine z_goto hC 57 dX10_platformTold_53 (by decide) ?_
            refine z_iadd hC dX10_platformTold_57 ?_
            refine z_istore hC (L' := [(4, iv ((zcnt (fun x9 => M 5 0 x9 = n) j) + 1)), (3, iv ((zcnt (fun x9 => M 4 0 x9 = n) j) + 0)), (0, .ref (ad 0 0)), (1, iv n), (2, iv w), (5, iv 0), (6, iv ((j : Nat) : Int))]) dX10_platformTold_58 (by decide) rfl ?_
            refine z_iinc hC 6 (L' := [(6, iv (((j : Nat) : Int) + 1)), (4, iv ((zcnt (fun x9 => M 5 0 x9 = n) j) + 1)), (3, iv ((zcnt (fun x9 => M 4 0 x9 = n) j) + 0)), (0, .ref (ad 0 0)), (1, iv n), (2, iv w), (5, iv 0)]) dX10_platformTold_60 rfl (by decide) rfl ?_
            refine z_goto hC 11 dX10_platformTold_63 (by decide) ?_
            refine z_perm [3, 4, 5, 2, 1, 6, 0] (L' := [(0, .ref (ad 0 0)), (1, iv n), (2, iv w), (3, iv ((zcnt (fun x9 => M 4 0 x9 = n) j) + 0)), (4, iv ((zcnt (fun x9 => M 5 0 x9 = n) j) + 1)), (5, iv 0), (6, iv (((j : Nat) : Int) + 1))]) rfl ?_
            exact z_conv (ih11 _ (by omega) (j + 1) (by omega) rfl) (by rfl) (by simp only [zcnt]; simp [*]) (by rfl)
        · skip
          refine z_iconst hC dX10_platformTold_32 ?_
          refine z_goto hC 37 dX10_platformTold_33 (by decide) ?_
          refine z_iadd hC dX10_platformTold_37 ?_
          refine z_istore_n hC (L' := [(3, iv ((zcnt (fun x9 => M 4 0 x9 = n) j) + 1)), (0, .ref (ad 0 0)), (1, iv n), (2, iv w), (4, iv (zcnt (fun x9 => M 5 0 x9 = n) j)), (5, iv 0), (6, iv ((j : Nat) : Int))]) dX10_platformTold_38 rfl (by decide) rfl ?_
          refine z_iload hC 4 rfl dX10_platformTold_39 ?_
          refine z_aload_n hC 1 rfl dX10_platformTold_41 rfl ?_
          refine z_getR hC zfX10_22 (tmM_0 ad tc _) (okM_0 (by omega)) rfl dX10_platformTold_42 ?_
          refine z_iload hC 6 rfl dX10_platformTold_45 ?_
          have hq13 : 0 ≤ M 5 0 j ∧ M 5 0 j ≤ 7 := hW.1 5 0 j
          refine z_iaload hC 0 (j) (tmM_5 ad tc _) (tysM_0 tc) (okM_5 (by omega)) (rfl) (by omega) (by decide) (x := M 5 0 j) (rfl) dX10_platformTold_47 ?_
          refine z_iload_n hC 2 rfl dX10_platformTold_48 rfl ?_
          refine z_icmp_ne hC 56 dX10_platformTold_49 (by decide) (by omega) (by omega) (fun c49 => ?_) (fun c49 => ?_)
          · skip
            refine z_iconst hC dX10_platformTold_56 ?_
            refine z_iadd hC dX10_platformTold_57 ?_
            refine z_istore hC (L' := [(4, iv ((zcnt (fun x9 => M 5 0 x9 = n) j) + 0)), (3, iv ((zcnt (fun x9 => M 4 0 x9 = n) j) + 1)), (0, .ref (ad 0 0)), (1, iv n), (2, iv w), (5, iv 0), (6, iv ((j : Nat) : Int))]) dX10_platformTold_58 (by decide) rfl ?_
            refine z_iinc hC 6 (L' := [(6, iv (((j : Nat) : Int) + 1)), (4, iv ((zcnt (fun x9 => M 5 0 x9 = n) j) + 0)), (3, iv ((zcnt (fun x9 => M 4 0 x9 = n) j) + 1)), (0, .ref (ad 0 0)), (1, iv n), (2, iv w), (5, iv 0)]) dX10_platformTold_60 rfl (by decide) rfl ?_
            refine z_goto hC 11 dX10_platformTold_63 (by decide) ?_
            refine z_perm [3, 4, 5, 2, 1, 6, 0] (L' := [(0, .ref (ad 0 0)), (1, iv n), (2, iv w), (3, iv ((zcnt (fun x9 => M 4 0 x9 = n) j) + 1)), (4, iv ((zcnt (fun x9 => M 5 0 x9 = n) j) + 0)), (5, iv 0), (6, iv (((j : Nat) : Int) + 1))]) rfl ?_
            exact z_conv (ih11 _ (by omega) (j + 1) (by omega) rfl) (by rfl) (by simp only [zcnt]; simp [*]) (by rfl)
          · skip
            refine z_iconst hC dX10_platformTold_52 ?_
            refine z_goto hC 57 dX10_platformTold_53 (by decide) ?_
            refine z_iadd hC dX10_platformTold_57 ?_
            refine z_istore hC (L' := [(4, iv ((zcnt (fun x9 => M 5 0 x9 = n) j) + 1)), (3, iv ((zcnt (fun x9 => M 4 0 x9 = n) j) + 1)), (0, .ref (ad 0 0)), (1, iv n), (2, iv w), (5, iv 0), (6, iv ((j : Nat) : Int))]) dX10_platformTold_58 (by decide) rfl ?_
            refine z_iinc hC 6 (L' := [(6, iv (((j : Nat) : Int) + 1)), (4, iv ((zcnt (fun x9 => M 5 0 x9 = n) j) + 1)), (3, iv ((zcnt (fun x9 => M 4 0 x9 = n) j) + 1)), (0, .ref (ad 0 0)), (1, iv n), (2, iv w), (5, iv 0)]) dX10_platformTold_60 rfl (by decide) rfl ?_
            refine z_goto hC 11 dX10_platformTold_63 (by decide) ?_
            refine z_perm [3, 4, 5, 2, 1, 6, 0] (L' := [(0, .ref (ad 0 0)), (1, iv n), (2, iv w), (3, iv ((zcnt (fun x9 => M 4 0 x9 = n) j) + 1)), (4, iv ((zcnt (fun x9 => M 5 0 x9 = n) j) + 1)), (5, iv 0), (6, iv (((j : Nat) : Int) + 1))]) rfl ?_
            exact z_conv (ih11 _ (by omega) (j + 1) (by omega) rfl) (by rfl) (by simp only [zcnt]; simp [*]) (by rfl)
  refine z_iconst hC dX10_platformTold_0 ?_
  refine z_istore_n hC (L' := [(3, iv 0), (0, .ref (ad 0 0)), (1, iv n), (2, iv w)]) dX10_platformTold_1 rfl (by decide) rfl ?_
  refine z_iconst hC dX10_platformTold_2 ?_
  refine z_istore hC (L' := [(4, iv 0), (3, iv 0), (0, .ref (ad 0 0)), (1, iv n), (2, iv w)]) dX10_platformTold_3 (by decide) rfl ?_
  refine z_iconst hC dX10_platformTold_5 ?_
  refine z_istore hC (L' := [(5, iv 0), (4, iv 0), (3, iv 0), (0, .ref (ad 0 0)), (1, iv n), (2, iv w)]) dX10_platformTold_6 (by decide) rfl ?_
  refine z_iconst hC dX10_platformTold_8 ?_
  refine z_istore hC (L' := [(6, iv 0), (5, iv 0), (4, iv 0), (3, iv 0), (0, .ref (ad 0 0)), (1, iv n), (2, iv w)]) dX10_platformTold_9 (by decide) rfl ?_
  refine z_perm [4, 5, 6, 3, 2, 1, 0] (L' := [(0, .ref (ad 0 0)), (1, iv n), (2, iv w), (3, iv 0), (4, iv 0), (5, iv 0), (6, iv 0)]) rfl ?_
  exact z_conv (hc11 _ 0 (by omega) rfl) (by rfl) (by rfl) (by rfl)
set_option maxHeartbeats 4000000 in
set_option maxRecDepth 100000 in
theorem k_X10_counted (l : Launch) (D : va_G) (tc : Nat → ClassId) (ad : Nat → Nat → Nat) (hI : zI ad okM) (M : zM) {T U : Int} (w : Int) (hW : WTM T U M) (hw : 0 ≤ w ∧ w ≤ 9) : zMi l yX10_counted cX10_counted 5 (some .int) 1 D (tysM tc) ad okM (tmM ad tc) [.ref (ad 0 0), iv w] M (countedM M w) M 1 10 := by
  have hlc : 0 ≤ M 0 0 5 ∧ M 0 0 5 ≤ 12 := hW.1 0 0 5
  refine z_met hI (plainFor_of_name (by decide)) (Nat.le_of_ble_eq_true rfl) ?_
  intro p e s m args below meth c hC hret hlk
  refine z_conv (L2 := [(0, .ref (ad 0 0)), (1, iv w)]) ?_ rfl rfl rfl
  have hc7 : ∀ (d7 : Nat) (j : Nat) (hj : j ≤ (M 0 0 5).toNat), (M 0 0 5).toNat - j = d7 → zV p l e (zrm 1 1 10) s m args below meth c (MQ below (zQi D ad okM (tmM ad tc) (countedM M w) M (zA ad okM s.heap.size)) args s 1 10 (zA ad okM s.heap.size)) D ad okM (tmM ad tc) (zA ad okM s.heap.size) s.heap 5 0 0 M [(0, .ref (ad 0 0)), (1, iv w), (2, iv (zsum (fun x9 => M 12 0 x9) j)), (3, iv (zsum (fun x9 => M 16 0 x9) j)), (4, iv ((j : Nat) : Int))] 7 [] := by
    intro d7
    induction d7 using Nat.strongRecOn with
    | _ d7 ih7 =>
      intro j hj hd7
      refine z_iload hC 4 rfl dX10_counted_7 ?_
      refine z_aload_n hC 0 rfl dX10_counted_9 rfl ?_
      have hq1 : 0 ≤ M 0 0 5 ∧ M 0 0 5 ≤ 12 := hW.1 0 0 5
      refine z_getI hC zfX10_63 (tmM_0 ad tc _) (okM_0 (by omega)) rfl (x := M 0 0 5) (rfl) dX10_counted_10 ?_
      refine z_icmp_ge hC 48 dX10_counted_13 (by decide) (by omega) (by omega) (fun c13 => ?_) (fun c13 => ?_)
      · skip
        have he : j = (M 0 0 5).toNat := by omega
        subst he
        refine z_bipush hC dX10_counted_48 (by decide) ?_
        refine z_newN hC 10 (by decide) ⟨by decide, by decide⟩ dX10_counted_50 (fun b9 hI9 hC9 => ?_)
        refine z_conv (L2 := [(0, .ref (adN ad b9 0 0)), (1, iv w), (2, iv (zsum (fun x9 => M 12 0 x9) ((M 0 0 5).toNat))), (3, iv (zsum (fun x9 => M 16 0 x9) ((M 0 0 5).toNat))), (4, iv ((((M 0 0 5).toNat) : Nat) : Int))]) (St2 := [.ref (adN ad b9 25 0)]) ?_ rfl rfl rfl
        obtain ⟨ad9, had⟩ : ∃ x, x = adN ad b9 := ⟨_, rfl⟩
        rw [← had] at hI9 hC9 ⊢
        refine z_dup hC9 dX10_counted_52 rfl ?_
        refine z_iconst hC9 dX10_counted_53 ?_
        refine z_aload_n hC9 0 rfl dX10_counted_54 rfl ?_
        refine z_getR hC9 zfX10_45 (tmN_0 ad9 tc _) (okN_0 (by omega)) rfl dX10_counted_55 ?_
        have hq2 : 0 ≤ M 11 0 0 ∧ M 11 0 0 ≤ T := hW.1 11 0 0
        refine z_getIN hC9 zfX10_123 (tmN_11 ad9 tc _) (okN_11 (by omega)) rfl (x := M 11 0 0) (by simp [zup, z0_fr (f := 11) (by decide)]) dX10_counted_58 ?_
        refine z_iastore hC9 0 (0) (tmN_25 ad9 tc _) (tysN_0 tc) (okN_25 (by omega)) (rfl) (by omega) (by decide) dX10_counted_61 ?_
        refine z_dup hC9 dX10_counted_62 rfl ?_
        refine z_iconst hC9 dX10_counted_63 ?_
        refine z_aload_n hC9 0 rfl dX10_counted_64 rfl ?_
        have hq3 : 0 ≤ M 0 0 1 ∧ M 0 0 1 ≤ 8 := hW.1 0 0 1
        refine z_getI hC9 zfX10_56 (tmN_0 ad9 tc _) (okN_0 (by omega)) rfl (x := M 0 0 1) (by simp [zup, z0_fr (f := 0) (by decide)]) dX10_counted_65 ?_
        refine z_iastore hC9 0 (1) (tmN_25 ad9 tc _) (tysN_0 tc) (okN_25 (by omega)) (rfl) (by omega) (by decide) dX10_counted_68 ?_
        refine z_dup hC9 dX10_counted_69 rfl ?_
        refine z_iconst hC9 dX10_counted_70 ?_
        refine z_aload_n hC9 0 rfl dX10_counted_71 rfl ?_
        have hq4 : 0 ≤ M 0 0 5 ∧ M 0 0 5 ≤ 12 := hW.1 0 0 5
        refine z_getI hC9 zfX10_63 (tmN_0 ad9 tc _) (okN_0 (by omega)) rfl (x := M 0 0 5) (by simp [zup, z0_fr (f := 0) (by decide)]) dX10_counted_72 ?_
        refine z_iastore hC9 0 (2) (tmN_25 ad9 tc _) (tysN_0 tc) (okN_25 (by omega)) (rfl) (by omega) (by decide) dX10_counted_75 ?_
        refine z_dup hC9 dX10_counted_76 rfl ?_
        refine z_iconst hC9 dX10_counted_77 ?_
        refine z_aload_n hC9 0 rfl dX10_counted_78 rfl ?_
        have hq5 : 0 ≤ M 0 0 10 ∧ M 0 0 10 ≤ 12 := hW.1 0 0 10
        refine z_getI hC9 zfX10_95 (tmN_0 ad9 tc _) (okN_0 (by omega)) rfl (x := M 0 0 10) (by simp [zup, z0_fr (f := 0) (by decide)]) dX10_counted_79 ?_
        refine z_iastore hC9 0 (3) (tmN_25 ad9 tc _) (tysN_0 tc) (okN_25 (by omega)) (rfl) (by omega) (by decide) dX10_counted_82 ?_
        refine z_dup hC9 dX10_counted_83 rfl ?_
        refine z_iconst hC9 dX10_counted_84 ?_
        refine z_aload_n hC9 0 rfl dX10_counted_85 rfl ?_
        refine z_getR hC9 zfX10_45 (tmN_0 ad9 tc _) (okN_0 (by omega)) rfl dX10_counted_86 ?_
        refine z_iconst hC9 dX10_counted_89 ?_
        refine z_callVi hC9 zlX10_168 (z_embi (zEmbN hI9 (fun f h => by intro q9; (repeat rw [zup_fr (okM_ne q9)]); rw [z0_fr (okM_ne q9)])) (fun _ h => h) (k_X9_many l D tc ad9 (zI_N hI9) M 0 0 (by omega) hW (by omega))) (tmN_11 ad9 tc _) rfl (okN_11 (by omega)) rfl rfl (Nat.le_of_ble_eq_true rfl) ⟨by decide, by decide⟩ ⟨by decide, by decide⟩ dX10_counted_90 ?_
        refine z_iastore hC9 0 (4) (tmN_25 ad9 tc _) (tysN_0 tc) (okN_25 (by omega)) (rfl) (by omega) (by decide) dX10_counted_93 ?_
        refine z_dup hC9 dX10_counted_94 rfl ?_
        refine z_iconst hC9 dX10_counted_95 ?_
        refine z_aload_n hC9 0 rfl dX10_counted_96 rfl ?_
        refine z_getR hC9 zfX10_45 (tmN_0 ad9 tc _) (okN_0 (by omega)) rfl dX10_counted_97 ?_
        refine z_iconst hC9 dX10_counted_100 ?_
        refine z_callVi hC9 zlX10_168 (z_embi (zEmbN hI9 (fun f h => by intro q9; (repeat rw [zup_fr (okM_ne q9)]); rw [z0_fr (okM_ne q9)])) (fun _ h => h) (k_X9_many l D tc ad9 (zI_N hI9) M 0 1 (by omega) hW (by omega))) (tmN_11 ad9 tc _) rfl (okN_11 (by omega)) rfl rfl (Nat.le_of_ble_eq_true rfl) ⟨by decide, by decide⟩ ⟨by decide, by decide⟩ dX10_counted_101 ?_
        refine z_iastore hC9 0 (5) (tmN_25 ad9 tc _) (tysN_0 tc) (okN_25 (by omega)) (rfl) (by omega) (by decide) dX10_counted_104 ?_
        refine z_dup hC9 dX10_counted_105 rfl ?_
        refine z_bipush hC9 dX10_counted_106 (by decide) ?_
        refine z_aload_n hC9 0 rfl dX10_counted_108 rfl ?_
        refine z_getR hC9 zfX10_45 (tmN_0 ad9 tc _) (okN_0 (by omega)) rfl dX10_counted_109 ?_
        refine z_iconst hC9 dX10_counted_112 ?_
        refine z_callVi hC9 zlX10_168 (z_embi (zEmbN hI9 (fun f h => by intro q9; (repeat rw [zup_fr (okM_ne q9)]); rw [z0_fr (okM_ne q9)])) (fun _ h => h) (k_X9_many l D tc ad9 (zI_N hI9) M 0 2 (by omega) hW (by omega))) (tmN_11 ad9 tc _) rfl (okN_11 (by omega)) rfl rfl (Nat.le_of_ble_eq_true rfl) ⟨by decide, by decide⟩ ⟨by decide, by decide⟩ dX10_counted_113 ?_
        refine z_iastore hC9 0 (6) (tmN_25 ad9 tc _) (tysN_0 tc) (okN_25 (by omega)) (rfl) (by omega) (by decide) dX10_counted_116 ?_
        refine z_dup hC9 dX10_counted_117 rfl ?_
        refine z_bipush hC9 dX10_counted_118 (by decide) ?_
        refine z_aload_n hC9 0 rfl dX10_counted_120 rfl ?_
        refine z_getR hC9 zfX10_45 (tmN_0 ad9 tc _) (okN_0 (by omega)) rfl dX10_counted_121 ?_
        refine z_iconst hC9 dX10_counted_124 ?_
        refine z_callVi hC9 zlX10_168 (z_embi (zEmbN hI9 (fun f h => by intro q9; (repeat rw [zup_fr (okM_ne q9)]); rw [z0_fr (okM_ne q9)])) (fun _ h => h) (k_X9_many l D tc ad9 (zI_N hI9) M 0 3 (by omega) hW (by omega))) (tmN_11 ad9 tc _) rfl (okN_11 (by omega)) rfl rfl (Nat.le_of_ble_eq_true rfl) ⟨by decide, by decide⟩ ⟨by decide, by decide⟩ dX10_counted_125 ?_
        refine z_iastore hC9 0 (7) (tmN_25 ad9 tc _) (tysN_0 tc) (okN_25 (by omega)) (rfl) (by omega) (by decide) dX10_counted_128 ?_
        refine z_dup hC9 dX10_counted_129 rfl ?_
        refine z_bipush hC9 dX10_counted_130 (by decide) ?_
        refine z_iload_n hC9 2 rfl dX10_counted_132 rfl ?_
        refine z_iastore hC9 0 (8) (tmN_25 ad9 tc _) (tysN_0 tc) (okN_25 (by omega)) (rfl) (by omega) (by decide) dX10_counted_133 ?_
        refine z_dup hC9 dX10_counted_134 rfl ?_
        refine z_bipush hC9 dX10_counted_135 (by decide) ?_
        refine z_iload_n hC9 3 rfl dX10_counted_137 rfl ?_
        refine z_iastore hC9 0 (9) (tmN_25 ad9 tc _) (tysN_0 tc) (okN_25 (by omega)) (rfl) (by omega) (by decide) dX10_counted_138 ?_
        refine z_astore hC9 (L' := [(4, .ref (ad9 25 0)), (0, .ref (ad9 0 0)), (1, iv w), (2, iv (zsum (fun x9 => M 12 0 x9) ((M 0 0 5).toNat))), (3, iv (zsum (fun x9 => M 16 0 x9) ((M 0 0 5).toNat)))]) dX10_counted_139 (by decide) rfl ?_
        refine z_aload hC9 0 rfl dX10_counted_141 ?_
        refine z_iload_n hC9 2 rfl dX10_counted_143 rfl ?_
        refine z_iaload hC9 0 ((w).toNat) (tmN_25 ad9 tc _) (tysN_0 tc) (okN_25 (by omega)) (by omega) (by omega) (by decide) (x := (zup (zup (zup (zup (zup (zup (zup (zup (zup (zup (z0 M) 25 0 0 (M 11 0 0)) 25 0 1 (M 0 0 1)) 25 0 2 (M 0 0 5)) 25 0 3 (M 0 0 10)) 25 0 4 (manyM M 0 0)) 25 0 5 (manyM M 0 1)) 25 0 6 (manyM M 0 2)) 25 0 7 (manyM M 0 3)) 25 0 8 (zsum (fun x9 => M 12 0 x9) ((M 0 0 5).toNat))) 25 0 9 (zsum (fun x9 => M 16 0 x9) ((M 0 0 5).toNat))) 25 0 ((w).toNat)) (rfl) dX10_counted_144 ?_
        exact z_iretN hC9 had hret hlk rfl (by rcases (show w = 0 ∨ w = 1 ∨ w = 2 ∨ w = 3 ∨ w = 4 ∨ w = 5 ∨ w = 6 ∨ w = 7 ∨ w = 8 ∨ w = 9 by omega) with rfl | rfl | rfl | rfl | rfl | rfl | rfl | rfl | rfl | rfl <;> rfl) (fun f h => by intro q9; (repeat rw [zup_fr (okM_ne q9)]); rw [z0_fr (okM_ne q9)]) ⟨by decide, by decide⟩ dX10_counted_145
      · skip
        refine z_iload_n hC 2 rfl dX10_counted_16 rfl ?_
        refine z_aload_n hC 0 rfl dX10_counted_17 rfl ?_
        refine z_getR hC zfX10_45 (tmM_0 ad tc _) (okM_0 (by omega)) rfl dX10_counted_18 ?_
        refine z_getRN hC zfX10_89 (tmM_11 ad tc _) (okM_11 (by omega)) rfl dX10_counted_21 ?_
        refine z_iload hC 4 rfl dX10_counted_24 ?_
        have hq6 : 0 ≤ M 12 0 j ∧ M 12 0 j ≤ 3 := hW.1 12 0 j
        refine z_iaload hC 0 (j) (tmM_12 ad tc _) (tysM_0 tc) (okM_12 (by omega)) (rfl) (by omega) (by decide) (x := M 12 0 j) (rfl) dX10_counted_26 ?_
        refine z_iadd hC dX10_counted_27 ?_
        refine z_istore_n hC (L' := [(2, iv ((zsum (fun x9 => M 12 0 x9) j) + (M 12 0 j))), (0, .ref (ad 0 0)), (1, iv w), (3, iv (zsum (fun x9 => M 16 0 x9) j)), (4, iv ((j : Nat) : Int))]) dX10_counted_28 rfl (by decide) rfl ?_
        refine z_iload_n hC 3 rfl dX10_counted_29 rfl ?_
        refine z_aload_n hC 1 rfl dX10_counted_30 rfl ?_
        refine z_getR hC zfX10_45 (tmM_0 ad tc _) (okM_0 (by omega)) rfl dX10_counted_31 ?_
        refine z_getRN hC zfX10_117 (tmM_11 ad tc _) (okM_11 (by omega)) rfl dX10_counted_34 ?_
        refine z_iload hC 4 rfl dX10_counted_37 ?_
        refine z_iaload hC 0 (j) (tmM_16 ad tc _) (tysM_0 tc) (okM_16 (by omega)) (rfl) (by omega) (by decide) (x := M 16 0 j) (rfl) dX10_counted_39 ?_
        refine z_iadd hC dX10_counted_40 ?_
        refine z_istore_n hC (L' := [(3, iv ((zsum (fun x9 => M 16 0 x9) j) + (M 16 0 j))), (2, iv ((zsum (fun x9 => M 12 0 x9) j) + (M 12 0 j))), (0, .ref (ad 0 0)), (1, iv w), (4, iv ((j : Nat) : Int))]) dX10_counted_41 rfl (by decide) rfl ?_
        refine z_iinc hC 4 (L' := [(4, iv (((j : Nat) : Int) + 1)), (3, iv ((zsum (fun x9 => M 16 0 x9) j) + (M 16 0 j))), (2, iv ((zsum (fun x9 => M 12 0 x9) j) + (M 12 0 j))), (0, .ref (ad 0 0)), (1, iv w)]) dX10_counted_42 rfl (by decide) rfl ?_
        refine z_goto hC 7 dX10_counted_45 (by decide) ?_
        refine z_perm [3, 4, 2, 1, 0] (L' := [(0, .ref (ad 0 0)), (1, iv w), (2, iv ((zsum (fun x9 => M 12 0 x9) j) + (M 12 0 j))), (3, iv ((zsum (fun x9 => M 16 0 x9) j) + (M 16 0 j))), (4, iv (((j : Nat) : Int) + 1))]) rfl ?_
        exact z_conv (ih7 _ (by omega) (j + 1) (by omega) rfl) (by rfl) (by rfl) (by rfl)
  refine z_iconst hC dX10_counted_0 ?_
  refine z_istore_n hC (L' := [(2, iv 0), (0, .ref (ad 0 0)), (1, iv w)]) dX10_counted_1 rfl (by decide) rfl ?_
  refine z_iconst hC dX10_counted_2 ?_
  refine z_istore_n hC (L' := [(3, iv 0), (2, iv 0), (0, .ref (ad 0 0)), (1, iv w)]) dX10_counted_3 rfl (by decide) rfl ?_
  refine z_iconst hC dX10_counted_4 ?_
  refine z_istore hC (L' := [(4, iv 0), (3, iv 0), (2, iv 0), (0, .ref (ad 0 0)), (1, iv w)]) dX10_counted_5 (by decide) rfl ?_
  refine z_perm [3, 4, 2, 1, 0] (L' := [(0, .ref (ad 0 0)), (1, iv w), (2, iv 0), (3, iv 0), (4, iv 0)]) rfl ?_
  exact z_conv (hc7 _ 0 (by omega) rfl) (by rfl) (by rfl) (by rfl)
