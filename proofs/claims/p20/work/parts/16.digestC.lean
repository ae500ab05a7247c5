set_option maxHeartbeats 4000000 in
set_option maxRecDepth 100000 in
theorem k_X8_digest (l : Launch) (D : va_G) (tc : Nat → ClassId) (ad : Nat → Nat → Nat) (hI : zI ad okC) (M : zM) {T U : Int}  (hW : WTC T U M) : zMl l yX8_digest cX8_digest 5 (some .long) 3 D (tysC tc) ad okC (tmC ad tc) [.ref (ad 0 0)] M (dg5 M) M 0 0 := by
  have hpc : 0 ≤ M 1 0 4 ∧ M 1 0 4 ≤ 8 := hW.1 1 0 4
  have hlc : 0 ≤ M 1 0 5 ∧ M 1 0 5 ≤ 12 := hW.1 1 0 5
  have hrc : 0 ≤ M 1 0 6 ∧ M 1 0 6 ≤ 12 := hW.1 1 0 6
  refine z_met hI (plainFor_of_name (by decide)) (Nat.le_of_ble_eq_true rfl) ?_
  intro p e s m args below meth c hC hret hlk
  refine z_conv (L2 := [(0, .ref (ad 0 0))]) ?_ rfl rfl rfl
  have hc140 : ∀ (d140 : Nat) (i : Nat) (hi : i ≤ (M 1 0 6).toNat), (M 1 0 6).toNat - i = d140 → zV p l e (zrm 3 0 0) s m args below meth c (MQ below (zQl D ad okC (tmC ad tc) (dg5 M) M (zA ad okC s.heap.size)) args s 0 0 (zA ad okC s.heap.size)) D ad okC (tmC ad tc) (zA ad okC s.heap.size) s.heap 5 0 0 M [(0, .ref (ad 0 0)), (1, .long (dgg (fun x9 d => dgo (fun w => riderFactC M x9 w) d 11) (dg4 M) i)), (3, iv ((i : Nat) : Int))] 140 [] := by
    intro d140
    induction d140 using Nat.strongRecOn with
    | _ d140 ih140 =>
      intro i hi hd140
      have hc154 : ∀ (d154 : Nat) (j : Nat) (hj : j ≤ 11) (hi2 : i < (M 1 0 6).toNat), 11 - j = d154 → zV p l e (zrm 3 0 0) s m args below meth c (MQ below (zQl D ad okC (tmC ad tc) (dg5 M) M (zA ad okC s.heap.size)) args s 0 0 (zA ad okC s.heap.size)) D ad okC (tmC ad tc) (zA ad okC s.heap.size) s.heap 5 0 0 M [(0, .ref (ad 0 0)), (1, .long (dgo (fun w => riderFactC M i w) (dgg (fun x9 d => dgo (fun w => riderFactC M x9 w) d 11) (dg4 M) i) j)), (3, iv ((i : Nat) : Int)), (4, iv ((j : Nat) : Int))] 154 [] := by
        intro d154
        induction d154 using Nat.strongRecOn with
        | _ d154 ih154 =>
          intro j hj hi2 hd154
          refine z_iload hC 3 rfl dX8_digest_154 ?_
          refine z_bipush hC dX8_digest_156 (by decide) ?_
          refine z_icmp_ge hC 182 dX8_digest_158 (by decide) (by omega) (by omega) (fun c158 => ?_) (fun c158 => ?_)
          · skip
            have he : j = 11 := by omega
            subst he
            refine z_iinc hC 2 (L' := [(3, iv (((i : Nat) : Int) + 1)), (0, .ref (ad 0 0)), (1, .long (dgo (fun w => riderFactC M i w) (dgg (fun x9 d => dgo (fun w => riderFactC M x9 w) d 11) (dg4 M) i) 11)), (4, iv ((11 : Nat) : Int))]) dX8_digest_182 rfl (by decide) rfl ?_
            refine z_goto hC 140 dX8_digest_185 (by decide) ?_
            refine z_perm [1, 2, 0] (L' := [(0, .ref (ad 0 0)), (1, .long (dgo (fun w => riderFactC M i w) (dgg (fun x9 d => dgo (fun w => riderFactC M x9 w) d 11) (dg4 M) i) 11)), (3, iv (((i : Nat) : Int) + 1))]) rfl ?_
            exact z_conv (ih140 _ (by omega) (i + 1) (by omega) rfl) (by rfl) (by rw [dgg_s]; rfl) (by rfl)
          · skip
            refine z_lload_n hC 1 rfl dX8_digest_161 rfl ?_
            refine z_ldc2 hC (v := (31 : Int64)) dX8_digest_162 (zin 431 (by decide +kernel) rfl) ?_
            refine z_lmul hC dX8_digest_165 ?_
            refine z_aload_n hC 0 rfl dX8_digest_166 rfl ?_
            refine z_iload_n hC 2 rfl dX8_digest_167 rfl ?_
            refine z_iload hC 3 rfl dX8_digest_168 ?_
            refine z_callVi hC zlX8_166 (k_X8_riderFact l D tc ad hI M ((i : Nat) : Int) ((j : Nat) : Int) hW (by omega) (by omega)) (tmC_0 ad tc _) rfl (okC_0 (by omega)) rfl rfl (Nat.le_of_ble_eq_true rfl) ⟨by decide, by decide⟩ ⟨by decide, by decide⟩ dX8_digest_170 ?_
            refine z_i2l hC dX8_digest_173 ?_
            refine z_ladd hC dX8_digest_174 ?_
            refine z_lstore_n hC (L' := [(1, .long (((dgo (fun w => riderFactC M i w) (dgg (fun x9 d => dgo (fun w => riderFactC M x9 w) d 11) (dg4 M) i) j) * (31 : Int64)) + ((Int32.ofInt (riderFactC M ((i : Nat) : Int) ((j : Nat) : Int))).toInt64))), (0, .ref (ad 0 0)), (3, iv ((i : Nat) : Int)), (4, iv ((j : Nat) : Int))]) dX8_digest_175 rfl (by decide) rfl ?_
            refine z_iinc hC 3 (L' := [(4, iv (((j : Nat) : Int) + 1)), (1, .long (((dgo (fun w => riderFactC M i w) (dgg (fun x9 d => dgo (fun w => riderFactC M x9 w) d 11) (dg4 M) i) j) * (31 : Int64)) + ((Int32.ofInt (riderFactC M ((i : Nat) : Int) ((j : Nat) : Int))).toInt64))), (0, .ref (ad 0 0)), (3, iv ((i : Nat) : Int))]) dX8_digest_176 rfl (by decide) rfl ?_
            refine z_goto hC 154 dX8_digest_179 (by decide) ?_
            refine z_perm [2, 1, 3, 0] (L' := [(0, .ref (ad 0 0)), (1, .long (((dgo (fun w => riderFactC M i w) (dgg (fun x9 d => dgo (fun w => riderFactC M x9 w) d 11) (dg4 M) i) j) * (31 : Int64)) + ((Int32.ofInt (riderFactC M ((i : Nat) : Int) ((j : Nat) : Int))).toInt64))), (3, iv ((i : Nat) : Int)), (4, iv (((j : Nat) : Int) + 1))]) rfl ?_
            exact z_conv (ih154 _ (by omega) (j + 1) (by omega) (by omega) rfl) (by rfl) (by rw [dgo_s]; rfl) (by rfl)
      refine z_iload_n hC 2 rfl dX8_digest_140 rfl ?_
      refine z_aload_n hC 0 rfl dX8_digest_141 rfl ?_
      refine z_getR hC zfX8_10 (tmC_0 ad tc _) (okC_0 (by omega)) rfl dX8_digest_142 ?_
      have hq1 : 0 ≤ M 1 0 6 ∧ M 1 0 6 ≤ 12 := hW.1 1 0 6
      refine z_getI hC zfX8_150 (tmC_1 ad tc _) (okC_1 (by omega)) rfl (x := M 1 0 6) (rfl) dX8_digest_145 ?_
      refine z_icmp_ge hC 188 dX8_digest_148 (by decide) (by omega) (by omega) (fun c148 => ?_) (fun c148 => ?_)
      · skip
        have he : i = (M 1 0 6).toNat := by omega
        subst he
        refine z_lload_n hC 1 rfl dX8_digest_188 rfl ?_
        exact z_lret hC hret hlk (by rfl) (by rfl) dX8_digest_189
      · skip
        refine z_iconst hC dX8_digest_151 ?_
        refine z_istore hC (L' := [(4, iv 0), (0, .ref (ad 0 0)), (1, .long (dgg (fun x9 d => dgo (fun w => riderFactC M x9 w) d 11) (dg4 M) i)), (3, iv ((i : Nat) : Int))]) dX8_digest_152 (by decide) rfl ?_
        refine z_perm [1, 2, 3, 0] (L' := [(0, .ref (ad 0 0)), (1, .long (dgg (fun x9 d => dgo (fun w => riderFactC M x9 w) d 11) (dg4 M) i)), (3, iv ((i : Nat) : Int)), (4, iv 0)]) rfl ?_
        exact z_conv (hc154 _ 0 (by omega) (by omega) rfl) (by rfl) (by rw [dgo_0]; rfl) (by rfl)
  have hc90 : ∀ (d90 : Nat) (i : Nat) (hi : i ≤ (M 1 0 5).toNat), (M 1 0 5).toNat - i = d90 → zV p l e (zrm 3 0 0) s m args below meth c (MQ below (zQl D ad okC (tmC ad tc) (dg5 M) M (zA ad okC s.heap.size)) args s 0 0 (zA ad okC s.heap.size)) D ad okC (tmC ad tc) (zA ad okC s.heap.size) s.heap 5 0 0 M [(0, .ref (ad 0 0)), (1, .long (dgg (fun x9 d => dgo (fun w => lineFactC M x9 w) d 11) (dg3 M) i)), (3, iv ((i : Nat) : Int))] 90 [] := by
    intro d90
    induction d90 using Nat.strongRecOn with
    | _ d90 ih90 =>
      intro i hi hd90
      have hc104 : ∀ (d104 : Nat) (j : Nat) (hj : j ≤ 11) (hi2 : i < (M 1 0 5).toNat), 11 - j = d104 → zV p l e (zrm 3 0 0) s m args below meth c (MQ below (zQl D ad okC (tmC ad tc) (dg5 M) M (zA ad okC s.heap.size)) args s 0 0 (zA ad okC s.heap.size)) D ad okC (tmC ad tc) (zA ad okC s.heap.size) s.heap 5 0 0 M [(0, .ref (ad 0 0)), (1, .long (dgo (fun w => lineFactC M i w) (dgg (fun x9 d => dgo (fun w => lineFactC M x9 w) d 11) (dg3 M) i) j)), (3, iv ((i : Nat) : Int)), (4, iv ((j : Nat) : Int))] 104 [] := by
        intro d104
        induction d104 using Nat.strongRecOn with
        | _ d104 ih104 =>
          intro j hj hi2 hd104
          refine z_iload hC 3 rfl dX8_digest_104 ?_
          refine z_bipush hC dX8_digest_106 (by decide) ?_
          refine z_icmp_ge hC 132 dX8_digest_108 (by decide) (by omega) (by omega) (fun c108 => ?_) (fun c108 => ?_)
          · skip
            have he : j = 11 := by omega
            subst he
            refine z_iinc hC 2 (L' := [(3, iv (((i : Nat) : Int) + 1)), (0, .ref (ad 0 0)), (1, .long (dgo (fun w => lineFactC M i w) (dgg (fun x9 d => dgo (fun w => lineFactC M x9 w) d 11) (dg3 M) i) 11)), (4, iv ((11 : Nat) : Int))]) dX8_digest_132 rfl (by decide) rfl ?_
            refine z_goto hC 90 dX8_digest_135 (by decide) ?_
            refine z_perm [1, 2, 0] (L' := [(0, .ref (ad 0 0)), (1, .long (dgo (fun w => lineFactC M i w) (dgg (fun x9 d => dgo (fun w => lineFactC M x9 w) d 11) (dg3 M) i) 11)), (3, iv (((i : Nat) : Int) + 1))]) rfl ?_
            exact z_conv (ih90 _ (by omega) (i + 1) (by omega) rfl) (by rfl) (by rw [dgg_s]; rfl) (by rfl)
          · skip
            refine z_lload_n hC 1 rfl dX8_digest_111 rfl ?_
            refine z_ldc2 hC (v := (31 : Int64)) dX8_digest_112 (zin 431 (by decide +kernel) rfl) ?_
            refine z_lmul hC dX8_digest_115 ?_
            refine z_aload_n hC 0 rfl dX8_digest_116 rfl ?_
            refine z_iload_n hC 2 rfl dX8_digest_117 rfl ?_
            refine z_iload hC 3 rfl dX8_digest_118 ?_
            refine z_callVi hC zlX8_122 (k_X8_lineFact l D tc ad hI M ((i : Nat) : Int) ((j : Nat) : Int) hW (by omega) (by omega)) (tmC_0 ad tc _) rfl (okC_0 (by omega)) rfl rfl (Nat.le_of_ble_eq_true rfl) ⟨by decide, by decide⟩ ⟨by decide, by decide⟩ dX8_digest_120 ?_
            refine z_i2l hC dX8_digest_123 ?_
            refine z_ladd hC dX8_digest_124 ?_
            refine z_lstore_n hC (L' := [(1, .long (((dgo (fun w => lineFactC M i w) (dgg (fun x9 d => dgo (fun w => lineFactC M x9 w) d 11) (dg3 M) i) j) * (31 : Int64)) + ((Int32.ofInt (lineFactC M ((i : Nat) : Int) ((j : Nat) : Int))).toInt64))), (0, .ref (ad 0 0)), (3, iv ((i : Nat) : Int)), (4, iv ((j : Nat) : Int))]) dX8_digest_125 rfl (by decide) rfl ?_
            refine z_iinc hC 3 (L' := [(4, iv (((j : Nat) : Int) + 1)), (1, .long (((dgo (fun w => lineFactC M i w) (dgg (fun x9 d => dgo (fun w => lineFactC M x9 w) d 11) (dg3 M) i) j) * (31 : Int64)) + ((Int32.ofInt (lineFactC M ((i : Nat) : Int) ((j : Nat) : Int))).toInt64))), (0, .ref (ad 0 0)), (3, iv ((i : Nat) : Int))]) dX8_digest_126 rfl (by decide) rfl ?_
            refine z_goto hC 104 dX8_digest_129 (by decide) ?_
            refine z_perm [2, 1, 3, 0] (L' := [(0, .ref (ad 0 0)), (1, .long (((dgo (fun w => lineFactC M i w) (dgg (fun x9 d => dgo (fun w => lineFactC M x9 w) d 11) (dg3 M) i) j) * (31 : Int64)) + ((Int32.ofInt (lineFactC M ((i : Nat) : Int) ((j : Nat) : Int))).toInt64))), (3, iv ((i : Nat) : Int)), (4, iv (((j : Nat) : Int) + 1))]) rfl ?_
            exact z_conv (ih104 _ (by omega) (j + 1) (by omega) (by omega) rfl) (by rfl) (by rw [dgo_s]; rfl) (by rfl)
      refine z_iload_n hC 2 rfl dX8_digest_90 rfl ?_
      refine z_aload_n hC 0 rfl dX8_digest_91 rfl ?_
      refine z_getR hC zfX8_10 (tmC_0 ad tc _) (okC_0 (by omega)) rfl dX8_digest_92 ?_
      have hq2 : 0 ≤ M 1 0 5 ∧ M 1 0 5 ≤ 12 := hW.1 1 0 5
      refine z_getI hC zfX8_77 (tmC_1 ad tc _) (okC_1 (by omega)) rfl (x := M 1 0 5) (rfl) dX8_digest_95 ?_
      refine z_icmp_ge hC 138 dX8_digest_98 (by decide) (by omega) (by omega) (fun c98 => ?_) (fun c98 => ?_)
      · skip
        have he : i = (M 1 0 5).toNat := by omega
        subst he
        refine z_iconst hC dX8_digest_138 ?_
        refine z_istore_n hC (L' := [(3, iv 0), (0, .ref (ad 0 0)), (1, .long (dgg (fun x9 d => dgo (fun w => lineFactC M x9 w) d 11) (dg3 M) ((M 1 0 5).toNat)))]) dX8_digest_139 rfl (by decide) rfl ?_
        refine z_perm [1, 2, 0] (L' := [(0, .ref (ad 0 0)), (1, .long (dgg (fun x9 d => dgo (fun w => lineFactC M x9 w) d 11) (dg3 M) ((M 1 0 5).toNat))), (3, iv 0)]) rfl ?_
        exact z_conv (hc140 _ 0 (by omega) rfl) (by rfl) (by rw [dgg_0]; rfl) (by rfl)
      · skip
        refine z_iconst hC dX8_digest_101 ?_
        refine z_istore hC (L' := [(4, iv 0), (0, .ref (ad 0 0)), (1, .long (dgg (fun x9 d => dgo (fun w => lineFactC M x9 w) d 11) (dg3 M) i)), (3, iv ((i : Nat) : Int))]) dX8_digest_102 (by decide) rfl ?_
        refine z_perm [1, 2, 3, 0] (L' := [(0, .ref (ad 0 0)), (1, .long (dgg (fun x9 d => dgo (fun w => lineFactC M x9 w) d 11) (dg3 M) i)), (3, iv ((i : Nat) : Int)), (4, iv 0)]) rfl ?_
        exact z_conv (hc104 _ 0 (by omega) (by omega) rfl) (by rfl) (by rw [dgo_0]; rfl) (by rfl)
  have hc64 : ∀ (d64 : Nat) (j : Nat) (hj : j ≤ (M 1 0 4).toNat), (M 1 0 4).toNat - j = d64 → zV p l e (zrm 3 0 0) s m args below meth c (MQ below (zQl D ad okC (tmC ad tc) (dg5 M) M (zA ad okC s.heap.size)) args s 0 0 (zA ad okC s.heap.size)) D ad okC (tmC ad tc) (zA ad okC s.heap.size) s.heap 5 0 0 M [(0, .ref (ad 0 0)), (1, .long (dgg (fun x9 d => digPC M x9 d) (dg2 M) j)), (3, iv ((j : Nat) : Int))] 64 [] := by
    intro d64
    induction d64 using Nat.strongRecOn with
    | _ d64 ih64 =>
      intro j hj hd64
      refine z_iload_n hC 2 rfl dX8_digest_64 rfl ?_
      refine z_aload_n hC 0 rfl dX8_digest_65 rfl ?_
      refine z_getR hC zfX8_10 (tmC_0 ad tc _) (okC_0 (by omega)) rfl dX8_digest_66 ?_
      have hq3 : 0 ≤ M 1 0 4 ∧ M 1 0 4 ≤ 8 := hW.1 1 0 4
      refine z_getI hC zfX8_50 (tmC_1 ad tc _) (okC_1 (by omega)) rfl (x := M 1 0 4) (rfl) dX8_digest_69 ?_
      refine z_icmp_ge hC 88 dX8_digest_72 (by decide) (by omega) (by omega) (fun c72 => ?_) (fun c72 => ?_)
      · skip
        have he : j = (M 1 0 4).toNat := by omega
        subst he
        refine z_iconst hC dX8_digest_88 ?_
        refine z_istore_n hC (L' := [(3, iv 0), (0, .ref (ad 0 0)), (1, .long (dgg (fun x9 d => digPC M x9 d) (dg2 M) ((M 1 0 4).toNat)))]) dX8_digest_89 rfl (by decide) rfl ?_
        refine z_perm [1, 2, 0] (L' := [(0, .ref (ad 0 0)), (1, .long (dgg (fun x9 d => digPC M x9 d) (dg2 M) ((M 1 0 4).toNat))), (3, iv 0)]) rfl ?_
        exact z_conv (hc90 _ 0 (by omega) rfl) (by rfl) (by rw [dgg_0]; rfl) (by rfl)
      · skip
        refine z_aload_n hC 0 rfl dX8_digest_75 rfl ?_
        refine z_lload_n hC 1 rfl dX8_digest_76 rfl ?_
        refine z_iload_n hC 2 rfl dX8_digest_77 rfl ?_
        refine z_callVl hC zlX8_228 (k_X8_digestPlatform l D tc ad hI M (dgg (fun x9 d => digPC M x9 d) (dg2 M) j) ((j : Nat) : Int) hW (by omega)) (tmC_0 ad tc _) rfl (okC_0 (by omega)) rfl rfl (Nat.le_of_ble_eq_true rfl) ⟨by decide, by decide⟩ ⟨by decide, by decide⟩ dX8_digest_78 ?_
        refine z_lstore_n hC (L' := [(1, .long (digPC M ((j : Nat) : Int) (dgg (fun x9 d => digPC M x9 d) (dg2 M) j))), (0, .ref (ad 0 0)), (3, iv ((j : Nat) : Int))]) dX8_digest_81 rfl (by decide) rfl ?_
        refine z_iinc hC 2 (L' := [(3, iv (((j : Nat) : Int) + 1)), (1, .long (digPC M ((j : Nat) : Int) (dgg (fun x9 d => digPC M x9 d) (dg2 M) j))), (0, .ref (ad 0 0))]) dX8_digest_82 rfl (by decide) rfl ?_
        refine z_goto hC 64 dX8_digest_85 (by decide) ?_
        refine z_perm [2, 1, 0] (L' := [(0, .ref (ad 0 0)), (1, .long (digPC M ((j : Nat) : Int) (dgg (fun x9 d => digPC M x9 d) (dg2 M) j))), (3, iv (((j : Nat) : Int) + 1))]) rfl ?_
        exact z_conv (ih64 _ (by omega) (j + 1) (by omega) rfl) (by rfl) (by rw [dgg_s]; rfl) (by rfl)
  have hc33 : ∀ (d33 : Nat) (j : Nat) (hj : j ≤ 12), 12 - j = d33 → zV p l e (zrm 3 0 0) s m args below meth c (MQ below (zQl D ad okC (tmC ad tc) (dg5 M) M (zA ad okC s.heap.size)) args s 0 0 (zA ad okC s.heap.size)) D ad okC (tmC ad tc) (zA ad okC s.heap.size) s.heap 5 0 0 M [(0, .ref (ad 0 0)), (1, .long (dgo (fun k => M 5 0 k) (dgo (fun w => countFactC M w) 593 10) j)), (3, iv ((j : Nat) : Int))] 33 [] := by
    intro d33
    induction d33 using Nat.strongRecOn with
    | _ d33 ih33 =>
      intro j hj hd33
      refine z_iload_n hC 2 rfl dX8_digest_33 rfl ?_
      refine z_bipush hC dX8_digest_34 (by decide) ?_
      refine z_icmp_ge hC 62 dX8_digest_36 (by decide) (by omega) (by omega) (fun c36 => ?_) (fun c36 => ?_)
      · skip
        have he : j = 12 := by omega
        subst he
        refine z_iconst hC dX8_digest_62 ?_
        refine z_istore_n hC (L' := [(3, iv 0), (0, .ref (ad 0 0)), (1, .long (dgo (fun k => M 5 0 k) (dgo (fun w => countFactC M w) 593 10) 12))]) dX8_digest_63 rfl (by decide) rfl ?_
        refine z_perm [1, 2, 0] (L' := [(0, .ref (ad 0 0)), (1, .long (dgo (fun k => M 5 0 k) (dgo (fun w => countFactC M w) 593 10) 12)), (3, iv 0)]) rfl ?_
        exact z_conv (hc64 _ 0 (by omega) rfl) (by rfl) (by rw [dgg_0]; rfl) (by rfl)
      · skip
        refine z_lload_n hC 1 rfl dX8_digest_39 rfl ?_
        refine z_ldc2 hC (v := (31 : Int64)) dX8_digest_40 (zin 431 (by decide +kernel) rfl) ?_
        refine z_lmul hC dX8_digest_43 ?_
        refine z_aload_n hC 0 rfl dX8_digest_44 rfl ?_
        refine z_getR hC zfX8_10 (tmC_0 ad tc _) (okC_0 (by omega)) rfl dX8_digest_45 ?_
        refine z_getR hC zfX8_110 (tmC_1 ad tc _) (okC_1 (by omega)) rfl dX8_digest_48 ?_
        refine z_iload_n hC 2 rfl dX8_digest_51 rfl ?_
        have hq4 : 0 ≤ M 5 0 j ∧ M 5 0 j ≤ 9 := hW.1 5 0 j
        refine z_iaload hC 0 (j) (tmC_5 ad tc _) (tysC_0 tc) (okC_5 (by omega)) (rfl) (by omega) (by decide) (x := M 5 0 j) (rfl) dX8_digest_52 ?_
        refine z_i2l hC dX8_digest_53 ?_
        refine z_ladd hC dX8_digest_54 ?_
        refine z_lstore_n hC (L' := [(1, .long (((dgo (fun k => M 5 0 k) (dgo (fun w => countFactC M w) 593 10) j) * (31 : Int64)) + ((Int32.ofInt (M 5 0 j)).toInt64))), (0, .ref (ad 0 0)), (3, iv ((j : Nat) : Int))]) dX8_digest_55 rfl (by decide) rfl ?_
        refine z_iinc hC 2 (L' := [(3, iv (((j : Nat) : Int) + 1)), (1, .long (((dgo (fun k => M 5 0 k) (dgo (fun w => countFactC M w) 593 10) j) * (31 : Int64)) + ((Int32.ofInt (M 5 0 j)).toInt64))), (0, .ref (ad 0 0))]) dX8_digest_56 rfl (by decide) rfl ?_
        refine z_goto hC 33 dX8_digest_59 (by decide) ?_
        refine z_perm [2, 1, 0] (L' := [(0, .ref (ad 0 0)), (1, .long (((dgo (fun k => M 5 0 k) (dgo (fun w => countFactC M w) 593 10) j) * (31 : Int64)) + ((Int32.ofInt (M 5 0 j)).toInt64))), (3, iv (((j : Nat) : Int) + 1))]) rfl ?_
        exact z_conv (ih33 _ (by omega) (j + 1) (by omega) rfl) (by rfl) (by rw [dgo_s]; rfl) (by rfl)
  have hc6 : ∀ (d6 : Nat) (j : Nat) (hj : j ≤ 10), 10 - j = d6 → zV p l e (zrm 3 0 0) s m args below meth c (MQ below (zQl D ad okC (tmC ad tc) (dg5 M) M (zA ad okC s.heap.size)) args s 0 0 (zA ad okC s.heap.size)) D ad okC (tmC ad tc) (zA ad okC s.heap.size) s.heap 5 0 0 M [(0, .ref (ad 0 0)), (1, .long (dgo (fun w => countFactC M w) 593 j)), (3, iv ((j : Nat) : Int))] 6 [] := by
    intro d6
    induction d6 using Nat.strongRecOn with
    | _ d6 ih6 =>
      intro j hj hd6
      refine z_iload_n hC 2 rfl dX8_digest_6 rfl ?_
      refine z_bipush hC dX8_digest_7 (by decide) ?_
      refine z_icmp_ge hC 31 dX8_digest_9 (by decide) (by omega) (by omega) (fun c9 => ?_) (fun c9 => ?_)
      · skip
        have he : j = 10 := by omega
        subst he
        refine z_iconst hC dX8_digest_31 ?_
        refine z_istore_n hC (L' := [(3, iv 0), (0, .ref (ad 0 0)), (1, .long (dgo (fun w => countFactC M w) 593 10))]) dX8_digest_32 rfl (by decide) rfl ?_
        refine z_perm [1, 2, 0] (L' := [(0, .ref (ad 0 0)), (1, .long (dgo (fun w => countFactC M w) 593 10)), (3, iv 0)]) rfl ?_
        exact z_conv (hc33 _ 0 (by omega) rfl) (by rfl) (by rw [dgo_0]; rfl) (by rfl)
      · skip
        refine z_lload_n hC 1 rfl dX8_digest_12 rfl ?_
        refine z_ldc2 hC (v := (31 : Int64)) dX8_digest_13 (zin 431 (by decide +kernel) rfl) ?_
        refine z_lmul hC dX8_digest_16 ?_
        refine z_aload_n hC 0 rfl dX8_digest_17 rfl ?_
        refine z_iload_n hC 2 rfl dX8_digest_18 rfl ?_
        refine z_callVi hC zlX8_184 (k_X8_countFact l D tc ad hI M ((j : Nat) : Int) hW (by omega)) (tmC_0 ad tc _) rfl (okC_0 (by omega)) rfl rfl (Nat.le_of_ble_eq_true rfl) ⟨by decide, by decide⟩ ⟨by decide, by decide⟩ dX8_digest_19 ?_
        refine z_i2l hC dX8_digest_22 ?_
        refine z_ladd hC dX8_digest_23 ?_
        refine z_lstore_n hC (L' := [(1, .long (((dgo (fun w => countFactC M w) 593 j) * (31 : Int64)) + ((Int32.ofInt (countFactC M ((j : Nat) : Int))).toInt64))), (0, .ref (ad 0 0)), (3, iv ((j : Nat) : Int))]) dX8_digest_24 rfl (by decide) rfl ?_
        refine z_iinc hC 2 (L' := [(3, iv (((j : Nat) : Int) + 1)), (1, .long (((dgo (fun w => countFactC M w) 593 j) * (31 : Int64)) + ((Int32.ofInt (countFactC M ((j : Nat) : Int))).toInt64))), (0, .ref (ad 0 0))]) dX8_digest_25 rfl (by decide) rfl ?_
        refine z_goto hC 6 dX8_digest_28 (by decide) ?_
        refine z_perm [2, 1, 0] (L' := [(0, .ref (ad 0 0)), (1, .long (((dgo (fun w => countFactC M w) 593 j) * (31 : Int64)) + ((Int32.ofInt (countFactC M ((j : Nat) : Int))).toInt64))), (3, iv (((j : Nat) : Int) + 1))]) rfl ?_
        exact z_conv (ih6 _ (by omega) (j + 1) (by omega) rfl) (by rfl) (by rw [dgo_s]; rfl) (by rfl)
  refine z_ldc2 hC (v := (593 : Int64)) dX8_digest_0 (zin 430 (by decide +kernel) rfl) ?_
  refine z_lstore_n hC (L' := [(1, .long (593 : Int64)), (0, .ref (ad 0 0))]) dX8_digest_3 rfl (by decide) rfl ?_
  refine z_iconst hC dX8_digest_4 ?_
  refine z_istore_n hC (L' := [(3, iv 0), (1, .long (593 : Int64)), (0, .ref (ad 0 0))]) dX8_digest_5 rfl (by decide) rfl ?_
  refine z_perm [2, 1, 0] (L' := [(0, .ref (ad 0 0)), (1, .long (593 : Int64)), (3, iv 0)]) rfl ?_
  exact z_conv (hc6 _ 0 (by omega) rfl) (by rfl) (by rw [dgo_0]; rfl) (by rfl)
