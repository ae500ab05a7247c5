set_option maxHeartbeats 4000000 in
set_option maxRecDepth 100000 in
theorem k_X10_digest (l : Launch) (D : va_G) (tc : Nat → ClassId) (ad : Nat → Nat → Nat) (hI : zI ad okM) (M : zM) {T U : Int}  (hW : WTM T U M) (hat : ∀ r : Nat, (r : Int) < M 0 0 10 → M 20 0 r = 0 → M 21 0 r ≤ 7) : zMl l yX10_digest cX10_digest 5 (some .long) 64 D (tysM tc) ad okM (tmM ad tc) [.ref (ad 0 0)] M (dgM5 (zup M 0 0 0 0)) (zup M 0 0 0 0) 206 2064 := by
  have hlc : 0 ≤ M 0 0 5 ∧ M 0 0 5 ≤ 12 := hW.1 0 0 5
  have hrc : 0 ≤ M 0 0 10 ∧ M 0 0 10 ≤ 12 := hW.1 0 0 10
  have h1i : 0 ≤ M 0 0 1 ∧ M 0 0 1 ≤ 8 := hW.1 0 0 1
  have hW1 : WTM T U (zup M 0 0 0 0) := hW.thr ⟨by omega, by omega⟩
  refine z_met hI (plainFor_of_name (by decide)) (Nat.le_of_ble_eq_true rfl) ?_
  intro p e s m args below meth c hC hret hlk
  refine z_conv (L2 := [(0, .ref (ad 0 0))]) ?_ rfl rfl rfl
  have hc206 : ∀ (d206 : Nat) (i : Nat) (hi : i ≤ (M 0 0 10).toNat), (M 0 0 10).toNat - i = d206 → zV p l e (zrm 64 206 2064) s m args below meth c (MQ below (zQl D ad okM (tmM ad tc) (dgM5 (zup M 0 0 0 0)) (zup M 0 0 0 0) (zA ad okM s.heap.size)) args s 206 2064 (zA ad okM s.heap.size)) D ad okM (tmM ad tc) (zA ad okM s.heap.size) s.heap 5 (206) (2064) (zup M 0 0 0 0) [(0, .ref (ad 0 0)), (1, .long (dgg (fun x9 d => dgo (fun w => riderToldM (zup M 0 0 0 0) x9 w) d 11) (dgM4 (zup M 0 0 0 0)) i)), (3, iv ((i : Nat) : Int))] 206 [] := by
    intro d206
    induction d206 using Nat.strongRecOn with
    | _ d206 ih206 =>
      intro i hi hd206
      have hc217 : ∀ (d217 : Nat) (j : Nat) (hj : j ≤ 11) (hi2 : i < (M 0 0 10).toNat), 11 - j = d217 → zV p l e (zrm 64 206 2064) s m args below meth c (MQ below (zQl D ad okM (tmM ad tc) (dgM5 (zup M 0 0 0 0)) (zup M 0 0 0 0) (zA ad okM s.heap.size)) args s 206 2064 (zA ad okM s.heap.size)) D ad okM (tmM ad tc) (zA ad okM s.heap.size) s.heap 5 (206) (2064) (zup M 0 0 0 0) [(0, .ref (ad 0 0)), (1, .long (dgo (fun w => riderToldM (zup M 0 0 0 0) i w) (dgg (fun x9 d => dgo (fun w => riderToldM (zup M 0 0 0 0) x9 w) d 11) (dgM4 (zup M 0 0 0 0)) i) j)), (3, iv ((i : Nat) : Int)), (4, iv ((j : Nat) : Int))] 217 [] := by
        intro d217
        induction d217 using Nat.strongRecOn with
        | _ d217 ih217 =>
          intro j hj hi2 hd217
          refine z_iload hC 3 rfl dX10_digest_217 ?_
          refine z_bipush hC dX10_digest_219 (by decide) ?_
          refine z_icmp_ge hC 245 dX10_digest_221 (by decide) (by omega) (by omega) (fun c221 => ?_) (fun c221 => ?_)
          · skip
            have he : j = 11 := by omega
            subst he
            refine z_iinc hC 2 (L' := [(3, iv (((i : Nat) : Int) + 1)), (0, .ref (ad 0 0)), (1, .long (dgo (fun w => riderToldM (zup M 0 0 0 0) i w) (dgg (fun x9 d => dgo (fun w => riderToldM (zup M 0 0 0 0) x9 w) d 11) (dgM4 (zup M 0 0 0 0)) i) 11)), (4, iv ((11 : Nat) : Int))]) dX10_digest_245 rfl (by decide) rfl ?_
            refine z_goto hC 206 dX10_digest_248 (by decide) ?_
            refine z_perm [1, 2, 0] (L' := [(0, .ref (ad 0 0)), (1, .long (dgo (fun w => riderToldM (zup M 0 0 0 0) i w) (dgg (fun x9 d => dgo (fun w => riderToldM (zup M 0 0 0 0) x9 w) d 11) (dgM4 (zup M 0 0 0 0)) i) 11)), (3, iv (((i : Nat) : Int) + 1))]) rfl ?_
            refine z_widen (k := 206) (n := 2064) (by omega) (by omega) ?_
            exact z_conv (ih206 _ (by omega) (i + 1) (by omega) rfl) (by rfl) (by rw [dgg_s]; rfl) (by rfl)
          · skip
            refine z_lload_n hC 1 rfl dX10_digest_224 rfl ?_
            refine z_ldc2 hC (v := (31 : Int64)) dX10_digest_225 (zin 1120 (by decide +kernel) rfl) ?_
            refine z_lmul hC dX10_digest_228 ?_
            refine z_aload_n hC 0 rfl dX10_digest_229 rfl ?_
            refine z_iload_n hC 2 rfl dX10_digest_230 rfl ?_
            refine z_iload hC 3 rfl dX10_digest_231 ?_
            refine z_callVi hC zlX10_161 (k_X10_riderTold l D tc ad hI (zup M 0 0 0 0) ((i : Nat) : Int) ((j : Nat) : Int) hW1 ⟨by omega, by omega⟩ ⟨by omega, by omega⟩ (by rw [zup_fr (show 20 ≠ 0 by decide), zup_fr (show 21 ≠ 0 by decide)]; exact hat _ (by omega))) (tmM_0 ad tc _) rfl (okM_0 (by omega)) rfl rfl (Nat.le_of_ble_eq_true rfl) ⟨by decide, by decide⟩ ⟨by show _ ≤ 206; omega, by show _ ≤ 2064; omega⟩ dX10_digest_233 ?_
            refine z_i2l hC dX10_digest_236 ?_
            refine z_ladd hC dX10_digest_237 ?_
            refine z_lstore_n hC (L' := [(1, .long (((dgo (fun w => riderToldM (zup M 0 0 0 0) i w) (dgg (fun x9 d => dgo (fun w => riderToldM (zup M 0 0 0 0) x9 w) d 11) (dgM4 (zup M 0 0 0 0)) i) j) * (31 : Int64)) + ((Int32.ofInt (riderToldM (zup M 0 0 0 0) ((i : Nat) : Int) ((j : Nat) : Int))).toInt64))), (0, .ref (ad 0 0)), (3, iv ((i : Nat) : Int)), (4, iv ((j : Nat) : Int))]) dX10_digest_238 rfl (by decide) rfl ?_
            refine z_iinc hC 3 (L' := [(4, iv (((j : Nat) : Int) + 1)), (1, .long (((dgo (fun w => riderToldM (zup M 0 0 0 0) i w) (dgg (fun x9 d => dgo (fun w => riderToldM (zup M 0 0 0 0) x9 w) d 11) (dgM4 (zup M 0 0 0 0)) i) j) * (31 : Int64)) + ((Int32.ofInt (riderToldM (zup M 0 0 0 0) ((i : Nat) : Int) ((j : Nat) : Int))).toInt64))), (0, .ref (ad 0 0)), (3, iv ((i : Nat) : Int))]) dX10_digest_239 rfl (by decide) rfl ?_
            refine z_goto hC 217 dX10_digest_242 (by decide) ?_
            refine z_perm [2, 1, 3, 0] (L' := [(0, .ref (ad 0 0)), (1, .long (((dgo (fun w => riderToldM (zup M 0 0 0 0) i w) (dgg (fun x9 d => dgo (fun w => riderToldM (zup M 0 0 0 0) x9 w) d 11) (dgM4 (zup M 0 0 0 0)) i) j) * (31 : Int64)) + ((Int32.ofInt (riderToldM (zup M 0 0 0 0) ((i : Nat) : Int) ((j : Nat) : Int))).toInt64))), (3, iv ((i : Nat) : Int)), (4, iv (((j : Nat) : Int) + 1))]) rfl ?_
            refine z_widen (k := 206) (n := 2064) (by omega) (by omega) ?_
            exact z_conv (ih217 _ (by omega) (j + 1) (by omega) (by omega) rfl) (by rfl) (by rw [dgo_s]; rfl) (by rfl)
      refine z_iload_n hC 2 rfl dX10_digest_206 rfl ?_
      refine z_aload_n hC 0 rfl dX10_digest_207 rfl ?_
      have hq1 : 0 ≤ M 0 0 10 ∧ M 0 0 10 ≤ 12 := hW.1 0 0 10
      refine z_getI hC zfX10_95 (tmM_0 ad tc _) (okM_0 (by omega)) rfl (x := M 0 0 10) (by simp [zup]) dX10_digest_208 ?_
      refine z_icmp_ge hC 251 dX10_digest_211 (by decide) (by omega) (by omega) (fun c211 => ?_) (fun c211 => ?_)
      · skip
        have he : i = (M 0 0 10).toNat := by omega
        subst he
        refine z_lload_n hC 1 rfl dX10_digest_251 rfl ?_
        refine z_widen (k := 206) (n := 2064) (by first | decide | omega) (by first | decide | omega) ?_
        exact z_lret hC hret hlk (by rfl) (by rfl) dX10_digest_252
      · skip
        refine z_iconst hC dX10_digest_214 ?_
        refine z_istore hC (L' := [(4, iv 0), (0, .ref (ad 0 0)), (1, .long (dgg (fun x9 d => dgo (fun w => riderToldM (zup M 0 0 0 0) x9 w) d 11) (dgM4 (zup M 0 0 0 0)) i)), (3, iv ((i : Nat) : Int))]) dX10_digest_215 (by decide) rfl ?_
        refine z_perm [1, 2, 3, 0] (L' := [(0, .ref (ad 0 0)), (1, .long (dgg (fun x9 d => dgo (fun w => riderToldM (zup M 0 0 0 0) x9 w) d 11) (dgM4 (zup M 0 0 0 0)) i)), (3, iv ((i : Nat) : Int)), (4, iv 0)]) rfl ?_
        refine z_widen (k := 206) (n := 2064) (by omega) (by omega) ?_
        exact z_conv (hc217 _ 0 (by omega) (by omega) rfl) (by rfl) (by rw [dgo_0]; rfl) (by rfl)
  have hc159 : ∀ (d159 : Nat) (i : Nat) (hi : i ≤ (M 0 0 5).toNat), (M 0 0 5).toNat - i = d159 → zV p l e (zrm 64 206 2064) s m args below meth c (MQ below (zQl D ad okM (tmM ad tc) (dgM5 (zup M 0 0 0 0)) (zup M 0 0 0 0) (zA ad okM s.heap.size)) args s 206 2064 (zA ad okM s.heap.size)) D ad okM (tmM ad tc) (zA ad okM s.heap.size) s.heap 5 (74 + 11 * i) (612 + 121 * i) (zup M 0 0 0 0) [(0, .ref (ad 0 0)), (1, .long (dgg (fun x9 d => dgo (fun w => lineToldM (zup M 0 0 0 0) x9 w) d 11) (dgM3 (zup M 0 0 0 0)) i)), (3, iv ((i : Nat) : Int))] 159 [] := by
    intro d159
    induction d159 using Nat.strongRecOn with
    | _ d159 ih159 =>
      intro i hi hd159
      have hc170 : ∀ (d170 : Nat) (j : Nat) (hj : j ≤ 11) (hi2 : i < (M 0 0 5).toNat), 11 - j = d170 → zV p l e (zrm 64 206 2064) s m args below meth c (MQ below (zQl D ad okM (tmM ad tc) (dgM5 (zup M 0 0 0 0)) (zup M 0 0 0 0) (zA ad okM s.heap.size)) args s 206 2064 (zA ad okM s.heap.size)) D ad okM (tmM ad tc) (zA ad okM s.heap.size) s.heap 5 (74 + 11 * i + j) (612 + 121 * i + 11 * j) (zup M 0 0 0 0) [(0, .ref (ad 0 0)), (1, .long (dgo (fun w => lineToldM (zup M 0 0 0 0) i w) (dgg (fun x9 d => dgo (fun w => lineToldM (zup M 0 0 0 0) x9 w) d 11) (dgM3 (zup M 0 0 0 0)) i) j)), (3, iv ((i : Nat) : Int)), (4, iv ((j : Nat) : Int))] 170 [] := by
        intro d170
        induction d170 using Nat.strongRecOn with
        | _ d170 ih170 =>
          intro j hj hi2 hd170
          refine z_iload hC 3 rfl dX10_digest_170 ?_
          refine z_bipush hC dX10_digest_172 (by decide) ?_
          refine z_icmp_ge hC 198 dX10_digest_174 (by decide) (by omega) (by omega) (fun c174 => ?_) (fun c174 => ?_)
          · skip
            have he : j = 11 := by omega
            subst he
            refine z_iinc hC 2 (L' := [(3, iv (((i : Nat) : Int) + 1)), (0, .ref (ad 0 0)), (1, .long (dgo (fun w => lineToldM (zup M 0 0 0 0) i w) (dgg (fun x9 d => dgo (fun w => lineToldM (zup M 0 0 0 0) x9 w) d 11) (dgM3 (zup M 0 0 0 0)) i) 11)), (4, iv ((11 : Nat) : Int))]) dX10_digest_198 rfl (by decide) rfl ?_
            refine z_goto hC 159 dX10_digest_201 (by decide) ?_
            refine z_perm [1, 2, 0] (L' := [(0, .ref (ad 0 0)), (1, .long (dgo (fun w => lineToldM (zup M 0 0 0 0) i w) (dgg (fun x9 d => dgo (fun w => lineToldM (zup M 0 0 0 0) x9 w) d 11) (dgM3 (zup M 0 0 0 0)) i) 11)), (3, iv (((i : Nat) : Int) + 1))]) rfl ?_
            refine z_widen (k := 74 + 11 * (i + 1)) (n := 612 + 121 * (i + 1)) (by omega) (by omega) ?_
            exact z_conv (ih159 _ (by omega) (i + 1) (by omega) rfl) (by rfl) (by rw [dgg_s]; rfl) (by rfl)
          · skip
            refine z_lload_n hC 1 rfl dX10_digest_177 rfl ?_
            refine z_ldc2 hC (v := (31 : Int64)) dX10_digest_178 (zin 1120 (by decide +kernel) rfl) ?_
            refine z_lmul hC dX10_digest_181 ?_
            refine z_aload_n hC 0 rfl dX10_digest_182 rfl ?_
            refine z_iload_n hC 2 rfl dX10_digest_183 rfl ?_
            refine z_iload hC 3 rfl dX10_digest_184 ?_
            refine z_callVi hC zlX10_130 (k_X10_lineTold l D tc ad hI (zup M 0 0 0 0) ((i : Nat) : Int) ((j : Nat) : Int) hW1 (by have h9 : zup M 0 0 0 0 0 0 5 = M 0 0 5 := rfl; omega) ⟨by omega, by omega⟩) (tmM_0 ad tc _) rfl (okM_0 (by omega)) rfl rfl (Nat.le_of_ble_eq_true rfl) ⟨by decide, by decide⟩ ⟨by show _ ≤ 206; omega, by show _ ≤ 2064; omega⟩ dX10_digest_186 ?_
            refine z_i2l hC dX10_digest_189 ?_
            refine z_ladd hC dX10_digest_190 ?_
            refine z_lstore_n hC (L' := [(1, .long (((dgo (fun w => lineToldM (zup M 0 0 0 0) i w) (dgg (fun x9 d => dgo (fun w => lineToldM (zup M 0 0 0 0) x9 w) d 11) (dgM3 (zup M 0 0 0 0)) i) j) * (31 : Int64)) + ((Int32.ofInt (lineToldM (zup M 0 0 0 0) ((i : Nat) : Int) ((j : Nat) : Int))).toInt64))), (0, .ref (ad 0 0)), (3, iv ((i : Nat) : Int)), (4, iv ((j : Nat) : Int))]) dX10_digest_191 rfl (by decide) rfl ?_
            refine z_iinc hC 3 (L' := [(4, iv (((j : Nat) : Int) + 1)), (1, .long (((dgo (fun w => lineToldM (zup M 0 0 0 0) i w) (dgg (fun x9 d => dgo (fun w => lineToldM (zup M 0 0 0 0) x9 w) d 11) (dgM3 (zup M 0 0 0 0)) i) j) * (31 : Int64)) + ((Int32.ofInt (lineToldM (zup M 0 0 0 0) ((i : Nat) : Int) ((j : Nat) : Int))).toInt64))), (0, .ref (ad 0 0)), (3, iv ((i : Nat) : Int))]) dX10_digest_192 rfl (by decide) rfl ?_
            refine z_goto hC 170 dX10_digest_195 (by decide) ?_
            refine z_perm [2, 1, 3, 0] (L' := [(0, .ref (ad 0 0)), (1, .long (((dgo (fun w => lineToldM (zup M 0 0 0 0) i w) (dgg (fun x9 d => dgo (fun w => lineToldM (zup M 0 0 0 0) x9 w) d 11) (dgM3 (zup M 0 0 0 0)) i) j) * (31 : Int64)) + ((Int32.ofInt (lineToldM (zup M 0 0 0 0) ((i : Nat) : Int) ((j : Nat) : Int))).toInt64))), (3, iv ((i : Nat) : Int)), (4, iv (((j : Nat) : Int) + 1))]) rfl ?_
            refine z_widen (k := 74 + 11 * i + (j + 1)) (n := 612 + 121 * i + 11 * (j + 1)) (by omega) (by omega) ?_
            exact z_conv (ih170 _ (by omega) (j + 1) (by omega) (by omega) rfl) (by rfl) (by rw [dgo_s]; rfl) (by rfl)
      refine z_iload_n hC 2 rfl dX10_digest_159 rfl ?_
      refine z_aload_n hC 0 rfl dX10_digest_160 rfl ?_
      have hq2 : 0 ≤ M 0 0 5 ∧ M 0 0 5 ≤ 12 := hW.1 0 0 5
      refine z_getI hC zfX10_63 (tmM_0 ad tc _) (okM_0 (by omega)) rfl (x := M 0 0 5) (by simp [zup]) dX10_digest_161 ?_
      refine z_icmp_ge hC 204 dX10_digest_164 (by decide) (by omega) (by omega) (fun c164 => ?_) (fun c164 => ?_)
      · skip
        have he : i = (M 0 0 5).toNat := by omega
        subst he
        refine z_iconst hC dX10_digest_204 ?_
        refine z_istore_n hC (L' := [(3, iv 0), (0, .ref (ad 0 0)), (1, .long (dgg (fun x9 d => dgo (fun w => lineToldM (zup M 0 0 0 0) x9 w) d 11) (dgM3 (zup M 0 0 0 0)) ((M 0 0 5).toNat)))]) dX10_digest_205 rfl (by decide) rfl ?_
        refine z_perm [1, 2, 0] (L' := [(0, .ref (ad 0 0)), (1, .long (dgg (fun x9 d => dgo (fun w => lineToldM (zup M 0 0 0 0) x9 w) d 11) (dgM3 (zup M 0 0 0 0)) ((M 0 0 5).toNat))), (3, iv 0)]) rfl ?_
        refine z_widen (k := 206) (n := 2064) (by omega) (by omega) ?_
        exact z_conv (hc206 _ 0 (by omega) rfl) (by rfl) (by rw [dgg_0]; rfl) (by rfl)
      · skip
        refine z_iconst hC dX10_digest_167 ?_
        refine z_istore hC (L' := [(4, iv 0), (0, .ref (ad 0 0)), (1, .long (dgg (fun x9 d => dgo (fun w => lineToldM (zup M 0 0 0 0) x9 w) d 11) (dgM3 (zup M 0 0 0 0)) i)), (3, iv ((i : Nat) : Int))]) dX10_digest_168 (by decide) rfl ?_
        refine z_perm [1, 2, 3, 0] (L' := [(0, .ref (ad 0 0)), (1, .long (dgg (fun x9 d => dgo (fun w => lineToldM (zup M 0 0 0 0) x9 w) d 11) (dgM3 (zup M 0 0 0 0)) i)), (3, iv ((i : Nat) : Int)), (4, iv 0)]) rfl ?_
        refine z_widen (k := 74 + 11 * i + 0) (n := 612 + 121 * i + 11 * 0) (by omega) (by omega) ?_
        exact z_conv (hc170 _ 0 (by omega) (by omega) rfl) (by rfl) (by rw [dgo_0]; rfl) (by rfl)
  have hc66 : ∀ (d66 : Nat) (i : Nat) (hi : i ≤ (M 0 0 1).toNat), (M 0 0 1).toNat - i = d66 → zV p l e (zrm 64 206 2064) s m args below meth c (MQ below (zQl D ad okM (tmM ad tc) (dgM5 (zup M 0 0 0 0)) (zup M 0 0 0 0) (zA ad okM s.heap.size)) args s 206 2064 (zA ad okM s.heap.size)) D ad okM (tmM ad tc) (zA ad okM s.heap.size) s.heap 5 (10 + 8 * i) (100 + 64 * i) (zup M 0 0 0 0) [(0, .ref (ad 0 0)), (1, .long (dgg (fun x9 d => digPM (zup M 0 0 0 0) x9 d) (dgM2 (zup M 0 0 0 0)) i)), (3, iv ((i : Nat) : Int))] 66 [] := by
    intro d66
    induction d66 using Nat.strongRecOn with
    | _ d66 ih66 =>
      intro i hi hd66
      have h1i : 0 ≤ M 0 0 1 ∧ M 0 0 1 ≤ 8 := hW.1 0 0 1
      have hc108 : ∀ (d108 : Nat) (j : Nat) (hj : j ≤ (M 18 0 i).toNat) (hi2 : i < (M 0 0 1).toNat), (M 18 0 i).toNat - j = d108 → zV p l e (zrm 64 206 2064) s m args below meth c (MQ below (zQl D ad okM (tmM ad tc) (dgM5 (zup M 0 0 0 0)) (zup M 0 0 0 0) (zA ad okM s.heap.size)) args s 206 2064 (zA ad okM s.heap.size)) D ad okM (tmM ad tc) (zA ad okM s.heap.size) s.heap 5 (10 + 8 * i + 8) (100 + 64 * i + 64) (zup M 0 0 0 0) [(0, .ref (ad 0 0)), (1, .long (dgo (fun k => (zup M 0 0 0 0) 19 0 (12 * i + k)) (dgo (fun w => platToldM (zup M 0 0 0 0) i w) (dgg (fun x9 d => digPM (zup M 0 0 0 0) x9 d) (dgM2 (zup M 0 0 0 0)) i) 8) j)), (3, iv ((i : Nat) : Int)), (4, iv ((j : Nat) : Int))] 108 [] := by
        intro d108
        induction d108 using Nat.strongRecOn with
        | _ d108 ih108 =>
          intro j hj hi2 hd108
          have h18i : 0 ≤ M 18 0 i ∧ M 18 0 i ≤ 12 := hW.1 18 0 i
          refine z_iload hC 3 rfl dX10_digest_108 ?_
          refine z_aload_n hC 0 rfl dX10_digest_110 rfl ?_
          refine z_getR hC zfX10_45 (tmM_0 ad tc _) (okM_0 (by omega)) rfl dX10_digest_111 ?_
          refine z_getRN hC zfX10_101 (tmM_11 ad tc _) (okM_11 (by omega)) rfl dX10_digest_114 ?_
          refine z_iload_n hC 2 rfl dX10_digest_117 rfl ?_
          have hq3 : 0 ≤ M 18 0 i ∧ M 18 0 i ≤ 12 := hW.1 18 0 i
          refine z_iaload hC 0 (i) (tmM_18 ad tc _) (tysM_0 tc) (okM_18 (by omega)) (rfl) (by omega) (by decide) (x := M 18 0 i) (by simp [zup]) dX10_digest_118 ?_
          refine z_icmp_ge hC 151 dX10_digest_119 (by decide) (by omega) (by omega) (fun c119 => ?_) (fun c119 => ?_)
          · skip
            have he : j = (M 18 0 i).toNat := by omega
            subst he
            refine z_iinc hC 2 (L' := [(3, iv (((i : Nat) : Int) + 1)), (0, .ref (ad 0 0)), (1, .long (dgo (fun k => (zup M 0 0 0 0) 19 0 (12 * i + k)) (dgo (fun w => platToldM (zup M 0 0 0 0) i w) (dgg (fun x9 d => digPM (zup M 0 0 0 0) x9 d) (dgM2 (zup M 0 0 0 0)) i) 8) ((M 18 0 i).toNat))), (4, iv ((((M 18 0 i).toNat) : Nat) : Int))]) dX10_digest_151 rfl (by decide) rfl ?_
            refine z_goto hC 66 dX10_digest_154 (by decide) ?_
            refine z_perm [1, 2, 0] (L' := [(0, .ref (ad 0 0)), (1, .long (dgo (fun k => (zup M 0 0 0 0) 19 0 (12 * i + k)) (dgo (fun w => platToldM (zup M 0 0 0 0) i w) (dgg (fun x9 d => digPM (zup M 0 0 0 0) x9 d) (dgM2 (zup M 0 0 0 0)) i) 8) ((M 18 0 i).toNat))), (3, iv (((i : Nat) : Int) + 1))]) rfl ?_
            refine z_widen (k := 10 + 8 * (i + 1)) (n := 100 + 64 * (i + 1)) (by omega) (by omega) ?_
            exact z_conv (ih66 _ (by omega) (i + 1) (by omega) rfl) (by rfl) (by rw [dgg_s]; rfl) (by rfl)
          · skip
            refine z_lload_n hC 1 rfl dX10_digest_122 rfl ?_
            refine z_ldc2 hC (v := (31 : Int64)) dX10_digest_123 (zin 1120 (by decide +kernel) rfl) ?_
            refine z_lmul hC dX10_digest_126 ?_
            refine z_aload_n hC 0 rfl dX10_digest_127 rfl ?_
            refine z_getR hC zfX10_45 (tmM_0 ad tc _) (okM_0 (by omega)) rfl dX10_digest_128 ?_
            refine z_getRN hC zfX10_104 (tmM_11 ad tc _) (okM_11 (by omega)) rfl dX10_digest_131 ?_
            refine z_bipush hC dX10_digest_134 (by decide) ?_
            refine z_iload_n hC 2 rfl dX10_digest_136 rfl ?_
            refine z_imul hC dX10_digest_137 ?_
            refine z_iload hC 3 rfl dX10_digest_138 ?_
            refine z_iadd hC dX10_digest_140 ?_
            have hq4 : 0 ≤ M 19 0 ((12 * i) + j) ∧ M 19 0 ((12 * i) + j) ≤ 11 := hW.1 19 0 ((12 * i) + j)
            refine z_iaload hC 0 ((12 * i) + j) (tmM_19 ad tc _) (tysM_0 tc) (okM_19 (by omega)) (rfl) (by omega) (by decide) (x := M 19 0 ((12 * i) + j)) (by simp [zup]) dX10_digest_141 ?_
            refine z_i2l hC dX10_digest_142 ?_
            refine z_ladd hC dX10_digest_143 ?_
            refine z_lstore_n hC (L' := [(1, .long (((dgo (fun k => (zup M 0 0 0 0) 19 0 (12 * i + k)) (dgo (fun w => platToldM (zup M 0 0 0 0) i w) (dgg (fun x9 d => digPM (zup M 0 0 0 0) x9 d) (dgM2 (zup M 0 0 0 0)) i) 8) j) * (31 : Int64)) + ((Int32.ofInt (M 19 0 ((12 * i) + j))).toInt64))), (0, .ref (ad 0 0)), (3, iv ((i : Nat) : Int)), (4, iv ((j : Nat) : Int))]) dX10_digest_144 rfl (by decide) rfl ?_
            refine z_iinc hC 3 (L' := [(4, iv (((j : Nat) : Int) + 1)), (1, .long (((dgo (fun k => (zup M 0 0 0 0) 19 0 (12 * i + k)) (dgo (fun w => platToldM (zup M 0 0 0 0) i w) (dgg (fun x9 d => digPM (zup M 0 0 0 0) x9 d) (dgM2 (zup M 0 0 0 0)) i) 8) j) * (31 : Int64)) + ((Int32.ofInt (M 19 0 ((12 * i) + j))).toInt64))), (0, .ref (ad 0 0)), (3, iv ((i : Nat) : Int))]) dX10_digest_145 rfl (by decide) rfl ?_
            refine z_goto hC 108 dX10_digest_148 (by decide) ?_
            refine z_perm [2, 1, 3, 0] (L' := [(0, .ref (ad 0 0)), (1, .long (((dgo (fun k => (zup M 0 0 0 0) 19 0 (12 * i + k)) (dgo (fun w => platToldM (zup M 0 0 0 0) i w) (dgg (fun x9 d => digPM (zup M 0 0 0 0) x9 d) (dgM2 (zup M 0 0 0 0)) i) 8) j) * (31 : Int64)) + ((Int32.ofInt (M 19 0 ((12 * i) + j))).toInt64))), (3, iv ((i : Nat) : Int)), (4, iv (((j : Nat) : Int) + 1))]) rfl ?_
            refine z_widen (k := 10 + 8 * i + 8) (n := 100 + 64 * i + 64) (by omega) (by omega) ?_
            exact z_conv (ih108 _ (by omega) (j + 1) (by omega) (by omega) rfl) (by rfl) (by rw [dgo_s]; rfl) (by rfl)
      have hc77 : ∀ (d77 : Nat) (j : Nat) (hj : j ≤ 8) (hi2 : i < (M 0 0 1).toNat), 8 - j = d77 → zV p l e (zrm 64 206 2064) s m args below meth c (MQ below (zQl D ad okM (tmM ad tc) (dgM5 (zup M 0 0 0 0)) (zup M 0 0 0 0) (zA ad okM s.heap.size)) args s 206 2064 (zA ad okM s.heap.size)) D ad okM (tmM ad tc) (zA ad okM s.heap.size) s.heap 5 (10 + 8 * i + j) (100 + 64 * i + 8 * j) (zup M 0 0 0 0) [(0, .ref (ad 0 0)), (1, .long (dgo (fun w => platToldM (zup M 0 0 0 0) i w) (dgg (fun x9 d => digPM (zup M 0 0 0 0) x9 d) (dgM2 (zup M 0 0 0 0)) i) j)), (3, iv ((i : Nat) : Int)), (4, iv ((j : Nat) : Int))] 77 [] := by
        intro d77
        induction d77 using Nat.strongRecOn with
        | _ d77 ih77 =>
          intro j hj hi2 hd77
          refine z_iload hC 3 rfl dX10_digest_77 ?_
          refine z_bipush hC dX10_digest_79 (by decide) ?_
          refine z_icmp_ge hC 105 dX10_digest_81 (by decide) (by omega) (by omega) (fun c81 => ?_) (fun c81 => ?_)
          · skip
            have he : j = 8 := by omega
            subst he
            refine z_iconst hC dX10_digest_105 ?_
            refine z_istore hC (L' := [(4, iv 0), (0, .ref (ad 0 0)), (1, .long (dgo (fun w => platToldM (zup M 0 0 0 0) i w) (dgg (fun x9 d => digPM (zup M 0 0 0 0) x9 d) (dgM2 (zup M 0 0 0 0)) i) 8)), (3, iv ((i : Nat) : Int))]) dX10_digest_106 (by decide) rfl ?_
            refine z_perm [1, 2, 3, 0] (L' := [(0, .ref (ad 0 0)), (1, .long (dgo (fun w => platToldM (zup M 0 0 0 0) i w) (dgg (fun x9 d => digPM (zup M 0 0 0 0) x9 d) (dgM2 (zup M 0 0 0 0)) i) 8)), (3, iv ((i : Nat) : Int)), (4, iv 0)]) rfl ?_
            refine z_widen (k := 10 + 8 * i + 8) (n := 100 + 64 * i + 64) (by omega) (by omega) ?_
            exact z_conv (hc108 _ 0 (by omega) (by omega) rfl) (by rfl) (by rw [dgo_0]; rfl) (by rfl)
          · skip
            refine z_lload_n hC 1 rfl dX10_digest_84 rfl ?_
            refine z_ldc2 hC (v := (31 : Int64)) dX10_digest_85 (zin 1120 (by decide +kernel) rfl) ?_
            refine z_lmul hC dX10_digest_88 ?_
            refine z_aload_n hC 0 rfl dX10_digest_89 rfl ?_
            refine z_iload_n hC 2 rfl dX10_digest_90 rfl ?_
            refine z_iload hC 3 rfl dX10_digest_91 ?_
            refine z_callVi hC zlX10_107 (k_X10_platformTold l D tc ad hI (zup M 0 0 0 0) ((i : Nat) : Int) ((j : Nat) : Int) hW1 ⟨by omega, by omega⟩ ⟨by omega, by omega⟩) (tmM_0 ad tc _) rfl (okM_0 (by omega)) rfl rfl (Nat.le_of_ble_eq_true rfl) ⟨by decide, by decide⟩ ⟨by show _ ≤ 206; omega, by show _ ≤ 2064; omega⟩ dX10_digest_93 ?_
            refine z_i2l hC dX10_digest_96 ?_
            refine z_ladd hC dX10_digest_97 ?_
            refine z_lstore_n hC (L' := [(1, .long (((dgo (fun w => platToldM (zup M 0 0 0 0) i w) (dgg (fun x9 d => digPM (zup M 0 0 0 0) x9 d) (dgM2 (zup M 0 0 0 0)) i) j) * (31 : Int64)) + ((Int32.ofInt (platToldM (zup M 0 0 0 0) ((i : Nat) : Int) ((j : Nat) : Int))).toInt64))), (0, .ref (ad 0 0)), (3, iv ((i : Nat) : Int)), (4, iv ((j : Nat) : Int))]) dX10_digest_98 rfl (by decide) rfl ?_
            refine z_iinc hC 3 (L' := [(4, iv (((j : Nat) : Int) + 1)), (1, .long (((dgo (fun w => platToldM (zup M 0 0 0 0) i w) (dgg (fun x9 d => digPM (zup M 0 0 0 0) x9 d) (dgM2 (zup M 0 0 0 0)) i) j) * (31 : Int64)) + ((Int32.ofInt (platToldM (zup M 0 0 0 0) ((i : Nat) : Int) ((j : Nat) : Int))).toInt64))), (0, .ref (ad 0 0)), (3, iv ((i : Nat) : Int))]) dX10_digest_99 rfl (by decide) rfl ?_
            refine z_goto hC 77 dX10_digest_102 (by decide) ?_
            refine z_perm [2, 1, 3, 0] (L' := [(0, .ref (ad 0 0)), (1, .long (((dgo (fun w => platToldM (zup M 0 0 0 0) i w) (dgg (fun x9 d => digPM (zup M 0 0 0 0) x9 d) (dgM2 (zup M 0 0 0 0)) i) j) * (31 : Int64)) + ((Int32.ofInt (platToldM (zup M 0 0 0 0) ((i : Nat) : Int) ((j : Nat) : Int))).toInt64))), (3, iv ((i : Nat) : Int)), (4, iv (((j : Nat) : Int) + 1))]) rfl ?_
            refine z_widen (k := 10 + 8 * i + (j + 1)) (n := 100 + 64 * i + 8 * (j + 1)) (by omega) (by omega) ?_
            exact z_conv (ih77 _ (by omega) (j + 1) (by omega) (by omega) rfl) (by rfl) (by rw [dgo_s]; rfl) (by rfl)
      refine z_iload_n hC 2 rfl dX10_digest_66 rfl ?_
      refine z_aload_n hC 0 rfl dX10_digest_67 rfl ?_
      have hq5 : 0 ≤ M 0 0 1 ∧ M 0 0 1 ≤ 8 := hW.1 0 0 1
      refine z_getI hC zfX10_56 (tmM_0 ad tc _) (okM_0 (by omega)) rfl (x := M 0 0 1) (by simp [zup]) dX10_digest_68 ?_
      refine z_icmp_ge hC 157 dX10_digest_71 (by decide) (by omega) (by omega) (fun c71 => ?_) (fun c71 => ?_)
      · skip
        have he : i = (M 0 0 1).toNat := by omega
        subst he
        refine z_iconst hC dX10_digest_157 ?_
        refine z_istore_n hC (L' := [(3, iv 0), (0, .ref (ad 0 0)), (1, .long (dgg (fun x9 d => digPM (zup M 0 0 0 0) x9 d) (dgM2 (zup M 0 0 0 0)) ((M 0 0 1).toNat)))]) dX10_digest_158 rfl (by decide) rfl ?_
        refine z_perm [1, 2, 0] (L' := [(0, .ref (ad 0 0)), (1, .long (dgg (fun x9 d => digPM (zup M 0 0 0 0) x9 d) (dgM2 (zup M 0 0 0 0)) ((M 0 0 1).toNat))), (3, iv 0)]) rfl ?_
        refine z_widen (k := 74 + 11 * 0) (n := 612 + 121 * 0) (by omega) (by omega) ?_
        exact z_conv (hc159 _ 0 (by omega) rfl) (by rfl) (by rw [dgg_0]; rfl) (by rfl)
      · skip
        refine z_iconst hC dX10_digest_74 ?_
        refine z_istore hC (L' := [(4, iv 0), (0, .ref (ad 0 0)), (1, .long (dgg (fun x9 d => digPM (zup M 0 0 0 0) x9 d) (dgM2 (zup M 0 0 0 0)) i)), (3, iv ((i : Nat) : Int))]) dX10_digest_75 (by decide) rfl ?_
        refine z_perm [1, 2, 3, 0] (L' := [(0, .ref (ad 0 0)), (1, .long (dgg (fun x9 d => digPM (zup M 0 0 0 0) x9 d) (dgM2 (zup M 0 0 0 0)) i)), (3, iv ((i : Nat) : Int)), (4, iv 0)]) rfl ?_
        refine z_widen (k := 10 + 8 * i + 0) (n := 100 + 64 * i + 8 * 0) (by omega) (by omega) ?_
        exact z_conv (hc77 _ 0 (by omega) (by omega) rfl) (by rfl) (by rw [dgo_0]; rfl) (by rfl)
  have hc38 : ∀ (d38 : Nat) (j : Nat) (hj : j ≤ 12), 12 - j = d38 → zV p l e (zrm 64 206 2064) s m args below meth c (MQ below (zQl D ad okM (tmM ad tc) (dgM5 (zup M 0 0 0 0)) (zup M 0 0 0 0) (zA ad okM s.heap.size)) args s 206 2064 (zA ad okM s.heap.size)) D ad okM (tmM ad tc) (zA ad okM s.heap.size) s.heap 5 (10) (100) (zup M 0 0 0 0) [(0, .ref (ad 0 0)), (1, .long (dgo (fun k => (zup M 0 0 0 0) 7 0 k) (dgo (fun w => countedM (zup M 0 0 0 0) w) 593 10) j)), (3, iv ((j : Nat) : Int))] 38 [] := by
    intro d38
    induction d38 using Nat.strongRecOn with
    | _ d38 ih38 =>
      intro j hj hd38
      refine z_iload_n hC 2 rfl dX10_digest_38 rfl ?_
      refine z_bipush hC dX10_digest_39 (by decide) ?_
      refine z_icmp_ge hC 64 dX10_digest_41 (by decide) (by omega) (by omega) (fun c41 => ?_) (fun c41 => ?_)
      · skip
        have he : j = 12 := by omega
        subst he
        refine z_iconst hC dX10_digest_64 ?_
        refine z_istore_n hC (L' := [(3, iv 0), (0, .ref (ad 0 0)), (1, .long (dgo (fun k => (zup M 0 0 0 0) 7 0 k) (dgo (fun w => countedM (zup M 0 0 0 0) w) 593 10) 12))]) dX10_digest_65 rfl (by decide) rfl ?_
        refine z_perm [1, 2, 0] (L' := [(0, .ref (ad 0 0)), (1, .long (dgo (fun k => (zup M 0 0 0 0) 7 0 k) (dgo (fun w => countedM (zup M 0 0 0 0) w) 593 10) 12)), (3, iv 0)]) rfl ?_
        refine z_widen (k := 10 + 8 * 0) (n := 100 + 64 * 0) (by omega) (by omega) ?_
        exact z_conv (hc66 _ 0 (by omega) rfl) (by rfl) (by rw [dgg_0]; rfl) (by rfl)
      · skip
        refine z_lload_n hC 1 rfl dX10_digest_44 rfl ?_
        refine z_ldc2 hC (v := (31 : Int64)) dX10_digest_45 (zin 1120 (by decide +kernel) rfl) ?_
        refine z_lmul hC dX10_digest_48 ?_
        refine z_aload_n hC 0 rfl dX10_digest_49 rfl ?_
        refine z_getR hC zfX10_28 (tmM_0 ad tc _) (okM_0 (by omega)) rfl dX10_digest_50 ?_
        refine z_iload_n hC 2 rfl dX10_digest_53 rfl ?_
        have hq6 : 0 ≤ M 7 0 j ∧ M 7 0 j ≤ 9 := hW.1 7 0 j
        refine z_iaload hC 0 (j) (tmM_7 ad tc _) (tysM_0 tc) (okM_7 (by omega)) (rfl) (by omega) (by decide) (x := M 7 0 j) (by simp [zup]) dX10_digest_54 ?_
        refine z_i2l hC dX10_digest_55 ?_
        refine z_ladd hC dX10_digest_56 ?_
        refine z_lstore_n hC (L' := [(1, .long (((dgo (fun k => (zup M 0 0 0 0) 7 0 k) (dgo (fun w => countedM (zup M 0 0 0 0) w) 593 10) j) * (31 : Int64)) + ((Int32.ofInt (M 7 0 j)).toInt64))), (0, .ref (ad 0 0)), (3, iv ((j : Nat) : Int))]) dX10_digest_57 rfl (by decide) rfl ?_
        refine z_iinc hC 2 (L' := [(3, iv (((j : Nat) : Int) + 1)), (1, .long (((dgo (fun k => (zup M 0 0 0 0) 7 0 k) (dgo (fun w => countedM (zup M 0 0 0 0) w) 593 10) j) * (31 : Int64)) + ((Int32.ofInt (M 7 0 j)).toInt64))), (0, .ref (ad 0 0))]) dX10_digest_58 rfl (by decide) rfl ?_
        refine z_goto hC 38 dX10_digest_61 (by decide) ?_
        refine z_perm [2, 1, 0] (L' := [(0, .ref (ad 0 0)), (1, .long (((dgo (fun k => (zup M 0 0 0 0) 7 0 k) (dgo (fun w => countedM (zup M 0 0 0 0) w) 593 10) j) * (31 : Int64)) + ((Int32.ofInt (M 7 0 j)).toInt64))), (3, iv (((j : Nat) : Int) + 1))]) rfl ?_
        refine z_widen (k := 10) (n := 100) (by omega) (by omega) ?_
        exact z_conv (ih38 _ (by omega) (j + 1) (by omega) rfl) (by rfl) (by rw [dgo_s]; rfl) (by rfl)
  have hc11 : ∀ (d11 : Nat) (j : Nat) (hj : j ≤ 10), 10 - j = d11 → zV p l e (zrm 64 206 2064) s m args below meth c (MQ below (zQl D ad okM (tmM ad tc) (dgM5 (zup M 0 0 0 0)) (zup M 0 0 0 0) (zA ad okM s.heap.size)) args s 206 2064 (zA ad okM s.heap.size)) D ad okM (tmM ad tc) (zA ad okM s.heap.size) s.heap 5 (j) (10 * j) (zup M 0 0 0 0) [(0, .ref (ad 0 0)), (1, .long (dgo (fun w => countedM (zup M 0 0 0 0) w) 593 j)), (3, iv ((j : Nat) : Int))] 11 [] := by
    intro d11
    induction d11 using Nat.strongRecOn with
    | _ d11 ih11 =>
      intro j hj hd11
      refine z_iload_n hC 2 rfl dX10_digest_11 rfl ?_
      refine z_bipush hC dX10_digest_12 (by decide) ?_
      refine z_icmp_ge hC 36 dX10_digest_14 (by decide) (by omega) (by omega) (fun c14 => ?_) (fun c14 => ?_)
      · skip
        have he : j = 10 := by omega
        subst he
        refine z_iconst hC dX10_digest_36 ?_
        refine z_istore_n hC (L' := [(3, iv 0), (0, .ref (ad 0 0)), (1, .long (dgo (fun w => countedM (zup M 0 0 0 0) w) 593 10))]) dX10_digest_37 rfl (by decide) rfl ?_
        refine z_perm [1, 2, 0] (L' := [(0, .ref (ad 0 0)), (1, .long (dgo (fun w => countedM (zup M 0 0 0 0) w) 593 10)), (3, iv 0)]) rfl ?_
        refine z_widen (k := 10) (n := 100) (by omega) (by omega) ?_
        exact z_conv (hc38 _ 0 (by omega) rfl) (by rfl) (by rw [dgo_0]; rfl) (by rfl)
      · skip
        refine z_lload_n hC 1 rfl dX10_digest_17 rfl ?_
        refine z_ldc2 hC (v := (31 : Int64)) dX10_digest_18 (zin 1120 (by decide +kernel) rfl) ?_
        refine z_lmul hC dX10_digest_21 ?_
        refine z_aload_n hC 0 rfl dX10_digest_22 rfl ?_
        refine z_iload_n hC 2 rfl dX10_digest_23 rfl ?_
        refine z_callVi hC zlX10_171 (k_X10_counted l D tc ad hI (zup M 0 0 0 0) ((j : Nat) : Int) hW1 ⟨by omega, by omega⟩) (tmM_0 ad tc _) rfl (okM_0 (by omega)) rfl rfl (Nat.le_of_ble_eq_true rfl) ⟨by decide, by decide⟩ ⟨by show _ ≤ 206; omega, by show _ ≤ 2064; omega⟩ dX10_digest_24 ?_
        refine z_i2l hC dX10_digest_27 ?_
        refine z_ladd hC dX10_digest_28 ?_
        refine z_lstore_n hC (L' := [(1, .long (((dgo (fun w => countedM (zup M 0 0 0 0) w) 593 j) * (31 : Int64)) + ((Int32.ofInt (countedM (zup M 0 0 0 0) ((j : Nat) : Int))).toInt64))), (0, .ref (ad 0 0)), (3, iv ((j : Nat) : Int))]) dX10_digest_29 rfl (by decide) rfl ?_
        refine z_iinc hC 2 (L' := [(3, iv (((j : Nat) : Int) + 1)), (1, .long (((dgo (fun w => countedM (zup M 0 0 0 0) w) 593 j) * (31 : Int64)) + ((Int32.ofInt (countedM (zup M 0 0 0 0) ((j : Nat) : Int))).toInt64))), (0, .ref (ad 0 0))]) dX10_digest_30 rfl (by decide) rfl ?_
        refine z_goto hC 11 dX10_digest_33 (by decide) ?_
        refine z_perm [2, 1, 0] (L' := [(0, .ref (ad 0 0)), (1, .long (((dgo (fun w => countedM (zup M 0 0 0 0) w) 593 j) * (31 : Int64)) + ((Int32.ofInt (countedM (zup M 0 0 0 0) ((j : Nat) : Int))).toInt64))), (3, iv (((j : Nat) : Int) + 1))]) rfl ?_
        refine z_widen (k := (j + 1)) (n := 10 * (j + 1)) (by omega) (by omega) ?_
        exact z_conv (ih11 _ (by omega) (j + 1) (by omega) rfl) (by rfl) (by rw [dgo_s]; rfl) (by rfl)
  refine z_aload_n hC 0 rfl dX10_digest_0 rfl ?_
  refine z_iconst hC dX10_digest_1 ?_
  refine z_put hC zgX10_52 (tmM_0 ad tc _) (okM_0 (by omega)) rfl dX10_digest_2 ?_
  have hW1 : WTM T U (zup M 0 0 0 0) := hW.thr ⟨by omega, by omega⟩
  refine z_ldc2 hC (v := (593 : Int64)) dX10_digest_5 (zin 1119 (by decide +kernel) rfl) ?_
  refine z_lstore_n hC (L' := [(1, .long (593 : Int64)), (0, .ref (ad 0 0))]) dX10_digest_8 rfl (by decide) rfl ?_
  refine z_iconst hC dX10_digest_9 ?_
  refine z_istore_n hC (L' := [(3, iv 0), (1, .long (593 : Int64)), (0, .ref (ad 0 0))]) dX10_digest_10 rfl (by decide) rfl ?_
  refine z_perm [2, 1, 0] (L' := [(0, .ref (ad 0 0)), (1, .long (593 : Int64)), (3, iv 0)]) rfl ?_
  refine z_widen (k := 0) (n := 10 * 0) (by omega) (by omega) ?_
  exact z_conv (hc11 _ 0 (by omega) rfl) (by rfl) (by rw [dgo_0]; rfl) (by rfl)
