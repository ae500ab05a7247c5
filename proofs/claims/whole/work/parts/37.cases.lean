set_option maxHeartbeats 4000000 in
set_option maxRecDepth 100000 in
theorem law_build {p : Program} {l : Launch} {e : Env} {s : State} {m : MethodId} {args : Array Value} {below : List Frame} {meth : Method} {c : Code} {Q : State → Prop} {D : va_G} {tc : Nat → ClassId} {tL : ClassId} {b : Nat} {A : Nat → Prop} {sb Ls : Nat} {xs : Nat → Int32} (hctx : zLC p l s m args c D tc tL b A sb Ls xs) (Rel : Nat → zM → zM → Prop) (hwt : zSt_wt Rel) (hst : zSt_build Rel) {n : Nat} {C M : zM} {v : Int64} (hRel : Rel n C M) (hn : n < 512) (h5 : 5 * n + 5 ≤ Ls) (hgo : ∀ (C9 M9 : zM) (v9 : Int64), Rel (n + 1) C9 M9 → zL p l e room_1 s m args below meth c Q D tc tL b A s.heap 9 (300 + 300 * (n + 1)) (3000 + 3000 * (n + 1)) (C9) (M9) v9 [(0, .ref sb), (1, .ref (adC b 0 0)), (2, .ref (adM (b + 181) 0 0)), (3, .ref (b + 220)), (4, iv ((5 * n : Nat) : Int))] 1207 []) : zL p l e room_1 s m args below meth c Q D tc tL b A s.heap 9 (300 + 300 * n) (3000 + 3000 * n) (C) (M) v [(0, .ref sb), (1, .ref (adC b 0 0)), (2, .ref (adM (b + 181) 0 0)), (3, .ref (b + 220)), (4, iv ((5 * n : Nat) : Int))] 120 [] := by
  obtain ⟨hC, hCM, hCC, hX, hNc, hAb, hH0, hXs, hbl, hbA, hLs, hlt⟩ := hctx
  obtain ⟨hWC, hWM⟩ := hwt n C M hRel (by omega)
  obtain ⟨e1, e2, e3⟩ := hst n C M hRel hn ((xs (5 * n + 1)).toInt) ((xs (5 * n + 2)).toInt) ((xs (5 * n + 3)).toInt) (zi_toInt_bd _) (zi_toInt_bd _) (zi_toInt_bd _)
  have hkb := wcd_bd 1 2 0 (kBuild C ((xs (5 * n + 1)).toInt) ((xs (5 * n + 2)).toInt) ((xs (5 * n + 3)).toInt))
  refine zl_aload_n hC 1 rfl dL_law_120 rfl ?_
  refine zl_aload_n hC 0 rfl dL_law_121 rfl ?_
  refine zl_iload hC 4 rfl dL_law_122 ?_
  refine zl_iconst hC dL_law_124 ?_
  refine zl_iadd hC dL_law_125 ?_
  refine zl_sld hC hXs hbl hbA (5 * n + 1) (by omega) (by omega) (by omega) dL_law_126 ?_
  refine zl_aload_n hC 0 rfl dL_law_127 rfl ?_
  refine zl_iload hC 4 rfl dL_law_128 ?_
  refine zl_iconst hC dL_law_130 ?_
  refine zl_iadd hC dL_law_131 ?_
  refine zl_sld hC hXs hbl hbA (5 * n + 2) (by omega) (by omega) (by omega) dL_law_132 ?_
  refine zl_aload_n hC 0 rfl dL_law_133 rfl ?_
  refine zl_iload hC 4 rfl dL_law_134 ?_
  refine zl_iconst hC dL_law_136 ?_
  refine zl_iadd hC dL_law_137 ?_
  refine zl_sld hC hXs hbl hbA (5 * n + 3) (by omega) (by omega) (by omega) dL_law_138 ?_
  refine zl_aload_n hC 3 rfl dL_law_139 rfl ?_
  refine zl_callW hC hX hNc hAb hH0 zlw_build (w_build l hlt D tc tL (adC b) (zI_adC b) (b + 220) (fun f i ho => adC_out ho) C ((xs (5 * n + 1)).toInt) ((xs (5 * n + 2)).toInt) ((xs (5 * n + 3)).toInt) hWC (zi_toInt_bd _) (zi_toInt_bd _) (zi_toInt_bd _)) rfl rfl (Nat.le_of_ble_eq_true rfl) ⟨by decide, by decide⟩ ⟨by show _ ≤ 601024; omega, by show _ ≤ 7293034; omega⟩ dL_law_140 ?_
  refine zl_istore hC (L' := [(5, iv (wcd 1 2 0 (kBuild C ((xs (5 * n + 1)).toInt) ((xs (5 * n + 2)).toInt) ((xs (5 * n + 3)).toInt)))), (0, .ref sb), (1, .ref (adC b 0 0)), (2, .ref (adM (b + 181) 0 0)), (3, .ref (b + 220)), (4, iv ((5 * n : Nat) : Int))]) dL_law_143 (by decide) rfl ?_
  refine zl_aload_n hC 3 rfl dL_law_145 rfl ?_
  refine zl_aload_n hC 1 rfl dL_law_146 rfl ?_
  refine zl_iload hC 5 rfl dL_law_147 ?_
  refine zl_iconst hC dL_law_149 ?_
  refine zl_iadd hC dL_law_150 ?_
  refine zl_sld hC hXs hbl hbA (5 * n + 1) (by omega) (by omega) (by omega) dL_law_151 ?_
  refine zl_aload_n hC 1 rfl dL_law_152 rfl ?_
  refine zl_iload hC 5 rfl dL_law_153 ?_
  refine zl_iconst hC dL_law_155 ?_
  refine zl_iadd hC dL_law_156 ?_
  refine zl_sld hC hXs hbl hbA (5 * n + 2) (by omega) (by omega) (by omega) dL_law_157 ?_
  refine zl_aload_n hC 1 rfl dL_law_158 rfl ?_
  refine zl_iload hC 5 rfl dL_law_159 ?_
  refine zl_iconst hC dL_law_161 ?_
  refine zl_iadd hC dL_law_162 ?_
  refine zl_sld hC hXs hbl hbA (5 * n + 3) (by omega) (by omega) (by omega) dL_law_163 ?_
  refine zl_callM hCM zlL_73 (k_X10_build l D tc (adM (b + 181)) (zI_adM (b + 181)) M ((xs (5 * n + 1)).toInt) ((xs (5 * n + 2)).toInt) ((xs (5 * n + 3)).toInt) hWM (zi_toInt_bd _) (zi_toInt_bd _) (zi_toInt_bd _)) (tmM_0 (adM (b + 181)) tc 0) rfl rfl rfl (Nat.le_of_ble_eq_true rfl) ⟨by decide, by decide⟩ ⟨by show _ ≤ 601024; omega, by show _ ≤ 7293034; omega⟩ dL_law_164 ?_
  refine zl_istore hC (L' := [(6, iv (buildR M ((xs (5 * n + 1)).toInt) ((xs (5 * n + 2)).toInt) ((xs (5 * n + 3)).toInt))), (5, iv (wcd 1 2 0 (kBuild C ((xs (5 * n + 1)).toInt) ((xs (5 * n + 2)).toInt) ((xs (5 * n + 3)).toInt)))), (0, .ref sb), (1, .ref (adC b 0 0)), (2, .ref (adM (b + 181) 0 0)), (3, .ref (b + 220)), (4, iv ((5 * n : Nat) : Int))]) dL_law_167 (by decide) rfl ?_
  refine zl_aload_n hC 4 rfl dL_law_169 rfl ?_
  refine zl_callM hCM zlL_74 (k_X10_thrown l D tc (adM (b + 181)) (zI_adM (b + 181)) (buildM M ((xs (5 * n + 1)).toInt) ((xs (5 * n + 2)).toInt) ((xs (5 * n + 3)).toInt))) (tmM_0 (adM (b + 181)) tc 0) rfl rfl rfl (Nat.le_of_ble_eq_true rfl) ⟨by decide, by decide⟩ ⟨by show _ ≤ 601024; omega, by show _ ≤ 7293034; omega⟩ dL_law_170 ?_
  refine zl_iload hC 1 rfl dL_law_173 ?_
  refine zl_conv (St2 := [iv (wcd 1 2 0 (kBuild C ((xs (5 * n + 1)).toInt) ((xs (5 * n + 2)).toInt) ((xs (5 * n + 3)).toInt))), iv (wcd 1 2 0 (kBuild C ((xs (5 * n + 1)).toInt) ((xs (5 * n + 2)).toInt) ((xs (5 * n + 3)).toInt)))]) ?_ rfl rfl rfl rfl (by rw [← e1])
  refine zl_icmp_eq hC 180 dL_law_175 (by decide) (by omega) (by omega) (fun _ => ?_) (fun h => absurd rfl h)
  refine zl_iload hC 1 rfl dL_law_180 ?_
  refine zl_if_ne hC 197 dL_law_182 (by decide) (by omega) (fun c9 => ?_) (fun c9 => ?_)
  · refine zl_goto hC 1207 dL_law_197 (by decide) ?_
    refine zl_perm [2, 3, 4, 5, 6] (L' := [(0, .ref sb), (1, .ref (adC b 0 0)), (2, .ref (adM (b + 181) 0 0)), (3, .ref (b + 220)), (4, iv ((5 * n : Nat) : Int))]) rfl ?_
    refine zl_widen (k := 300 + 300 * (n + 1)) (n := 3000 + 3000 * (n + 1)) (by omega) (by omega) ?_
    exact hgo _ _ _ e3
  · obtain ⟨hk, hr⟩ := e2 c9
    refine zl_aload_n hC 5 rfl dL_law_185 rfl ?_
    refine zl_iconst hC dL_law_186 ?_
    refine zl_laload hC dL_law_187 ?_
    refine zl_iload hC 0 rfl dL_law_188 ?_
    refine zl_i2l hC dL_law_190 ?_
    refine zl_lcmp hC (by rw [if_pos hk, hr]) dL_law_191 ?_
    refine zl_if_eq hC 197 dL_law_192 (by decide) (by omega) (fun _ => ?_) (fun h => absurd rfl h)
    refine zl_goto hC 1207 dL_law_197 (by decide) ?_
    refine zl_perm [2, 3, 4, 5, 6] (L' := [(0, .ref sb), (1, .ref (adC b 0 0)), (2, .ref (adM (b + 181) 0 0)), (3, .ref (b + 220)), (4, iv ((5 * n : Nat) : Int))]) rfl ?_
    refine zl_widen (k := 300 + 300 * (n + 1)) (n := 3000 + 3000 * (n + 1)) (by omega) (by omega) ?_
    exact hgo _ _ _ e3
set_option maxHeartbeats 4000000 in
set_option maxRecDepth 100000 in
theorem law_span {p : Program} {l : Launch} {e : Env} {s : State} {m : MethodId} {args : Array Value} {below : List Frame} {meth : Method} {c : Code} {Q : State → Prop} {D : va_G} {tc : Nat → ClassId} {tL : ClassId} {b : Nat} {A : Nat → Prop} {sb Ls : Nat} {xs : Nat → Int32} (hctx : zLC p l s m args c D tc tL b A sb Ls xs) (Rel : Nat → zM → zM → Prop) (hwt : zSt_wt Rel) (hst : zSt_span Rel) {n : Nat} {C M : zM} {v : Int64} (hRel : Rel n C M) (hn : n < 512) (h5 : 5 * n + 5 ≤ Ls) (hgo : ∀ (C9 M9 : zM) (v9 : Int64), Rel (n + 1) C9 M9 → zL p l e room_1 s m args below meth c Q D tc tL b A s.heap 9 (300 + 300 * (n + 1)) (3000 + 3000 * (n + 1)) (C9) (M9) v9 [(0, .ref sb), (1, .ref (adC b 0 0)), (2, .ref (adM (b + 181) 0 0)), (3, .ref (b + 220)), (4, iv ((5 * n : Nat) : Int))] 1207 []) : zL p l e room_1 s m args below meth c Q D tc tL b A s.heap 9 (300 + 300 * n) (3000 + 3000 * n) (C) (M) v [(0, .ref sb), (1, .ref (adC b 0 0)), (2, .ref (adM (b + 181) 0 0)), (3, .ref (b + 220)), (4, iv ((5 * n : Nat) : Int))] 200 [] := by
  obtain ⟨hC, hCM, hCC, hX, hNc, hAb, hH0, hXs, hbl, hbA, hLs, hlt⟩ := hctx
  obtain ⟨hWC, hWM⟩ := hwt n C M hRel (by omega)
  obtain ⟨e1, e2, e3⟩ := hst n C M hRel hn ((xs (5 * n + 1)).toInt) ((xs (5 * n + 2)).toInt) ((xs (5 * n + 3)).toInt) ((xs (5 * n + 4)).toInt) (zi_toInt_bd _) (zi_toInt_bd _) (zi_toInt_bd _) (zi_toInt_bd _)
  have hkb := wcd_bd 3 1 2 (kSpan C ((xs (5 * n + 1)).toInt) ((xs (5 * n + 2)).toInt) ((xs (5 * n + 3)).toInt) ((xs (5 * n + 4)).toInt))
  refine zl_aload_n hC 1 rfl dL_law_200 rfl ?_
  refine zl_aload_n hC 0 rfl dL_law_201 rfl ?_
  refine zl_iload hC 4 rfl dL_law_202 ?_
  refine zl_iconst hC dL_law_204 ?_
  refine zl_iadd hC dL_law_205 ?_
  refine zl_sld hC hXs hbl hbA (5 * n + 1) (by omega) (by omega) (by omega) dL_law_206 ?_
  refine zl_aload_n hC 0 rfl dL_law_207 rfl ?_
  refine zl_iload hC 4 rfl dL_law_208 ?_
  refine zl_iconst hC dL_law_210 ?_
  refine zl_iadd hC dL_law_211 ?_
  refine zl_sld hC hXs hbl hbA (5 * n + 2) (by omega) (by omega) (by omega) dL_law_212 ?_
  refine zl_aload_n hC 0 rfl dL_law_213 rfl ?_
  refine zl_iload hC 4 rfl dL_law_214 ?_
  refine zl_iconst hC dL_law_216 ?_
  refine zl_iadd hC dL_law_217 ?_
  refine zl_sld hC hXs hbl hbA (5 * n + 3) (by omega) (by omega) (by omega) dL_law_218 ?_
  refine zl_aload_n hC 0 rfl dL_law_219 rfl ?_
  refine zl_iload hC 4 rfl dL_law_220 ?_
  refine zl_iconst hC dL_law_222 ?_
  refine zl_iadd hC dL_law_223 ?_
  refine zl_sld hC hXs hbl hbA (5 * n + 4) (by omega) (by omega) (by omega) dL_law_224 ?_
  refine zl_aload_n hC 3 rfl dL_law_225 rfl ?_
  refine zl_callW hC hX hNc hAb hH0 zlw_span (w_span l hlt D tc tL (adC b) (zI_adC b) (b + 220) (fun f i ho => adC_out ho) C ((xs (5 * n + 1)).toInt) ((xs (5 * n + 2)).toInt) ((xs (5 * n + 3)).toInt) ((xs (5 * n + 4)).toInt) hWC (zi_toInt_bd _) (zi_toInt_bd _) (zi_toInt_bd _) (zi_toInt_bd _)) rfl rfl (Nat.le_of_ble_eq_true rfl) ⟨by decide, by decide⟩ ⟨by show _ ≤ 601024; omega, by show _ ≤ 7293034; omega⟩ dL_law_226 ?_
  refine zl_istore hC (L' := [(5, iv (wcd 3 1 2 (kSpan C ((xs (5 * n + 1)).toInt) ((xs (5 * n + 2)).toInt) ((xs (5 * n + 3)).toInt) ((xs (5 * n + 4)).toInt)))), (0, .ref sb), (1, .ref (adC b 0 0)), (2, .ref (adM (b + 181) 0 0)), (3, .ref (b + 220)), (4, iv ((5 * n : Nat) : Int))]) dL_law_229 (by decide) rfl ?_
  refine zl_aload_n hC 3 rfl dL_law_231 rfl ?_
  refine zl_aload_n hC 1 rfl dL_law_232 rfl ?_
  refine zl_iload hC 5 rfl dL_law_233 ?_
  refine zl_iconst hC dL_law_235 ?_
  refine zl_iadd hC dL_law_236 ?_
  refine zl_sld hC hXs hbl hbA (5 * n + 1) (by omega) (by omega) (by omega) dL_law_237 ?_
  refine zl_aload_n hC 1 rfl dL_law_238 rfl ?_
  refine zl_iload hC 5 rfl dL_law_239 ?_
  refine zl_iconst hC dL_law_241 ?_
  refine zl_iadd hC dL_law_242 ?_
  refine zl_sld hC hXs hbl hbA (5 * n + 2) (by omega) (by omega) (by omega) dL_law_243 ?_
  refine zl_aload_n hC 1 rfl dL_law_244 rfl ?_
  refine zl_iload hC 5 rfl dL_law_245 ?_
  refine zl_iconst hC dL_law_247 ?_
  refine zl_iadd hC dL_law_248 ?_
  refine zl_sld hC hXs hbl hbA (5 * n + 3) (by omega) (by omega) (by omega) dL_law_249 ?_
  refine zl_aload_n hC 1 rfl dL_law_250 rfl ?_
  refine zl_iload hC 5 rfl dL_law_251 ?_
  refine zl_iconst hC dL_law_253 ?_
  refine zl_iadd hC dL_law_254 ?_
  refine zl_sld hC hXs hbl hbA (5 * n + 4) (by omega) (by omega) (by omega) dL_law_255 ?_
  refine zl_callM hCM zlL_81 (k_X10_span l D tc (adM (b + 181)) (zI_adM (b + 181)) M ((xs (5 * n + 1)).toInt) ((xs (5 * n + 2)).toInt) ((xs (5 * n + 3)).toInt) ((xs (5 * n + 4)).toInt) hWM (zi_toInt_bd _) (zi_toInt_bd _) (zi_toInt_bd _) (zi_toInt_bd _)) (tmM_0 (adM (b + 181)) tc 0) rfl rfl rfl (Nat.le_of_ble_eq_true rfl) ⟨by decide, by decide⟩ ⟨by show _ ≤ 601024; omega, by show _ ≤ 7293034; omega⟩ dL_law_256 ?_
  refine zl_istore hC (L' := [(6, iv (spanR M ((xs (5 * n + 1)).toInt) ((xs (5 * n + 2)).toInt) ((xs (5 * n + 3)).toInt) ((xs (5 * n + 4)).toInt))), (5, iv (wcd 3 1 2 (kSpan C ((xs (5 * n + 1)).toInt) ((xs (5 * n + 2)).toInt) ((xs (5 * n + 3)).toInt) ((xs (5 * n + 4)).toInt)))), (0, .ref sb), (1, .ref (adC b 0 0)), (2, .ref (adM (b + 181) 0 0)), (3, .ref (b + 220)), (4, iv ((5 * n : Nat) : Int))]) dL_law_259 (by decide) rfl ?_
  refine zl_aload_n hC 4 rfl dL_law_261 rfl ?_
  refine zl_callM hCM zlL_74 (k_X10_thrown l D tc (adM (b + 181)) (zI_adM (b + 181)) (spanM M ((xs (5 * n + 1)).toInt) ((xs (5 * n + 2)).toInt) ((xs (5 * n + 3)).toInt) ((xs (5 * n + 4)).toInt))) (tmM_0 (adM (b + 181)) tc 0) rfl rfl rfl (Nat.le_of_ble_eq_true rfl) ⟨by decide, by decide⟩ ⟨by show _ ≤ 601024; omega, by show _ ≤ 7293034; omega⟩ dL_law_262 ?_
  refine zl_iload hC 1 rfl dL_law_265 ?_
  refine zl_conv (St2 := [iv (wcd 3 1 2 (kSpan C ((xs (5 * n + 1)).toInt) ((xs (5 * n + 2)).toInt) ((xs (5 * n + 3)).toInt) ((xs (5 * n + 4)).toInt))), iv (wcd 3 1 2 (kSpan C ((xs (5 * n + 1)).toInt) ((xs (5 * n + 2)).toInt) ((xs (5 * n + 3)).toInt) ((xs (5 * n + 4)).toInt)))]) ?_ rfl rfl rfl rfl (by rw [← e1])
  refine zl_icmp_eq hC 272 dL_law_267 (by decide) (by omega) (by omega) (fun _ => ?_) (fun h => absurd rfl h)
  refine zl_iload hC 1 rfl dL_law_272 ?_
  refine zl_if_ne hC 289 dL_law_274 (by decide) (by omega) (fun c9 => ?_) (fun c9 => ?_)
  · refine zl_goto hC 1207 dL_law_289 (by decide) ?_
    refine zl_perm [2, 3, 4, 5, 6] (L' := [(0, .ref sb), (1, .ref (adC b 0 0)), (2, .ref (adM (b + 181) 0 0)), (3, .ref (b + 220)), (4, iv ((5 * n : Nat) : Int))]) rfl ?_
    refine zl_widen (k := 300 + 300 * (n + 1)) (n := 3000 + 3000 * (n + 1)) (by omega) (by omega) ?_
    exact hgo _ _ _ e3
  · obtain ⟨hk, hr⟩ := e2 c9
    refine zl_aload_n hC 5 rfl dL_law_277 rfl ?_
    refine zl_iconst hC dL_law_278 ?_
    refine zl_laload hC dL_law_279 ?_
    refine zl_iload hC 0 rfl dL_law_280 ?_
    refine zl_i2l hC dL_law_282 ?_
    refine zl_lcmp hC (by rw [if_pos hk, hr]) dL_law_283 ?_
    refine zl_if_eq hC 289 dL_law_284 (by decide) (by omega) (fun _ => ?_) (fun h => absurd rfl h)
    refine zl_goto hC 1207 dL_law_289 (by decide) ?_
    refine zl_perm [2, 3, 4, 5, 6] (L' := [(0, .ref sb), (1, .ref (adC b 0 0)), (2, .ref (adM (b + 181) 0 0)), (3, .ref (b + 220)), (4, iv ((5 * n : Nat) : Int))]) rfl ?_
    refine zl_widen (k := 300 + 300 * (n + 1)) (n := 3000 + 3000 * (n + 1)) (by omega) (by omega) ?_
    exact hgo _ _ _ e3
set_option maxHeartbeats 4000000 in
set_option maxRecDepth 100000 in
theorem law_add {p : Program} {l : Launch} {e : Env} {s : State} {m : MethodId} {args : Array Value} {below : List Frame} {meth : Method} {c : Code} {Q : State → Prop} {D : va_G} {tc : Nat → ClassId} {tL : ClassId} {b : Nat} {A : Nat → Prop} {sb Ls : Nat} {xs : Nat → Int32} (hctx : zLC p l s m args c D tc tL b A sb Ls xs) (Rel : Nat → zM → zM → Prop) (hwt : zSt_wt Rel) (hst : zSt_add Rel) {n : Nat} {C M : zM} {v : Int64} (hRel : Rel n C M) (hn : n < 512) (h5 : 5 * n + 5 ≤ Ls) (hgo : ∀ (C9 M9 : zM) (v9 : Int64), Rel (n + 1) C9 M9 → zL p l e room_1 s m args below meth c Q D tc tL b A s.heap 9 (300 + 300 * (n + 1)) (3000 + 3000 * (n + 1)) (C9) (M9) v9 [(0, .ref sb), (1, .ref (adC b 0 0)), (2, .ref (adM (b + 181) 0 0)), (3, .ref (b + 220)), (4, iv ((5 * n : Nat) : Int))] 1207 []) : zL p l e room_1 s m args below meth c Q D tc tL b A s.heap 9 (300 + 300 * n) (3000 + 3000 * n) (C) (M) v [(0, .ref sb), (1, .ref (adC b 0 0)), (2, .ref (adM (b + 181) 0 0)), (3, .ref (b + 220)), (4, iv ((5 * n : Nat) : Int))] 292 [] := by
  obtain ⟨hC, hCM, hCC, hX, hNc, hAb, hH0, hXs, hbl, hbA, hLs, hlt⟩ := hctx
  obtain ⟨hWC, hWM⟩ := hwt n C M hRel (by omega)
  obtain ⟨e1, e2, e3⟩ := hst n C M hRel hn ((xs (5 * n + 1)).toInt) (zi_toInt_bd _)
  have hkb := wcd_bd 3 2 0 (kAdd C ((xs (5 * n + 1)).toInt))
  refine zl_aload_n hC 1 rfl dL_law_292 rfl ?_
  refine zl_aload_n hC 0 rfl dL_law_293 rfl ?_
  refine zl_iload hC 4 rfl dL_law_294 ?_
  refine zl_iconst hC dL_law_296 ?_
  refine zl_iadd hC dL_law_297 ?_
  refine zl_sld hC hXs hbl hbA (5 * n + 1) (by omega) (by omega) (by omega) dL_law_298 ?_
  refine zl_aload_n hC 3 rfl dL_law_299 rfl ?_
  refine zl_callW hC hX hNc hAb hH0 zlw_add (w_add l hlt D tc tL (adC b) (zI_adC b) (b + 220) (fun f i ho => adC_out ho) C ((xs (5 * n + 1)).toInt) hWC (zi_toInt_bd _)) rfl rfl (Nat.le_of_ble_eq_true rfl) ⟨by decide, by decide⟩ ⟨by show _ ≤ 601024; omega, by show _ ≤ 7293034; omega⟩ dL_law_300 ?_
  refine zl_istore hC (L' := [(5, iv (wcd 3 2 0 (kAdd C ((xs (5 * n + 1)).toInt)))), (0, .ref sb), (1, .ref (adC b 0 0)), (2, .ref (adM (b + 181) 0 0)), (3, .ref (b + 220)), (4, iv ((5 * n : Nat) : Int))]) dL_law_303 (by decide) rfl ?_
  refine zl_aload_n hC 3 rfl dL_law_305 rfl ?_
  refine zl_aload_n hC 1 rfl dL_law_306 rfl ?_
  refine zl_iload hC 5 rfl dL_law_307 ?_
  refine zl_iconst hC dL_law_309 ?_
  refine zl_iadd hC dL_law_310 ?_
  refine zl_sld hC hXs hbl hbA (5 * n + 1) (by omega) (by omega) (by omega) dL_law_311 ?_
  refine zl_callM hCM zlL_85 (k_X10_add l D tc (adM (b + 181)) (zI_adM (b + 181)) M ((xs (5 * n + 1)).toInt) hWM (zi_toInt_bd _)) (tmM_0 (adM (b + 181)) tc 0) rfl rfl rfl (Nat.le_of_ble_eq_true rfl) ⟨by decide, by decide⟩ ⟨by show _ ≤ 601024; omega, by show _ ≤ 7293034; omega⟩ dL_law_312 ?_
  refine zl_istore hC (L' := [(6, iv (addR M ((xs (5 * n + 1)).toInt))), (5, iv (wcd 3 2 0 (kAdd C ((xs (5 * n + 1)).toInt)))), (0, .ref sb), (1, .ref (adC b 0 0)), (2, .ref (adM (b + 181) 0 0)), (3, .ref (b + 220)), (4, iv ((5 * n : Nat) : Int))]) dL_law_315 (by decide) rfl ?_
  refine zl_aload_n hC 4 rfl dL_law_317 rfl ?_
  refine zl_callM hCM zlL_74 (k_X10_thrown l D tc (adM (b + 181)) (zI_adM (b + 181)) (addM M ((xs (5 * n + 1)).toInt))) (tmM_0 (adM (b + 181)) tc 0) rfl rfl rfl (Nat.le_of_ble_eq_true rfl) ⟨by decide, by decide⟩ ⟨by show _ ≤ 601024; omega, by show _ ≤ 7293034; omega⟩ dL_law_318 ?_
  refine zl_iload hC 1 rfl dL_law_321 ?_
  refine zl_conv (St2 := [iv (wcd 3 2 0 (kAdd C ((xs (5 * n + 1)).toInt))), iv (wcd 3 2 0 (kAdd C ((xs (5 * n + 1)).toInt)))]) ?_ rfl rfl rfl rfl (by rw [← e1])
  refine zl_icmp_eq hC 328 dL_law_323 (by decide) (by omega) (by omega) (fun _ => ?_) (fun h => absurd rfl h)
  refine zl_iload hC 1 rfl dL_law_328 ?_
  refine zl_if_ne hC 345 dL_law_330 (by decide) (by omega) (fun c9 => ?_) (fun c9 => ?_)
  · refine zl_goto hC 1207 dL_law_345 (by decide) ?_
    refine zl_perm [2, 3, 4, 5, 6] (L' := [(0, .ref sb), (1, .ref (adC b 0 0)), (2, .ref (adM (b + 181) 0 0)), (3, .ref (b + 220)), (4, iv ((5 * n : Nat) : Int))]) rfl ?_
    refine zl_widen (k := 300 + 300 * (n + 1)) (n := 3000 + 3000 * (n + 1)) (by omega) (by omega) ?_
    exact hgo _ _ _ e3
  · obtain ⟨hk, hr⟩ := e2 c9
    refine zl_aload_n hC 5 rfl dL_law_333 rfl ?_
    refine zl_iconst hC dL_law_334 ?_
    refine zl_laload hC dL_law_335 ?_
    refine zl_iload hC 0 rfl dL_law_336 ?_
    refine zl_i2l hC dL_law_338 ?_
    refine zl_lcmp hC (by rw [if_pos hk, hr]) dL_law_339 ?_
    refine zl_if_eq hC 345 dL_law_340 (by decide) (by omega) (fun _ => ?_) (fun h => absurd rfl h)
    refine zl_goto hC 1207 dL_law_345 (by decide) ?_
    refine zl_perm [2, 3, 4, 5, 6] (L' := [(0, .ref sb), (1, .ref (adC b 0 0)), (2, .ref (adM (b + 181) 0 0)), (3, .ref (b + 220)), (4, iv ((5 * n : Nat) : Int))]) rfl ?_
    refine zl_widen (k := 300 + 300 * (n + 1)) (n := 3000 + 3000 * (n + 1)) (by omega) (by omega) ?_
    exact hgo _ _ _ e3
set_option maxHeartbeats 4000000 in
set_option maxRecDepth 100000 in
theorem law_setWind {p : Program} {l : Launch} {e : Env} {s : State} {m : MethodId} {args : Array Value} {below : List Frame} {meth : Method} {c : Code} {Q : State → Prop} {D : va_G} {tc : Nat → ClassId} {tL : ClassId} {b : Nat} {A : Nat → Prop} {sb Ls : Nat} {xs : Nat → Int32} (hctx : zLC p l s m args c D tc tL b A sb Ls xs) (Rel : Nat → zM → zM → Prop) (hwt : zSt_wt Rel) (hst : zSt_setWind Rel) {n : Nat} {C M : zM} {v : Int64} (hRel : Rel n C M) (hn : n < 512) (h5 : 5 * n + 5 ≤ Ls) (hgo : ∀ (C9 M9 : zM) (v9 : Int64), Rel (n + 1) C9 M9 → zL p l e room_1 s m args below meth c Q D tc tL b A s.heap 9 (300 + 300 * (n + 1)) (3000 + 3000 * (n + 1)) (C9) (M9) v9 [(0, .ref sb), (1, .ref (adC b 0 0)), (2, .ref (adM (b + 181) 0 0)), (3, .ref (b + 220)), (4, iv ((5 * n : Nat) : Int))] 1207 []) : zL p l e room_1 s m args below meth c Q D tc tL b A s.heap 9 (300 + 300 * n) (3000 + 3000 * n) (C) (M) v [(0, .ref sb), (1, .ref (adC b 0 0)), (2, .ref (adM (b + 181) 0 0)), (3, .ref (b + 220)), (4, iv ((5 * n : Nat) : Int))] 348 [] := by
  obtain ⟨hC, hCM, hCC, hX, hNc, hAb, hH0, hXs, hbl, hbA, hLs, hlt⟩ := hctx
  obtain ⟨hWC, hWM⟩ := hwt n C M hRel (by omega)
  obtain ⟨e1, e2, e3⟩ := hst n C M hRel hn ((xs (5 * n + 1)).toInt) ((xs (5 * n + 2)).toInt) (zi_toInt_bd _) (zi_toInt_bd _)
  have hkb := wcd_bd 3 1 0 (kWind ((xs (5 * n + 1)).toInt) ((xs (5 * n + 2)).toInt))
  refine zl_aload_n hC 1 rfl dL_law_348 rfl ?_
  refine zl_aload_n hC 0 rfl dL_law_349 rfl ?_
  refine zl_iload hC 4 rfl dL_law_350 ?_
  refine zl_iconst hC dL_law_352 ?_
  refine zl_iadd hC dL_law_353 ?_
  refine zl_sld hC hXs hbl hbA (5 * n + 1) (by omega) (by omega) (by omega) dL_law_354 ?_
  refine zl_aload_n hC 0 rfl dL_law_355 rfl ?_
  refine zl_iload hC 4 rfl dL_law_356 ?_
  refine zl_iconst hC dL_law_358 ?_
  refine zl_iadd hC dL_law_359 ?_
  refine zl_sld hC hXs hbl hbA (5 * n + 2) (by omega) (by omega) (by omega) dL_law_360 ?_
  refine zl_aload_n hC 3 rfl dL_law_361 rfl ?_
  refine zl_callW hC hX hNc hAb hH0 zlw_setWind (w_setWind l hlt D tc tL (adC b) (zI_adC b) (b + 220) (fun f i ho => adC_out ho) C ((xs (5 * n + 1)).toInt) ((xs (5 * n + 2)).toInt) hWC (zi_toInt_bd _) (zi_toInt_bd _)) rfl rfl (Nat.le_of_ble_eq_true rfl) ⟨by decide, by decide⟩ ⟨by show _ ≤ 601024; omega, by show _ ≤ 7293034; omega⟩ dL_law_362 ?_
  refine zl_istore hC (L' := [(5, iv (wcd 3 1 0 (kWind ((xs (5 * n + 1)).toInt) ((xs (5 * n + 2)).toInt)))), (0, .ref sb), (1, .ref (adC b 0 0)), (2, .ref (adM (b + 181) 0 0)), (3, .ref (b + 220)), (4, iv ((5 * n : Nat) : Int))]) dL_law_365 (by decide) rfl ?_
  refine zl_aload_n hC 3 rfl dL_law_367 rfl ?_
  refine zl_aload_n hC 1 rfl dL_law_368 rfl ?_
  refine zl_iload hC 5 rfl dL_law_369 ?_
  refine zl_iconst hC dL_law_371 ?_
  refine zl_iadd hC dL_law_372 ?_
  refine zl_sld hC hXs hbl hbA (5 * n + 1) (by omega) (by omega) (by omega) dL_law_373 ?_
  refine zl_aload_n hC 1 rfl dL_law_374 rfl ?_
  refine zl_iload hC 5 rfl dL_law_375 ?_
  refine zl_iconst hC dL_law_377 ?_
  refine zl_iadd hC dL_law_378 ?_
  refine zl_sld hC hXs hbl hbA (5 * n + 2) (by omega) (by omega) (by omega) dL_law_379 ?_
  refine zl_callM hCM zlL_89 (k_X10_setWind l D tc (adM (b + 181)) (zI_adM (b + 181)) M ((xs (5 * n + 1)).toInt) ((xs (5 * n + 2)).toInt) hWM (zi_toInt_bd _) (zi_toInt_bd _)) (tmM_0 (adM (b + 181)) tc 0) rfl rfl rfl (Nat.le_of_ble_eq_true rfl) ⟨by decide, by decide⟩ ⟨by show _ ≤ 601024; omega, by show _ ≤ 7293034; omega⟩ dL_law_380 ?_
  refine zl_istore hC (L' := [(6, iv (windR M ((xs (5 * n + 1)).toInt) ((xs (5 * n + 2)).toInt))), (5, iv (wcd 3 1 0 (kWind ((xs (5 * n + 1)).toInt) ((xs (5 * n + 2)).toInt)))), (0, .ref sb), (1, .ref (adC b 0 0)), (2, .ref (adM (b + 181) 0 0)), (3, .ref (b + 220)), (4, iv ((5 * n : Nat) : Int))]) dL_law_383 (by decide) rfl ?_
  refine zl_aload_n hC 4 rfl dL_law_385 rfl ?_
  refine zl_callM hCM zlL_74 (k_X10_thrown l D tc (adM (b + 181)) (zI_adM (b + 181)) (windM M ((xs (5 * n + 1)).toInt) ((xs (5 * n + 2)).toInt))) (tmM_0 (adM (b + 181)) tc 0) rfl rfl rfl (Nat.le_of_ble_eq_true rfl) ⟨by decide, by decide⟩ ⟨by show _ ≤ 601024; omega, by show _ ≤ 7293034; omega⟩ dL_law_386 ?_
  refine zl_iload hC 1 rfl dL_law_389 ?_
  refine zl_conv (St2 := [iv (wcd 3 1 0 (kWind ((xs (5 * n + 1)).toInt) ((xs (5 * n + 2)).toInt))), iv (wcd 3 1 0 (kWind ((xs (5 * n + 1)).toInt) ((xs (5 * n + 2)).toInt)))]) ?_ rfl rfl rfl rfl (by rw [← e1])
  refine zl_icmp_eq hC 396 dL_law_391 (by decide) (by omega) (by omega) (fun _ => ?_) (fun h => absurd rfl h)
  refine zl_iload hC 1 rfl dL_law_396 ?_
  refine zl_if_ne hC 413 dL_law_398 (by decide) (by omega) (fun c9 => ?_) (fun c9 => ?_)
  · refine zl_goto hC 1207 dL_law_413 (by decide) ?_
    refine zl_perm [2, 3, 4, 5, 6] (L' := [(0, .ref sb), (1, .ref (adC b 0 0)), (2, .ref (adM (b + 181) 0 0)), (3, .ref (b + 220)), (4, iv ((5 * n : Nat) : Int))]) rfl ?_
    refine zl_widen (k := 300 + 300 * (n + 1)) (n := 3000 + 3000 * (n + 1)) (by omega) (by omega) ?_
    exact hgo _ _ _ e3
  · obtain ⟨hk, hr⟩ := e2 c9
    refine zl_aload_n hC 5 rfl dL_law_401 rfl ?_
    refine zl_iconst hC dL_law_402 ?_
    refine zl_laload hC dL_law_403 ?_
    refine zl_iload hC 0 rfl dL_law_404 ?_
    refine zl_i2l hC dL_law_406 ?_
    refine zl_lcmp hC (by rw [if_pos hk, hr]) dL_law_407 ?_
    refine zl_if_eq hC 413 dL_law_408 (by decide) (by omega) (fun _ => ?_) (fun h => absurd rfl h)
    refine zl_goto hC 1207 dL_law_413 (by decide) ?_
    refine zl_perm [2, 3, 4, 5, 6] (L' := [(0, .ref sb), (1, .ref (adC b 0 0)), (2, .ref (adM (b + 181) 0 0)), (3, .ref (b + 220)), (4, iv ((5 * n : Nat) : Int))]) rfl ?_
    refine zl_widen (k := 300 + 300 * (n + 1)) (n := 3000 + 3000 * (n + 1)) (by omega) (by omega) ?_
    exact hgo _ _ _ e3
set_option maxHeartbeats 4000000 in
set_option maxRecDepth 100000 in
theorem law_platform {p : Program} {l : Launch} {e : Env} {s : State} {m : MethodId} {args : Array Value} {below : List Frame} {meth : Method} {c : Code} {Q : State → Prop} {D : va_G} {tc : Nat → ClassId} {tL : ClassId} {b : Nat} {A : Nat → Prop} {sb Ls : Nat} {xs : Nat → Int32} (hctx : zLC p l s m args c D tc tL b A sb Ls xs) (Rel : Nat → zM → zM → Prop) (hwt : zSt_wt Rel) (hst : zSt_platform Rel) {n : Nat} {C M : zM} {v : Int64} (hRel : Rel n C M) (hn : n < 512) (h5 : 5 * n + 5 ≤ Ls) (hgo : ∀ (C9 M9 : zM) (v9 : Int64), Rel (n + 1) C9 M9 → zL p l e room_1 s m args below meth c Q D tc tL b A s.heap 9 (300 + 300 * (n + 1)) (3000 + 3000 * (n + 1)) (C9) (M9) v9 [(0, .ref sb), (1, .ref (adC b 0 0)), (2, .ref (adM (b + 181) 0 0)), (3, .ref (b + 220)), (4, iv ((5 * n : Nat) : Int))] 1207 []) : zL p l e room_1 s m args below meth c Q D tc tL b A s.heap 9 (300 + 300 * n) (3000 + 3000 * n) (C) (M) v [(0, .ref sb), (1, .ref (adC b 0 0)), (2, .ref (adM (b + 181) 0 0)), (3, .ref (b + 220)), (4, iv ((5 * n : Nat) : Int))] 416 [] := by
  obtain ⟨hC, hCM, hCC, hX, hNc, hAb, hH0, hXs, hbl, hbA, hLs, hlt⟩ := hctx
  obtain ⟨hWC, hWM⟩ := hwt n C M hRel (by omega)
  obtain ⟨e1, e2, e3⟩ := hst n C M hRel hn ((xs (5 * n + 1)).toInt) ((xs (5 * n + 2)).toInt) (zi_toInt_bd _) (zi_toInt_bd _)
  have hkb := wcd_bd 3 0 0 (kPlat C ((xs (5 * n + 1)).toInt) ((xs (5 * n + 2)).toInt))
  refine zl_aload_n hC 1 rfl dL_law_416 rfl ?_
  refine zl_aload_n hC 0 rfl dL_law_417 rfl ?_
  refine zl_iload hC 4 rfl dL_law_418 ?_
  refine zl_iconst hC dL_law_420 ?_
  refine zl_iadd hC dL_law_421 ?_
  refine zl_sld hC hXs hbl hbA (5 * n + 1) (by omega) (by omega) (by omega) dL_law_422 ?_
  refine zl_aload_n hC 0 rfl dL_law_423 rfl ?_
  refine zl_iload hC 4 rfl dL_law_424 ?_
  refine zl_iconst hC dL_law_426 ?_
  refine zl_iadd hC dL_law_427 ?_
  refine zl_sld hC hXs hbl hbA (5 * n + 2) (by omega) (by omega) (by omega) dL_law_428 ?_
  refine zl_aload_n hC 3 rfl dL_law_429 rfl ?_
  refine zl_callW hC hX hNc hAb hH0 zlw_platform (w_platform l hlt D tc tL (adC b) (zI_adC b) (b + 220) (fun f i ho => adC_out ho) C ((xs (5 * n + 1)).toInt) ((xs (5 * n + 2)).toInt) hWC (zi_toInt_bd _) (zi_toInt_bd _)) rfl rfl (Nat.le_of_ble_eq_true rfl) ⟨by decide, by decide⟩ ⟨by show _ ≤ 601024; omega, by show _ ≤ 7293034; omega⟩ dL_law_430 ?_
  refine zl_istore hC (L' := [(5, iv (wcd 3 0 0 (kPlat C ((xs (5 * n + 1)).toInt) ((xs (5 * n + 2)).toInt)))), (0, .ref sb), (1, .ref (adC b 0 0)), (2, .ref (adM (b + 181) 0 0)), (3, .ref (b + 220)), (4, iv ((5 * n : Nat) : Int))]) dL_law_433 (by decide) rfl ?_
  refine zl_aload_n hC 3 rfl dL_law_435 rfl ?_
  refine zl_aload_n hC 1 rfl dL_law_436 rfl ?_
  refine zl_iload hC 5 rfl dL_law_437 ?_
  refine zl_iconst hC dL_law_439 ?_
  refine zl_iadd hC dL_law_440 ?_
  refine zl_sld hC hXs hbl hbA (5 * n + 1) (by omega) (by omega) (by omega) dL_law_441 ?_
  refine zl_aload_n hC 1 rfl dL_law_442 rfl ?_
  refine zl_iload hC 5 rfl dL_law_443 ?_
  refine zl_iconst hC dL_law_445 ?_
  refine zl_iadd hC dL_law_446 ?_
  refine zl_sld hC hXs hbl hbA (5 * n + 2) (by omega) (by omega) (by omega) dL_law_447 ?_
  refine zl_callM hCM zlL_92 (k_X10_platform l D tc (adM (b + 181)) (zI_adM (b + 181)) M ((xs (5 * n + 1)).toInt) ((xs (5 * n + 2)).toInt) hWM (zi_toInt_bd _) (zi_toInt_bd _)) (tmM_0 (adM (b + 181)) tc 0) rfl rfl rfl (Nat.le_of_ble_eq_true rfl) ⟨by decide, by decide⟩ ⟨by show _ ≤ 601024; omega, by show _ ≤ 7293034; omega⟩ dL_law_448 ?_
  refine zl_istore hC (L' := [(6, iv (platFR M ((xs (5 * n + 1)).toInt) ((xs (5 * n + 2)).toInt))), (5, iv (wcd 3 0 0 (kPlat C ((xs (5 * n + 1)).toInt) ((xs (5 * n + 2)).toInt)))), (0, .ref sb), (1, .ref (adC b 0 0)), (2, .ref (adM (b + 181) 0 0)), (3, .ref (b + 220)), (4, iv ((5 * n : Nat) : Int))]) dL_law_451 (by decide) rfl ?_
  refine zl_aload_n hC 4 rfl dL_law_453 rfl ?_
  refine zl_callM hCM zlL_74 (k_X10_thrown l D tc (adM (b + 181)) (zI_adM (b + 181)) (platFM M ((xs (5 * n + 1)).toInt) ((xs (5 * n + 2)).toInt))) (tmM_0 (adM (b + 181)) tc 0) rfl rfl rfl (Nat.le_of_ble_eq_true rfl) ⟨by decide, by decide⟩ ⟨by show _ ≤ 601024; omega, by show _ ≤ 7293034; omega⟩ dL_law_454 ?_
  refine zl_iload hC 1 rfl dL_law_457 ?_
  refine zl_conv (St2 := [iv (wcd 3 0 0 (kPlat C ((xs (5 * n + 1)).toInt) ((xs (5 * n + 2)).toInt))), iv (wcd 3 0 0 (kPlat C ((xs (5 * n + 1)).toInt) ((xs (5 * n + 2)).toInt)))]) ?_ rfl rfl rfl rfl (by rw [← e1])
  refine zl_icmp_eq hC 464 dL_law_459 (by decide) (by omega) (by omega) (fun _ => ?_) (fun h => absurd rfl h)
  refine zl_iload hC 1 rfl dL_law_464 ?_
  refine zl_if_ne hC 481 dL_law_466 (by decide) (by omega) (fun c9 => ?_) (fun c9 => ?_)
  · refine zl_goto hC 1207 dL_law_481 (by decide) ?_
    refine zl_perm [2, 3, 4, 5, 6] (L' := [(0, .ref sb), (1, .ref (adC b 0 0)), (2, .ref (adM (b + 181) 0 0)), (3, .ref (b + 220)), (4, iv ((5 * n : Nat) : Int))]) rfl ?_
    refine zl_widen (k := 300 + 300 * (n + 1)) (n := 3000 + 3000 * (n + 1)) (by omega) (by omega) ?_
    exact hgo _ _ _ e3
  · obtain ⟨hk, hr⟩ := e2 c9
    refine zl_aload_n hC 5 rfl dL_law_469 rfl ?_
    refine zl_iconst hC dL_law_470 ?_
    refine zl_laload hC dL_law_471 ?_
    refine zl_iload hC 0 rfl dL_law_472 ?_
    refine zl_i2l hC dL_law_474 ?_
    refine zl_lcmp hC (by rw [if_pos hk, hr]) dL_law_475 ?_
    refine zl_if_eq hC 481 dL_law_476 (by decide) (by omega) (fun _ => ?_) (fun h => absurd rfl h)
    refine zl_goto hC 1207 dL_law_481 (by decide) ?_
    refine zl_perm [2, 3, 4, 5, 6] (L' := [(0, .ref sb), (1, .ref (adC b 0 0)), (2, .ref (adM (b + 181) 0 0)), (3, .ref (b + 220)), (4, iv ((5 * n : Nat) : Int))]) rfl ?_
    refine zl_widen (k := 300 + 300 * (n + 1)) (n := 3000 + 3000 * (n + 1)) (by omega) (by omega) ?_
    exact hgo _ _ _ e3
set_option maxHeartbeats 4000000 in
set_option maxRecDepth 100000 in
theorem law_line {p : Program} {l : Launch} {e : Env} {s : State} {m : MethodId} {args : Array Value} {below : List Frame} {meth : Method} {c : Code} {Q : State → Prop} {D : va_G} {tc : Nat → ClassId} {tL : ClassId} {b : Nat} {A : Nat → Prop} {sb Ls : Nat} {xs : Nat → Int32} (hctx : zLC p l s m args c D tc tL b A sb Ls xs) (Rel : Nat → zM → zM → Prop) (hwt : zSt_wt Rel) (hst : zSt_line Rel) {n : Nat} {C M : zM} {v : Int64} (hRel : Rel n C M) (hn : n < 512) (h5 : 5 * n + 5 ≤ Ls) (hgo : ∀ (C9 M9 : zM) (v9 : Int64), Rel (n + 1) C9 M9 → zL p l e room_1 s m args below meth c Q D tc tL b A s.heap 9 (300 + 300 * (n + 1)) (3000 + 3000 * (n + 1)) (C9) (M9) v9 [(0, .ref sb), (1, .ref (adC b 0 0)), (2, .ref (adM (b + 181) 0 0)), (3, .ref (b + 220)), (4, iv ((5 * n : Nat) : Int))] 1207 []) : zL p l e room_1 s m args below meth c Q D tc tL b A s.heap 9 (300 + 300 * n) (3000 + 3000 * n) (C) (M) v [(0, .ref sb), (1, .ref (adC b 0 0)), (2, .ref (adM (b + 181) 0 0)), (3, .ref (b + 220)), (4, iv ((5 * n : Nat) : Int))] 484 [] := by
  obtain ⟨hC, hCM, hCC, hX, hNc, hAb, hH0, hXs, hbl, hbA, hLs, hlt⟩ := hctx
  obtain ⟨hWC, hWM⟩ := hwt n C M hRel (by omega)
  obtain ⟨e1, e2, e3⟩ := hst n C M hRel hn ((xs (5 * n + 1)).toInt) ((xs (5 * n + 2)).toInt) (zi_toInt_bd _) (zi_toInt_bd _)
  have hkb := wcd_bd 3 0 0 (kLine C ((xs (5 * n + 1)).toInt) ((xs (5 * n + 2)).toInt))
  refine zl_aload_n hC 1 rfl dL_law_484 rfl ?_
  refine zl_aload_n hC 0 rfl dL_law_485 rfl ?_
  refine zl_iload hC 4 rfl dL_law_486 ?_
  refine zl_iconst hC dL_law_488 ?_
  refine zl_iadd hC dL_law_489 ?_
  refine zl_sld hC hXs hbl hbA (5 * n + 1) (by omega) (by omega) (by omega) dL_law_490 ?_
  refine zl_aload_n hC 0 rfl dL_law_491 rfl ?_
  refine zl_iload hC 4 rfl dL_law_492 ?_
  refine zl_iconst hC dL_law_494 ?_
  refine zl_iadd hC dL_law_495 ?_
  refine zl_sld hC hXs hbl hbA (5 * n + 2) (by omega) (by omega) (by omega) dL_law_496 ?_
  refine zl_aload_n hC 3 rfl dL_law_497 rfl ?_
  refine zl_callW hC hX hNc hAb hH0 zlw_line (w_line l hlt D tc tL (adC b) (zI_adC b) (b + 220) (fun f i ho => adC_out ho) C ((xs (5 * n + 1)).toInt) ((xs (5 * n + 2)).toInt) hWC (zi_toInt_bd _) (zi_toInt_bd _)) rfl rfl (Nat.le_of_ble_eq_true rfl) ⟨by decide, by decide⟩ ⟨by show _ ≤ 601024; omega, by show _ ≤ 7293034; omega⟩ dL_law_498 ?_
  refine zl_istore hC (L' := [(5, iv (wcd 3 0 0 (kLine C ((xs (5 * n + 1)).toInt) ((xs (5 * n + 2)).toInt)))), (0, .ref sb), (1, .ref (adC b 0 0)), (2, .ref (adM (b + 181) 0 0)), (3, .ref (b + 220)), (4, iv ((5 * n : Nat) : Int))]) dL_law_501 (by decide) rfl ?_
  refine zl_aload_n hC 3 rfl dL_law_503 rfl ?_
  refine zl_aload_n hC 1 rfl dL_law_504 rfl ?_
  refine zl_iload hC 5 rfl dL_law_505 ?_
  refine zl_iconst hC dL_law_507 ?_
  refine zl_iadd hC dL_law_508 ?_
  refine zl_sld hC hXs hbl hbA (5 * n + 1) (by omega) (by omega) (by omega) dL_law_509 ?_
  refine zl_aload_n hC 1 rfl dL_law_510 rfl ?_
  refine zl_iload hC 5 rfl dL_law_511 ?_
  refine zl_iconst hC dL_law_513 ?_
  refine zl_iadd hC dL_law_514 ?_
  refine zl_sld hC hXs hbl hbA (5 * n + 2) (by omega) (by omega) (by omega) dL_law_515 ?_
  refine zl_callM hCM zlL_95 (k_X10_line l D tc (adM (b + 181)) (zI_adM (b + 181)) M ((xs (5 * n + 1)).toInt) ((xs (5 * n + 2)).toInt) hWM (zi_toInt_bd _) (zi_toInt_bd _)) (tmM_0 (adM (b + 181)) tc 0) rfl rfl rfl (Nat.le_of_ble_eq_true rfl) ⟨by decide, by decide⟩ ⟨by show _ ≤ 601024; omega, by show _ ≤ 7293034; omega⟩ dL_law_516 ?_
  refine zl_istore hC (L' := [(6, iv (lineFR M ((xs (5 * n + 1)).toInt) ((xs (5 * n + 2)).toInt))), (5, iv (wcd 3 0 0 (kLine C ((xs (5 * n + 1)).toInt) ((xs (5 * n + 2)).toInt)))), (0, .ref sb), (1, .ref (adC b 0 0)), (2, .ref (adM (b + 181) 0 0)), (3, .ref (b + 220)), (4, iv ((5 * n : Nat) : Int))]) dL_law_519 (by decide) rfl ?_
  refine zl_aload_n hC 4 rfl dL_law_521 rfl ?_
  refine zl_callM hCM zlL_74 (k_X10_thrown l D tc (adM (b + 181)) (zI_adM (b + 181)) (lineFM M ((xs (5 * n + 1)).toInt) ((xs (5 * n + 2)).toInt))) (tmM_0 (adM (b + 181)) tc 0) rfl rfl rfl (Nat.le_of_ble_eq_true rfl) ⟨by decide, by decide⟩ ⟨by show _ ≤ 601024; omega, by show _ ≤ 7293034; omega⟩ dL_law_522 ?_
  refine zl_iload hC 1 rfl dL_law_525 ?_
  refine zl_conv (St2 := [iv (wcd 3 0 0 (kLine C ((xs (5 * n + 1)).toInt) ((xs (5 * n + 2)).toInt))), iv (wcd 3 0 0 (kLine C ((xs (5 * n + 1)).toInt) ((xs (5 * n + 2)).toInt)))]) ?_ rfl rfl rfl rfl (by rw [← e1])
  refine zl_icmp_eq hC 532 dL_law_527 (by decide) (by omega) (by omega) (fun _ => ?_) (fun h => absurd rfl h)
  refine zl_iload hC 1 rfl dL_law_532 ?_
  refine zl_if_ne hC 549 dL_law_534 (by decide) (by omega) (fun c9 => ?_) (fun c9 => ?_)
  · refine zl_goto hC 1207 dL_law_549 (by decide) ?_
    refine zl_perm [2, 3, 4, 5, 6] (L' := [(0, .ref sb), (1, .ref (adC b 0 0)), (2, .ref (adM (b + 181) 0 0)), (3, .ref (b + 220)), (4, iv ((5 * n : Nat) : Int))]) rfl ?_
    refine zl_widen (k := 300 + 300 * (n + 1)) (n := 3000 + 3000 * (n + 1)) (by omega) (by omega) ?_
    exact hgo _ _ _ e3
  · obtain ⟨hk, hr⟩ := e2 c9
    refine zl_aload_n hC 5 rfl dL_law_537 rfl ?_
    refine zl_iconst hC dL_law_538 ?_
    refine zl_laload hC dL_law_539 ?_
    refine zl_iload hC 0 rfl dL_law_540 ?_
    refine zl_i2l hC dL_law_542 ?_
    refine zl_lcmp hC (by rw [if_pos hk, hr]) dL_law_543 ?_
    refine zl_if_eq hC 549 dL_law_544 (by decide) (by omega) (fun _ => ?_) (fun h => absurd rfl h)
    refine zl_goto hC 1207 dL_law_549 (by decide) ?_
    refine zl_perm [2, 3, 4, 5, 6] (L' := [(0, .ref sb), (1, .ref (adC b 0 0)), (2, .ref (adM (b + 181) 0 0)), (3, .ref (b + 220)), (4, iv ((5 * n : Nat) : Int))]) rfl ?_
    refine zl_widen (k := 300 + 300 * (n + 1)) (n := 3000 + 3000 * (n + 1)) (by omega) (by omega) ?_
    exact hgo _ _ _ e3
set_option maxHeartbeats 4000000 in
set_option maxRecDepth 100000 in
theorem law_ride {p : Program} {l : Launch} {e : Env} {s : State} {m : MethodId} {args : Array Value} {below : List Frame} {meth : Method} {c : Code} {Q : State → Prop} {D : va_G} {tc : Nat → ClassId} {tL : ClassId} {b : Nat} {A : Nat → Prop} {sb Ls : Nat} {xs : Nat → Int32} (hctx : zLC p l s m args c D tc tL b A sb Ls xs) (Rel : Nat → zM → zM → Prop) (hwt : zSt_wt Rel) (hst : zSt_ride Rel) {n : Nat} {C M : zM} {v : Int64} (hRel : Rel n C M) (hn : n < 512) (h5 : 5 * n + 5 ≤ Ls) (hgo : ∀ (C9 M9 : zM) (v9 : Int64), Rel (n + 1) C9 M9 → zL p l e room_1 s m args below meth c Q D tc tL b A s.heap 9 (300 + 300 * (n + 1)) (3000 + 3000 * (n + 1)) (C9) (M9) v9 [(0, .ref sb), (1, .ref (adC b 0 0)), (2, .ref (adM (b + 181) 0 0)), (3, .ref (b + 220)), (4, iv ((5 * n : Nat) : Int))] 1207 []) : zL p l e room_1 s m args below meth c Q D tc tL b A s.heap 9 (300 + 300 * n) (3000 + 3000 * n) (C) (M) v [(0, .ref sb), (1, .ref (adC b 0 0)), (2, .ref (adM (b + 181) 0 0)), (3, .ref (b + 220)), (4, iv ((5 * n : Nat) : Int))] 552 [] := by
  obtain ⟨hC, hCM, hCC, hX, hNc, hAb, hH0, hXs, hbl, hbA, hLs, hlt⟩ := hctx
  obtain ⟨hWC, hWM⟩ := hwt n C M hRel (by omega)
  obtain ⟨e1, e2, e3⟩ := hst n C M hRel hn ((xs (5 * n + 1)).toInt) ((xs (5 * n + 2)).toInt) (zi_toInt_bd _) (zi_toInt_bd _)
  have hkb := wcd_bd 3 1 0 (kRide C ((xs (5 * n + 1)).toInt) ((xs (5 * n + 2)).toInt))
  refine zl_aload_n hC 1 rfl dL_law_552 rfl ?_
  refine zl_aload_n hC 0 rfl dL_law_553 rfl ?_
  refine zl_iload hC 4 rfl dL_law_554 ?_
  refine zl_iconst hC dL_law_556 ?_
  refine zl_iadd hC dL_law_557 ?_
  refine zl_sld hC hXs hbl hbA (5 * n + 1) (by omega) (by omega) (by omega) dL_law_558 ?_
  refine zl_aload_n hC 0 rfl dL_law_559 rfl ?_
  refine zl_iload hC 4 rfl dL_law_560 ?_
  refine zl_iconst hC dL_law_562 ?_
  refine zl_iadd hC dL_law_563 ?_
  refine zl_sld hC hXs hbl hbA (5 * n + 2) (by omega) (by omega) (by omega) dL_law_564 ?_
  refine zl_aload_n hC 3 rfl dL_law_565 rfl ?_
  refine zl_callW hC hX hNc hAb hH0 zlw_ride (w_ride l hlt D tc tL (adC b) (zI_adC b) (b + 220) (fun f i ho => adC_out ho) C ((xs (5 * n + 1)).toInt) ((xs (5 * n + 2)).toInt) hWC (zi_toInt_bd _) (zi_toInt_bd _)) rfl rfl (Nat.le_of_ble_eq_true rfl) ⟨by decide, by decide⟩ ⟨by show _ ≤ 601024; omega, by show _ ≤ 7293034; omega⟩ dL_law_566 ?_
  refine zl_istore hC (L' := [(5, iv (wcd 3 1 0 (kRide C ((xs (5 * n + 1)).toInt) ((xs (5 * n + 2)).toInt)))), (0, .ref sb), (1, .ref (adC b 0 0)), (2, .ref (adM (b + 181) 0 0)), (3, .ref (b + 220)), (4, iv ((5 * n : Nat) : Int))]) dL_law_569 (by decide) rfl ?_
  refine zl_aload_n hC 3 rfl dL_law_571 rfl ?_
  refine zl_aload_n hC 1 rfl dL_law_572 rfl ?_
  refine zl_iload hC 5 rfl dL_law_573 ?_
  refine zl_iconst hC dL_law_575 ?_
  refine zl_iadd hC dL_law_576 ?_
  refine zl_sld hC hXs hbl hbA (5 * n + 1) (by omega) (by omega) (by omega) dL_law_577 ?_
  refine zl_aload_n hC 1 rfl dL_law_578 rfl ?_
  refine zl_iload hC 5 rfl dL_law_579 ?_
  refine zl_iconst hC dL_law_581 ?_
  refine zl_iadd hC dL_law_582 ?_
  refine zl_sld hC hXs hbl hbA (5 * n + 2) (by omega) (by omega) (by omega) dL_law_583 ?_
  refine zl_callM hCM zlL_98 (k_X10_ride l D tc (adM (b + 181)) (zI_adM (b + 181)) M ((xs (5 * n + 1)).toInt) ((xs (5 * n + 2)).toInt) hWM (zi_toInt_bd _) (zi_toInt_bd _)) (tmM_0 (adM (b + 181)) tc 0) rfl rfl rfl (Nat.le_of_ble_eq_true rfl) ⟨by decide, by decide⟩ ⟨by show _ ≤ 601024; omega, by show _ ≤ 7293034; omega⟩ dL_law_584 ?_
  refine zl_istore hC (L' := [(6, iv (rideFR M ((xs (5 * n + 1)).toInt) ((xs (5 * n + 2)).toInt))), (5, iv (wcd 3 1 0 (kRide C ((xs (5 * n + 1)).toInt) ((xs (5 * n + 2)).toInt)))), (0, .ref sb), (1, .ref (adC b 0 0)), (2, .ref (adM (b + 181) 0 0)), (3, .ref (b + 220)), (4, iv ((5 * n : Nat) : Int))]) dL_law_587 (by decide) rfl ?_
  refine zl_aload_n hC 4 rfl dL_law_589 rfl ?_
  refine zl_callM hCM zlL_74 (k_X10_thrown l D tc (adM (b + 181)) (zI_adM (b + 181)) (rideFM M ((xs (5 * n + 1)).toInt) ((xs (5 * n + 2)).toInt))) (tmM_0 (adM (b + 181)) tc 0) rfl rfl rfl (Nat.le_of_ble_eq_true rfl) ⟨by decide, by decide⟩ ⟨by show _ ≤ 601024; omega, by show _ ≤ 7293034; omega⟩ dL_law_590 ?_
  refine zl_iload hC 1 rfl dL_law_593 ?_
  refine zl_conv (St2 := [iv (wcd 3 1 0 (kRide C ((xs (5 * n + 1)).toInt) ((xs (5 * n + 2)).toInt))), iv (wcd 3 1 0 (kRide C ((xs (5 * n + 1)).toInt) ((xs (5 * n + 2)).toInt)))]) ?_ rfl rfl rfl rfl (by rw [← e1])
  refine zl_icmp_eq hC 600 dL_law_595 (by decide) (by omega) (by omega) (fun _ => ?_) (fun h => absurd rfl h)
  refine zl_iload hC 1 rfl dL_law_600 ?_
  refine zl_if_ne hC 617 dL_law_602 (by decide) (by omega) (fun c9 => ?_) (fun c9 => ?_)
  · refine zl_goto hC 1207 dL_law_617 (by decide) ?_
    refine zl_perm [2, 3, 4, 5, 6] (L' := [(0, .ref sb), (1, .ref (adC b 0 0)), (2, .ref (adM (b + 181) 0 0)), (3, .ref (b + 220)), (4, iv ((5 * n : Nat) : Int))]) rfl ?_
    refine zl_widen (k := 300 + 300 * (n + 1)) (n := 3000 + 3000 * (n + 1)) (by omega) (by omega) ?_
    exact hgo _ _ _ e3
  · obtain ⟨hk, hr⟩ := e2 c9
    refine zl_aload_n hC 5 rfl dL_law_605 rfl ?_
    refine zl_iconst hC dL_law_606 ?_
    refine zl_laload hC dL_law_607 ?_
    refine zl_iload hC 0 rfl dL_law_608 ?_
    refine zl_i2l hC dL_law_610 ?_
    refine zl_lcmp hC (by rw [if_pos hk, hr]) dL_law_611 ?_
    refine zl_if_eq hC 617 dL_law_612 (by decide) (by omega) (fun _ => ?_) (fun h => absurd rfl h)
    refine zl_goto hC 1207 dL_law_617 (by decide) ?_
    refine zl_perm [2, 3, 4, 5, 6] (L' := [(0, .ref sb), (1, .ref (adC b 0 0)), (2, .ref (adM (b + 181) 0 0)), (3, .ref (b + 220)), (4, iv ((5 * n : Nat) : Int))]) rfl ?_
    refine zl_widen (k := 300 + 300 * (n + 1)) (n := 3000 + 3000 * (n + 1)) (by omega) (by omega) ?_
    exact hgo _ _ _ e3
set_option maxHeartbeats 4000000 in
set_option maxRecDepth 100000 in
theorem law_come {p : Program} {l : Launch} {e : Env} {s : State} {m : MethodId} {args : Array Value} {below : List Frame} {meth : Method} {c : Code} {Q : State → Prop} {D : va_G} {tc : Nat → ClassId} {tL : ClassId} {b : Nat} {A : Nat → Prop} {sb Ls : Nat} {xs : Nat → Int32} (hctx : zLC p l s m args c D tc tL b A sb Ls xs) (Rel : Nat → zM → zM → Prop) (hwt : zSt_wt Rel) (hst : zSt_come Rel) {n : Nat} {C M : zM} {v : Int64} (hRel : Rel n C M) (hn : n < 512) (h5 : 5 * n + 5 ≤ Ls) (hgo : ∀ (C9 M9 : zM) (v9 : Int64), Rel (n + 1) C9 M9 → zL p l e room_1 s m args below meth c Q D tc tL b A s.heap 9 (300 + 300 * (n + 1)) (3000 + 3000 * (n + 1)) (C9) (M9) v9 [(0, .ref sb), (1, .ref (adC b 0 0)), (2, .ref (adM (b + 181) 0 0)), (3, .ref (b + 220)), (4, iv ((5 * n : Nat) : Int))] 1207 []) : zL p l e room_1 s m args below meth c Q D tc tL b A s.heap 9 (300 + 300 * n) (3000 + 3000 * n) (C) (M) v [(0, .ref sb), (1, .ref (adC b 0 0)), (2, .ref (adM (b + 181) 0 0)), (3, .ref (b + 220)), (4, iv ((5 * n : Nat) : Int))] 620 [] := by
  obtain ⟨hC, hCM, hCC, hX, hNc, hAb, hH0, hXs, hbl, hbA, hLs, hlt⟩ := hctx
  obtain ⟨hWC, hWM⟩ := hwt n C M hRel (by omega)
  obtain ⟨hm_hsz, e1, e2, e3⟩ := hst n C M hRel hn ((xs (5 * n + 1)).toInt) ((xs (5 * n + 2)).toInt) ((xs (5 * n + 3)).toInt) ((xs (5 * n + 4)).toInt) (zi_toInt_bd _) (zi_toInt_bd _) (zi_toInt_bd _) (zi_toInt_bd _)
  have hkb := wcd_bd 3 1 2 (kCome C ((xs (5 * n + 1)).toInt) ((xs (5 * n + 2)).toInt) ((xs (5 * n + 3)).toInt) ((xs (5 * n + 4)).toInt))
  refine zl_aload_n hC 1 rfl dL_law_620 rfl ?_
  refine zl_aload_n hC 0 rfl dL_law_621 rfl ?_
  refine zl_iload hC 4 rfl dL_law_622 ?_
  refine zl_iconst hC dL_law_624 ?_
  refine zl_iadd hC dL_law_625 ?_
  refine zl_sld hC hXs hbl hbA (5 * n + 1) (by omega) (by omega) (by omega) dL_law_626 ?_
  refine zl_aload_n hC 0 rfl dL_law_627 rfl ?_
  refine zl_iload hC 4 rfl dL_law_628 ?_
  refine zl_iconst hC dL_law_630 ?_
  refine zl_iadd hC dL_law_631 ?_
  refine zl_sld hC hXs hbl hbA (5 * n + 2) (by omega) (by omega) (by omega) dL_law_632 ?_
  refine zl_aload_n hC 0 rfl dL_law_633 rfl ?_
  refine zl_iload hC 4 rfl dL_law_634 ?_
  refine zl_iconst hC dL_law_636 ?_
  refine zl_iadd hC dL_law_637 ?_
  refine zl_sld hC hXs hbl hbA (5 * n + 3) (by omega) (by omega) (by omega) dL_law_638 ?_
  refine zl_aload_n hC 0 rfl dL_law_639 rfl ?_
  refine zl_iload hC 4 rfl dL_law_640 ?_
  refine zl_iconst hC dL_law_642 ?_
  refine zl_iadd hC dL_law_643 ?_
  refine zl_sld hC hXs hbl hbA (5 * n + 4) (by omega) (by omega) (by omega) dL_law_644 ?_
  refine zl_aload_n hC 3 rfl dL_law_645 rfl ?_
  refine zl_callW hC hX hNc hAb hH0 zlw_come (w_come l hlt D tc tL (adC b) (zI_adC b) (b + 220) (fun f i ho => adC_out ho) C ((xs (5 * n + 1)).toInt) ((xs (5 * n + 2)).toInt) ((xs (5 * n + 3)).toInt) ((xs (5 * n + 4)).toInt) hWC (zi_toInt_bd _) (zi_toInt_bd _) (zi_toInt_bd _) (zi_toInt_bd _)) rfl rfl (Nat.le_of_ble_eq_true rfl) ⟨by decide, by decide⟩ ⟨by show _ ≤ 601024; omega, by show _ ≤ 7293034; omega⟩ dL_law_646 ?_
  refine zl_istore hC (L' := [(5, iv (wcd 3 1 2 (kCome C ((xs (5 * n + 1)).toInt) ((xs (5 * n + 2)).toInt) ((xs (5 * n + 3)).toInt) ((xs (5 * n + 4)).toInt)))), (0, .ref sb), (1, .ref (adC b 0 0)), (2, .ref (adM (b + 181) 0 0)), (3, .ref (b + 220)), (4, iv ((5 * n : Nat) : Int))]) dL_law_649 (by decide) rfl ?_
  refine zl_aload_n hC 3 rfl dL_law_651 rfl ?_
  refine zl_aload_n hC 1 rfl dL_law_652 rfl ?_
  refine zl_iload hC 5 rfl dL_law_653 ?_
  refine zl_iconst hC dL_law_655 ?_
  refine zl_iadd hC dL_law_656 ?_
  refine zl_sld hC hXs hbl hbA (5 * n + 1) (by omega) (by omega) (by omega) dL_law_657 ?_
  refine zl_aload_n hC 1 rfl dL_law_658 rfl ?_
  refine zl_iload hC 5 rfl dL_law_659 ?_
  refine zl_iconst hC dL_law_661 ?_
  refine zl_iadd hC dL_law_662 ?_
  refine zl_sld hC hXs hbl hbA (5 * n + 2) (by omega) (by omega) (by omega) dL_law_663 ?_
  refine zl_aload_n hC 1 rfl dL_law_664 rfl ?_
  refine zl_iload hC 5 rfl dL_law_665 ?_
  refine zl_iconst hC dL_law_667 ?_
  refine zl_iadd hC dL_law_668 ?_
  refine zl_sld hC hXs hbl hbA (5 * n + 3) (by omega) (by omega) (by omega) dL_law_669 ?_
  refine zl_aload_n hC 1 rfl dL_law_670 rfl ?_
  refine zl_iload hC 5 rfl dL_law_671 ?_
  refine zl_iconst hC dL_law_673 ?_
  refine zl_iadd hC dL_law_674 ?_
  refine zl_sld hC hXs hbl hbA (5 * n + 4) (by omega) (by omega) (by omega) dL_law_675 ?_
  refine zl_callM hCM zlL_101 (k_X10_come l D tc (adM (b + 181)) (zI_adM (b + 181)) M ((xs (5 * n + 1)).toInt) ((xs (5 * n + 2)).toInt) ((xs (5 * n + 3)).toInt) ((xs (5 * n + 4)).toInt) hWM (zi_toInt_bd _) (zi_toInt_bd _) (zi_toInt_bd _) (zi_toInt_bd _) hm_hsz) (tmM_0 (adM (b + 181)) tc 0) rfl rfl rfl (Nat.le_of_ble_eq_true rfl) ⟨by decide, by decide⟩ ⟨by show _ ≤ 601024; omega, by show _ ≤ 7293034; omega⟩ dL_law_676 ?_
  refine zl_istore hC (L' := [(6, iv (comeFR M ((xs (5 * n + 1)).toInt) ((xs (5 * n + 2)).toInt) ((xs (5 * n + 3)).toInt) ((xs (5 * n + 4)).toInt))), (5, iv (wcd 3 1 2 (kCome C ((xs (5 * n + 1)).toInt) ((xs (5 * n + 2)).toInt) ((xs (5 * n + 3)).toInt) ((xs (5 * n + 4)).toInt)))), (0, .ref sb), (1, .ref (adC b 0 0)), (2, .ref (adM (b + 181) 0 0)), (3, .ref (b + 220)), (4, iv ((5 * n : Nat) : Int))]) dL_law_679 (by decide) rfl ?_
  refine zl_aload_n hC 4 rfl dL_law_681 rfl ?_
  refine zl_callM hCM zlL_74 (k_X10_thrown l D tc (adM (b + 181)) (zI_adM (b + 181)) (comeFM M ((xs (5 * n + 1)).toInt) ((xs (5 * n + 2)).toInt) ((xs (5 * n + 3)).toInt) ((xs (5 * n + 4)).toInt))) (tmM_0 (adM (b + 181)) tc 0) rfl rfl rfl (Nat.le_of_ble_eq_true rfl) ⟨by decide, by decide⟩ ⟨by show _ ≤ 601024; omega, by show _ ≤ 7293034; omega⟩ dL_law_682 ?_
  refine zl_iload hC 1 rfl dL_law_685 ?_
  refine zl_conv (St2 := [iv (wcd 3 1 2 (kCome C ((xs (5 * n + 1)).toInt) ((xs (5 * n + 2)).toInt) ((xs (5 * n + 3)).toInt) ((xs (5 * n + 4)).toInt))), iv (wcd 3 1 2 (kCome C ((xs (5 * n + 1)).toInt) ((xs (5 * n + 2)).toInt) ((xs (5 * n + 3)).toInt) ((xs (5 * n + 4)).toInt)))]) ?_ rfl rfl rfl rfl (by rw [← e1])
  refine zl_icmp_eq hC 692 dL_law_687 (by decide) (by omega) (by omega) (fun _ => ?_) (fun h => absurd rfl h)
  refine zl_iload hC 1 rfl dL_law_692 ?_
  refine zl_if_ne hC 709 dL_law_694 (by decide) (by omega) (fun c9 => ?_) (fun c9 => ?_)
  · refine zl_goto hC 1207 dL_law_709 (by decide) ?_
    refine zl_perm [2, 3, 4, 5, 6] (L' := [(0, .ref sb), (1, .ref (adC b 0 0)), (2, .ref (adM (b + 181) 0 0)), (3, .ref (b + 220)), (4, iv ((5 * n : Nat) : Int))]) rfl ?_
    refine zl_widen (k := 300 + 300 * (n + 1)) (n := 3000 + 3000 * (n + 1)) (by omega) (by omega) ?_
    exact hgo _ _ _ e3
  · obtain ⟨hk, hr⟩ := e2 c9
    refine zl_aload_n hC 5 rfl dL_law_697 rfl ?_
    refine zl_iconst hC dL_law_698 ?_
    refine zl_laload hC dL_law_699 ?_
    refine zl_iload hC 0 rfl dL_law_700 ?_
    refine zl_i2l hC dL_law_702 ?_
    refine zl_lcmp hC (by rw [if_pos hk, hr]) dL_law_703 ?_
    refine zl_if_eq hC 709 dL_law_704 (by decide) (by omega) (fun _ => ?_) (fun h => absurd rfl h)
    refine zl_goto hC 1207 dL_law_709 (by decide) ?_
    refine zl_perm [2, 3, 4, 5, 6] (L' := [(0, .ref sb), (1, .ref (adC b 0 0)), (2, .ref (adM (b + 181) 0 0)), (3, .ref (b + 220)), (4, iv ((5 * n : Nat) : Int))]) rfl ?_
    refine zl_widen (k := 300 + 300 * (n + 1)) (n := 3000 + 3000 * (n + 1)) (by omega) (by omega) ?_
    exact hgo _ _ _ e3
set_option maxHeartbeats 4000000 in
set_option maxRecDepth 100000 in
theorem law_rider {p : Program} {l : Launch} {e : Env} {s : State} {m : MethodId} {args : Array Value} {below : List Frame} {meth : Method} {c : Code} {Q : State → Prop} {D : va_G} {tc : Nat → ClassId} {tL : ClassId} {b : Nat} {A : Nat → Prop} {sb Ls : Nat} {xs : Nat → Int32} (hctx : zLC p l s m args c D tc tL b A sb Ls xs) (Rel : Nat → zM → zM → Prop) (hwt : zSt_wt Rel) (hst : zSt_rider Rel) {n : Nat} {C M : zM} {v : Int64} (hRel : Rel n C M) (hn : n < 512) (h5 : 5 * n + 5 ≤ Ls) (hgo : ∀ (C9 M9 : zM) (v9 : Int64), Rel (n + 1) C9 M9 → zL p l e room_1 s m args below meth c Q D tc tL b A s.heap 9 (300 + 300 * (n + 1)) (3000 + 3000 * (n + 1)) (C9) (M9) v9 [(0, .ref sb), (1, .ref (adC b 0 0)), (2, .ref (adM (b + 181) 0 0)), (3, .ref (b + 220)), (4, iv ((5 * n : Nat) : Int))] 1207 []) : zL p l e room_1 s m args below meth c Q D tc tL b A s.heap 9 (300 + 300 * n) (3000 + 3000 * n) (C) (M) v [(0, .ref sb), (1, .ref (adC b 0 0)), (2, .ref (adM (b + 181) 0 0)), (3, .ref (b + 220)), (4, iv ((5 * n : Nat) : Int))] 712 [] := by
  obtain ⟨hC, hCM, hCC, hX, hNc, hAb, hH0, hXs, hbl, hbA, hLs, hlt⟩ := hctx
  obtain ⟨hWC, hWM⟩ := hwt n C M hRel (by omega)
  obtain ⟨hm_hat, e1, e2, e3⟩ := hst n C M hRel hn ((xs (5 * n + 1)).toInt) ((xs (5 * n + 2)).toInt) (zi_toInt_bd _) (zi_toInt_bd _)
  have hkb := wcd_bd 3 0 0 (kRider C ((xs (5 * n + 1)).toInt) ((xs (5 * n + 2)).toInt))
  refine zl_aload_n hC 1 rfl dL_law_712 rfl ?_
  refine zl_aload_n hC 0 rfl dL_law_713 rfl ?_
  refine zl_iload hC 4 rfl dL_law_714 ?_
  refine zl_iconst hC dL_law_716 ?_
  refine zl_iadd hC dL_law_717 ?_
  refine zl_sld hC hXs hbl hbA (5 * n + 1) (by omega) (by omega) (by omega) dL_law_718 ?_
  refine zl_aload_n hC 0 rfl dL_law_719 rfl ?_
  refine zl_iload hC 4 rfl dL_law_720 ?_
  refine zl_iconst hC dL_law_722 ?_
  refine zl_iadd hC dL_law_723 ?_
  refine zl_sld hC hXs hbl hbA (5 * n + 2) (by omega) (by omega) (by omega) dL_law_724 ?_
  refine zl_aload_n hC 3 rfl dL_law_725 rfl ?_
  refine zl_callW hC hX hNc hAb hH0 zlw_rider (w_rider l hlt D tc tL (adC b) (zI_adC b) (b + 220) (fun f i ho => adC_out ho) C ((xs (5 * n + 1)).toInt) ((xs (5 * n + 2)).toInt) hWC (zi_toInt_bd _) (zi_toInt_bd _)) rfl rfl (Nat.le_of_ble_eq_true rfl) ⟨by decide, by decide⟩ ⟨by show _ ≤ 601024; omega, by show _ ≤ 7293034; omega⟩ dL_law_726 ?_
  refine zl_istore hC (L' := [(5, iv (wcd 3 0 0 (kRider C ((xs (5 * n + 1)).toInt) ((xs (5 * n + 2)).toInt)))), (0, .ref sb), (1, .ref (adC b 0 0)), (2, .ref (adM (b + 181) 0 0)), (3, .ref (b + 220)), (4, iv ((5 * n : Nat) : Int))]) dL_law_729 (by decide) rfl ?_
  refine zl_aload_n hC 3 rfl dL_law_731 rfl ?_
  refine zl_aload_n hC 1 rfl dL_law_732 rfl ?_
  refine zl_iload hC 5 rfl dL_law_733 ?_
  refine zl_iconst hC dL_law_735 ?_
  refine zl_iadd hC dL_law_736 ?_
  refine zl_sld hC hXs hbl hbA (5 * n + 1) (by omega) (by omega) (by omega) dL_law_737 ?_
  refine zl_aload_n hC 1 rfl dL_law_738 rfl ?_
  refine zl_iload hC 5 rfl dL_law_739 ?_
  refine zl_iconst hC dL_law_741 ?_
  refine zl_iadd hC dL_law_742 ?_
  refine zl_sld hC hXs hbl hbA (5 * n + 2) (by omega) (by omega) (by omega) dL_law_743 ?_
  refine zl_callM hCM zlL_104 (k_X10_rider l D tc (adM (b + 181)) (zI_adM (b + 181)) M ((xs (5 * n + 1)).toInt) ((xs (5 * n + 2)).toInt) hWM (zi_toInt_bd _) (zi_toInt_bd _) hm_hat) (tmM_0 (adM (b + 181)) tc 0) rfl rfl rfl (Nat.le_of_ble_eq_true rfl) ⟨by decide, by decide⟩ ⟨by show _ ≤ 601024; omega, by show _ ≤ 7293034; omega⟩ dL_law_744 ?_
  refine zl_istore hC (L' := [(6, iv (riderFR M ((xs (5 * n + 1)).toInt) ((xs (5 * n + 2)).toInt))), (5, iv (wcd 3 0 0 (kRider C ((xs (5 * n + 1)).toInt) ((xs (5 * n + 2)).toInt)))), (0, .ref sb), (1, .ref (adC b 0 0)), (2, .ref (adM (b + 181) 0 0)), (3, .ref (b + 220)), (4, iv ((5 * n : Nat) : Int))]) dL_law_747 (by decide) rfl ?_
  refine zl_aload_n hC 4 rfl dL_law_749 rfl ?_
  refine zl_callM hCM zlL_74 (k_X10_thrown l D tc (adM (b + 181)) (zI_adM (b + 181)) (riderFM M ((xs (5 * n + 1)).toInt) ((xs (5 * n + 2)).toInt))) (tmM_0 (adM (b + 181)) tc 0) rfl rfl rfl (Nat.le_of_ble_eq_true rfl) ⟨by decide, by decide⟩ ⟨by show _ ≤ 601024; omega, by show _ ≤ 7293034; omega⟩ dL_law_750 ?_
  refine zl_iload hC 1 rfl dL_law_753 ?_
  refine zl_conv (St2 := [iv (wcd 3 0 0 (kRider C ((xs (5 * n + 1)).toInt) ((xs (5 * n + 2)).toInt))), iv (wcd 3 0 0 (kRider C ((xs (5 * n + 1)).toInt) ((xs (5 * n + 2)).toInt)))]) ?_ rfl rfl rfl rfl (by rw [← e1])
  refine zl_icmp_eq hC 760 dL_law_755 (by decide) (by omega) (by omega) (fun _ => ?_) (fun h => absurd rfl h)
  refine zl_iload hC 1 rfl dL_law_760 ?_
  refine zl_if_ne hC 777 dL_law_762 (by decide) (by omega) (fun c9 => ?_) (fun c9 => ?_)
  · refine zl_goto hC 1207 dL_law_777 (by decide) ?_
    refine zl_perm [2, 3, 4, 5, 6] (L' := [(0, .ref sb), (1, .ref (adC b 0 0)), (2, .ref (adM (b + 181) 0 0)), (3, .ref (b + 220)), (4, iv ((5 * n : Nat) : Int))]) rfl ?_
    refine zl_widen (k := 300 + 300 * (n + 1)) (n := 3000 + 3000 * (n + 1)) (by omega) (by omega) ?_
    exact hgo _ _ _ e3
  · obtain ⟨hk, hr⟩ := e2 c9
    refine zl_aload_n hC 5 rfl dL_law_765 rfl ?_
    refine zl_iconst hC dL_law_766 ?_
    refine zl_laload hC dL_law_767 ?_
    refine zl_iload hC 0 rfl dL_law_768 ?_
    refine zl_i2l hC dL_law_770 ?_
    refine zl_lcmp hC (by rw [if_pos hk, hr]) dL_law_771 ?_
    refine zl_if_eq hC 777 dL_law_772 (by decide) (by omega) (fun _ => ?_) (fun h => absurd rfl h)
    refine zl_goto hC 1207 dL_law_777 (by decide) ?_
    refine zl_perm [2, 3, 4, 5, 6] (L' := [(0, .ref sb), (1, .ref (adC b 0 0)), (2, .ref (adM (b + 181) 0 0)), (3, .ref (b + 220)), (4, iv ((5 * n : Nat) : Int))]) rfl ?_
    refine zl_widen (k := 300 + 300 * (n + 1)) (n := 3000 + 3000 * (n + 1)) (by omega) (by omega) ?_
    exact hgo _ _ _ e3
set_option maxHeartbeats 4000000 in
set_option maxRecDepth 100000 in
theorem law_queue {p : Program} {l : Launch} {e : Env} {s : State} {m : MethodId} {args : Array Value} {below : List Frame} {meth : Method} {c : Code} {Q : State → Prop} {D : va_G} {tc : Nat → ClassId} {tL : ClassId} {b : Nat} {A : Nat → Prop} {sb Ls : Nat} {xs : Nat → Int32} (hctx : zLC p l s m args c D tc tL b A sb Ls xs) (Rel : Nat → zM → zM → Prop) (hwt : zSt_wt Rel) (hst : zSt_queue Rel) {n : Nat} {C M : zM} {v : Int64} (hRel : Rel n C M) (hn : n < 512) (h5 : 5 * n + 5 ≤ Ls) (hgo : ∀ (C9 M9 : zM) (v9 : Int64), Rel (n + 1) C9 M9 → zL p l e room_1 s m args below meth c Q D tc tL b A s.heap 9 (300 + 300 * (n + 1)) (3000 + 3000 * (n + 1)) (C9) (M9) v9 [(0, .ref sb), (1, .ref (adC b 0 0)), (2, .ref (adM (b + 181) 0 0)), (3, .ref (b + 220)), (4, iv ((5 * n : Nat) : Int))] 1207 []) : zL p l e room_1 s m args below meth c Q D tc tL b A s.heap 9 (300 + 300 * n) (3000 + 3000 * n) (C) (M) v [(0, .ref sb), (1, .ref (adC b 0 0)), (2, .ref (adM (b + 181) 0 0)), (3, .ref (b + 220)), (4, iv ((5 * n : Nat) : Int))] 780 [] := by
  obtain ⟨hC, hCM, hCC, hX, hNc, hAb, hH0, hXs, hbl, hbA, hLs, hlt⟩ := hctx
  obtain ⟨hWC, hWM⟩ := hwt n C M hRel (by omega)
  obtain ⟨e1, e2, e3⟩ := hst n C M hRel hn ((xs (5 * n + 1)).toInt) ((xs (5 * n + 2)).toInt) (zi_toInt_bd _) (zi_toInt_bd _)
  have hkb := wcd_bd 3 0 0 (kQueue C ((xs (5 * n + 1)).toInt) ((xs (5 * n + 2)).toInt))
  refine zl_aload_n hC 1 rfl dL_law_780 rfl ?_
  refine zl_aload_n hC 0 rfl dL_law_781 rfl ?_
  refine zl_iload hC 4 rfl dL_law_782 ?_
  refine zl_iconst hC dL_law_784 ?_
  refine zl_iadd hC dL_law_785 ?_
  refine zl_sld hC hXs hbl hbA (5 * n + 1) (by omega) (by omega) (by omega) dL_law_786 ?_
  refine zl_aload_n hC 0 rfl dL_law_787 rfl ?_
  refine zl_iload hC 4 rfl dL_law_788 ?_
  refine zl_iconst hC dL_law_790 ?_
  refine zl_iadd hC dL_law_791 ?_
  refine zl_sld hC hXs hbl hbA (5 * n + 2) (by omega) (by omega) (by omega) dL_law_792 ?_
  refine zl_aload_n hC 3 rfl dL_law_793 rfl ?_
  refine zl_callW hC hX hNc hAb hH0 zlw_queue (w_queue l hlt D tc tL (adC b) (zI_adC b) (b + 220) (fun f i ho => adC_out ho) C ((xs (5 * n + 1)).toInt) ((xs (5 * n + 2)).toInt) hWC (zi_toInt_bd _) (zi_toInt_bd _)) rfl rfl (Nat.le_of_ble_eq_true rfl) ⟨by decide, by decide⟩ ⟨by show _ ≤ 601024; omega, by show _ ≤ 7293034; omega⟩ dL_law_794 ?_
  refine zl_istore hC (L' := [(5, iv (wcd 3 0 0 (kQueue C ((xs (5 * n + 1)).toInt) ((xs (5 * n + 2)).toInt)))), (0, .ref sb), (1, .ref (adC b 0 0)), (2, .ref (adM (b + 181) 0 0)), (3, .ref (b + 220)), (4, iv ((5 * n : Nat) : Int))]) dL_law_797 (by decide) rfl ?_
  refine zl_aload_n hC 3 rfl dL_law_799 rfl ?_
  refine zl_aload_n hC 1 rfl dL_law_800 rfl ?_
  refine zl_iload hC 5 rfl dL_law_801 ?_
  refine zl_iconst hC dL_law_803 ?_
  refine zl_iadd hC dL_law_804 ?_
  refine zl_sld hC hXs hbl hbA (5 * n + 1) (by omega) (by omega) (by omega) dL_law_805 ?_
  refine zl_aload_n hC 1 rfl dL_law_806 rfl ?_
  refine zl_iload hC 5 rfl dL_law_807 ?_
  refine zl_iconst hC dL_law_809 ?_
  refine zl_iadd hC dL_law_810 ?_
  refine zl_sld hC hXs hbl hbA (5 * n + 2) (by omega) (by omega) (by omega) dL_law_811 ?_
  refine zl_callM hCM zlL_107 (k_X10_queue l D tc (adM (b + 181)) (zI_adM (b + 181)) M ((xs (5 * n + 1)).toInt) ((xs (5 * n + 2)).toInt) hWM (zi_toInt_bd _) (zi_toInt_bd _)) (tmM_0 (adM (b + 181)) tc 0) rfl rfl rfl (Nat.le_of_ble_eq_true rfl) ⟨by decide, by decide⟩ ⟨by show _ ≤ 601024; omega, by show _ ≤ 7293034; omega⟩ dL_law_812 ?_
  refine zl_istore hC (L' := [(6, iv (queueFR M ((xs (5 * n + 1)).toInt) ((xs (5 * n + 2)).toInt))), (5, iv (wcd 3 0 0 (kQueue C ((xs (5 * n + 1)).toInt) ((xs (5 * n + 2)).toInt)))), (0, .ref sb), (1, .ref (adC b 0 0)), (2, .ref (adM (b + 181) 0 0)), (3, .ref (b + 220)), (4, iv ((5 * n : Nat) : Int))]) dL_law_815 (by decide) rfl ?_
  refine zl_aload_n hC 4 rfl dL_law_817 rfl ?_
  refine zl_callM hCM zlL_74 (k_X10_thrown l D tc (adM (b + 181)) (zI_adM (b + 181)) (queueFM M ((xs (5 * n + 1)).toInt) ((xs (5 * n + 2)).toInt))) (tmM_0 (adM (b + 181)) tc 0) rfl rfl rfl (Nat.le_of_ble_eq_true rfl) ⟨by decide, by decide⟩ ⟨by show _ ≤ 601024; omega, by show _ ≤ 7293034; omega⟩ dL_law_818 ?_
  refine zl_iload hC 1 rfl dL_law_821 ?_
  refine zl_conv (St2 := [iv (wcd 3 0 0 (kQueue C ((xs (5 * n + 1)).toInt) ((xs (5 * n + 2)).toInt))), iv (wcd 3 0 0 (kQueue C ((xs (5 * n + 1)).toInt) ((xs (5 * n + 2)).toInt)))]) ?_ rfl rfl rfl rfl (by rw [← e1])
  refine zl_icmp_eq hC 828 dL_law_823 (by decide) (by omega) (by omega) (fun _ => ?_) (fun h => absurd rfl h)
  refine zl_iload hC 1 rfl dL_law_828 ?_
  refine zl_if_ne hC 845 dL_law_830 (by decide) (by omega) (fun c9 => ?_) (fun c9 => ?_)
  · refine zl_goto hC 1207 dL_law_845 (by decide) ?_
    refine zl_perm [2, 3, 4, 5, 6] (L' := [(0, .ref sb), (1, .ref (adC b 0 0)), (2, .ref (adM (b + 181) 0 0)), (3, .ref (b + 220)), (4, iv ((5 * n : Nat) : Int))]) rfl ?_
    refine zl_widen (k := 300 + 300 * (n + 1)) (n := 3000 + 3000 * (n + 1)) (by omega) (by omega) ?_
    exact hgo _ _ _ e3
  · obtain ⟨hk, hr⟩ := e2 c9
    refine zl_aload_n hC 5 rfl dL_law_833 rfl ?_
    refine zl_iconst hC dL_law_834 ?_
    refine zl_laload hC dL_law_835 ?_
    refine zl_iload hC 0 rfl dL_law_836 ?_
    refine zl_i2l hC dL_law_838 ?_
    refine zl_lcmp hC (by rw [if_pos hk, hr]) dL_law_839 ?_
    refine zl_if_eq hC 845 dL_law_840 (by decide) (by omega) (fun _ => ?_) (fun h => absurd rfl h)
    refine zl_goto hC 1207 dL_law_845 (by decide) ?_
    refine zl_perm [2, 3, 4, 5, 6] (L' := [(0, .ref sb), (1, .ref (adC b 0 0)), (2, .ref (adM (b + 181) 0 0)), (3, .ref (b + 220)), (4, iv ((5 * n : Nat) : Int))]) rfl ?_
    refine zl_widen (k := 300 + 300 * (n + 1)) (n := 3000 + 3000 * (n + 1)) (by omega) (by omega) ?_
    exact hgo _ _ _ e3
set_option maxHeartbeats 4000000 in
set_option maxRecDepth 100000 in
theorem law_pass {p : Program} {l : Launch} {e : Env} {s : State} {m : MethodId} {args : Array Value} {below : List Frame} {meth : Method} {c : Code} {Q : State → Prop} {D : va_G} {tc : Nat → ClassId} {tL : ClassId} {b : Nat} {A : Nat → Prop} {sb Ls : Nat} {xs : Nat → Int32} (hctx : zLC p l s m args c D tc tL b A sb Ls xs) (Rel : Nat → zM → zM → Prop) (hwt : zSt_wt Rel) (hst : zSt_pass Rel) {n : Nat} {C M : zM} {v : Int64} (hRel : Rel n C M) (hn : n < 512) (h5 : 5 * n + 5 ≤ Ls) (hgo : ∀ (C9 M9 : zM) (v9 : Int64), Rel (n + 1) C9 M9 → zL p l e room_1 s m args below meth c Q D tc tL b A s.heap 9 (300 + 300 * (n + 1)) (3000 + 3000 * (n + 1)) (C9) (M9) v9 [(0, .ref sb), (1, .ref (adC b 0 0)), (2, .ref (adM (b + 181) 0 0)), (3, .ref (b + 220)), (4, iv ((5 * n : Nat) : Int))] 1207 []) : zL p l e room_1 s m args below meth c Q D tc tL b A s.heap 9 (300 + 300 * n) (3000 + 3000 * n) (C) (M) v [(0, .ref sb), (1, .ref (adC b 0 0)), (2, .ref (adM (b + 181) 0 0)), (3, .ref (b + 220)), (4, iv ((5 * n : Nat) : Int))] 848 [] := by
  obtain ⟨hC, hCM, hCC, hX, hNc, hAb, hH0, hXs, hbl, hbA, hLs, hlt⟩ := hctx
  obtain ⟨hWC, hWM⟩ := hwt n C M hRel (by omega)
  obtain ⟨hm_hP, e1, e2, e3⟩ := hst n C M hRel hn ((xs (5 * n + 1)).toInt) (zi_toInt_bd _)
  have hkb := wcd_bd 1 0 0 (kPass ((xs (5 * n + 1)).toInt))
  refine zl_aload_n hC 1 rfl dL_law_848 rfl ?_
  refine zl_aload_n hC 0 rfl dL_law_849 rfl ?_
  refine zl_iload hC 4 rfl dL_law_850 ?_
  refine zl_iconst hC dL_law_852 ?_
  refine zl_iadd hC dL_law_853 ?_
  refine zl_sld hC hXs hbl hbA (5 * n + 1) (by omega) (by omega) (by omega) dL_law_854 ?_
  refine zl_aload_n hC 3 rfl dL_law_855 rfl ?_
  refine zl_callW hC hX hNc hAb hH0 zlw_pass (w_pass l hlt D tc tL (adC b) (zI_adC b) (b + 220) (fun f i ho => adC_out ho) C ((xs (5 * n + 1)).toInt) hWC (zi_toInt_bd _) (by omega) (by omega)) rfl rfl (Nat.le_of_ble_eq_true rfl) ⟨by decide, by decide⟩ ⟨by show _ ≤ 601024; omega, by show _ ≤ 7293034; omega⟩ dL_law_856 ?_
  refine zl_istore hC (L' := [(5, iv (wcd 1 0 0 (kPass ((xs (5 * n + 1)).toInt)))), (0, .ref sb), (1, .ref (adC b 0 0)), (2, .ref (adM (b + 181) 0 0)), (3, .ref (b + 220)), (4, iv ((5 * n : Nat) : Int))]) dL_law_859 (by decide) rfl ?_
  refine zl_aload_n hC 3 rfl dL_law_861 rfl ?_
  refine zl_aload_n hC 1 rfl dL_law_862 rfl ?_
  refine zl_iload hC 5 rfl dL_law_863 ?_
  refine zl_iconst hC dL_law_865 ?_
  refine zl_iadd hC dL_law_866 ?_
  refine zl_sld hC hXs hbl hbA (5 * n + 1) (by omega) (by omega) (by omega) dL_law_867 ?_
  refine zl_callM hCM zlL_110 (k_X10_pass l D tc (adM (b + 181)) (zI_adM (b + 181)) M ((xs (5 * n + 1)).toInt) hWM (zi_toInt_bd _) (by omega) (by omega) hm_hP) (tmM_0 (adM (b + 181)) tc 0) rfl rfl rfl (Nat.le_of_ble_eq_true rfl) ⟨by decide, by decide⟩ ⟨by show _ ≤ 601024; omega, by show _ ≤ 7293034; omega⟩ dL_law_868 ?_
  refine zl_istore hC (L' := [(6, iv (passFR M ((xs (5 * n + 1)).toInt))), (5, iv (wcd 1 0 0 (kPass ((xs (5 * n + 1)).toInt)))), (0, .ref sb), (1, .ref (adC b 0 0)), (2, .ref (adM (b + 181) 0 0)), (3, .ref (b + 220)), (4, iv ((5 * n : Nat) : Int))]) dL_law_871 (by decide) rfl ?_
  refine zl_aload_n hC 4 rfl dL_law_873 rfl ?_
  refine zl_callM hCM zlL_74 (k_X10_thrown l D tc (adM (b + 181)) (zI_adM (b + 181)) (passFM M ((xs (5 * n + 1)).toInt))) (tmM_0 (adM (b + 181)) tc 0) rfl rfl rfl (Nat.le_of_ble_eq_true rfl) ⟨by decide, by decide⟩ ⟨by show _ ≤ 601024; omega, by show _ ≤ 7293034; omega⟩ dL_law_874 ?_
  refine zl_iload hC 1 rfl dL_law_877 ?_
  refine zl_conv (St2 := [iv (wcd 1 0 0 (kPass ((xs (5 * n + 1)).toInt))), iv (wcd 1 0 0 (kPass ((xs (5 * n + 1)).toInt)))]) ?_ rfl rfl rfl rfl (by rw [← e1])
  refine zl_icmp_eq hC 884 dL_law_879 (by decide) (by omega) (by omega) (fun _ => ?_) (fun h => absurd rfl h)
  refine zl_iload hC 1 rfl dL_law_884 ?_
  refine zl_if_ne hC 901 dL_law_886 (by decide) (by omega) (fun c9 => ?_) (fun c9 => ?_)
  · refine zl_goto hC 1207 dL_law_901 (by decide) ?_
    refine zl_perm [2, 3, 4, 5, 6] (L' := [(0, .ref sb), (1, .ref (adC b 0 0)), (2, .ref (adM (b + 181) 0 0)), (3, .ref (b + 220)), (4, iv ((5 * n : Nat) : Int))]) rfl ?_
    refine zl_widen (k := 300 + 300 * (n + 1)) (n := 3000 + 3000 * (n + 1)) (by omega) (by omega) ?_
    exact hgo _ _ _ e3
  · obtain ⟨hk, hr⟩ := e2 c9
    refine zl_aload_n hC 5 rfl dL_law_889 rfl ?_
    refine zl_iconst hC dL_law_890 ?_
    refine zl_laload hC dL_law_891 ?_
    refine zl_iload hC 0 rfl dL_law_892 ?_
    refine zl_i2l hC dL_law_894 ?_
    refine zl_lcmp hC (by rw [if_pos hk, hr]) dL_law_895 ?_
    refine zl_if_eq hC 901 dL_law_896 (by decide) (by omega) (fun _ => ?_) (fun h => absurd rfl h)
    refine zl_goto hC 1207 dL_law_901 (by decide) ?_
    refine zl_perm [2, 3, 4, 5, 6] (L' := [(0, .ref sb), (1, .ref (adC b 0 0)), (2, .ref (adM (b + 181) 0 0)), (3, .ref (b + 220)), (4, iv ((5 * n : Nat) : Int))]) rfl ?_
    refine zl_widen (k := 300 + 300 * (n + 1)) (n := 3000 + 3000 * (n + 1)) (by omega) (by omega) ?_
    exact hgo _ _ _ e3
set_option maxHeartbeats 4000000 in
set_option maxRecDepth 100000 in
theorem law_count {p : Program} {l : Launch} {e : Env} {s : State} {m : MethodId} {args : Array Value} {below : List Frame} {meth : Method} {c : Code} {Q : State → Prop} {D : va_G} {tc : Nat → ClassId} {tL : ClassId} {b : Nat} {A : Nat → Prop} {sb Ls : Nat} {xs : Nat → Int32} (hctx : zLC p l s m args c D tc tL b A sb Ls xs) (Rel : Nat → zM → zM → Prop) (hwt : zSt_wt Rel) (hst : zSt_count Rel) {n : Nat} {C M : zM} {v : Int64} (hRel : Rel n C M) (hn : n < 512) (h5 : 5 * n + 5 ≤ Ls) (hgo : ∀ (C9 M9 : zM) (v9 : Int64), Rel (n + 1) C9 M9 → zL p l e room_1 s m args below meth c Q D tc tL b A s.heap 9 (300 + 300 * (n + 1)) (3000 + 3000 * (n + 1)) (C9) (M9) v9 [(0, .ref sb), (1, .ref (adC b 0 0)), (2, .ref (adM (b + 181) 0 0)), (3, .ref (b + 220)), (4, iv ((5 * n : Nat) : Int))] 1207 []) : zL p l e room_1 s m args below meth c Q D tc tL b A s.heap 9 (300 + 300 * n) (3000 + 3000 * n) (C) (M) v [(0, .ref sb), (1, .ref (adC b 0 0)), (2, .ref (adM (b + 181) 0 0)), (3, .ref (b + 220)), (4, iv ((5 * n : Nat) : Int))] 904 [] := by
  obtain ⟨hC, hCM, hCC, hX, hNc, hAb, hH0, hXs, hbl, hbA, hLs, hlt⟩ := hctx
  obtain ⟨hWC, hWM⟩ := hwt n C M hRel (by omega)
  obtain ⟨e1, e2, e3⟩ := hst n C M hRel hn ((xs (5 * n + 1)).toInt) (zi_toInt_bd _)
  have hkb := wcd_bd 3 0 0 (kCount ((xs (5 * n + 1)).toInt))
  refine zl_aload_n hC 1 rfl dL_law_904 rfl ?_
  refine zl_aload_n hC 0 rfl dL_law_905 rfl ?_
  refine zl_iload hC 4 rfl dL_law_906 ?_
  refine zl_iconst hC dL_law_908 ?_
  refine zl_iadd hC dL_law_909 ?_
  refine zl_sld hC hXs hbl hbA (5 * n + 1) (by omega) (by omega) (by omega) dL_law_910 ?_
  refine zl_aload_n hC 3 rfl dL_law_911 rfl ?_
  refine zl_callW hC hX hNc hAb hH0 zlw_count (w_count l hlt D tc tL (adC b) (zI_adC b) (b + 220) (fun f i ho => adC_out ho) C ((xs (5 * n + 1)).toInt) hWC (zi_toInt_bd _)) rfl rfl (Nat.le_of_ble_eq_true rfl) ⟨by decide, by decide⟩ ⟨by show _ ≤ 601024; omega, by show _ ≤ 7293034; omega⟩ dL_law_912 ?_
  refine zl_istore hC (L' := [(5, iv (wcd 3 0 0 (kCount ((xs (5 * n + 1)).toInt)))), (0, .ref sb), (1, .ref (adC b 0 0)), (2, .ref (adM (b + 181) 0 0)), (3, .ref (b + 220)), (4, iv ((5 * n : Nat) : Int))]) dL_law_915 (by decide) rfl ?_
  refine zl_aload_n hC 3 rfl dL_law_917 rfl ?_
  refine zl_aload_n hC 1 rfl dL_law_918 rfl ?_
  refine zl_iload hC 5 rfl dL_law_919 ?_
  refine zl_iconst hC dL_law_921 ?_
  refine zl_iadd hC dL_law_922 ?_
  refine zl_sld hC hXs hbl hbA (5 * n + 1) (by omega) (by omega) (by omega) dL_law_923 ?_
  refine zl_callM hCM zlL_113 (k_X10_count l D tc (adM (b + 181)) (zI_adM (b + 181)) M ((xs (5 * n + 1)).toInt) hWM (zi_toInt_bd _)) (tmM_0 (adM (b + 181)) tc 0) rfl rfl rfl (Nat.le_of_ble_eq_true rfl) ⟨by decide, by decide⟩ ⟨by show _ ≤ 601024; omega, by show _ ≤ 7293034; omega⟩ dL_law_924 ?_
  refine zl_istore hC (L' := [(6, iv (countFR M ((xs (5 * n + 1)).toInt))), (5, iv (wcd 3 0 0 (kCount ((xs (5 * n + 1)).toInt)))), (0, .ref sb), (1, .ref (adC b 0 0)), (2, .ref (adM (b + 181) 0 0)), (3, .ref (b + 220)), (4, iv ((5 * n : Nat) : Int))]) dL_law_927 (by decide) rfl ?_
  refine zl_aload_n hC 4 rfl dL_law_929 rfl ?_
  refine zl_callM hCM zlL_74 (k_X10_thrown l D tc (adM (b + 181)) (zI_adM (b + 181)) (countFM M ((xs (5 * n + 1)).toInt))) (tmM_0 (adM (b + 181)) tc 0) rfl rfl rfl (Nat.le_of_ble_eq_true rfl) ⟨by decide, by decide⟩ ⟨by show _ ≤ 601024; omega, by show _ ≤ 7293034; omega⟩ dL_law_930 ?_
  refine zl_iload hC 1 rfl dL_law_933 ?_
  refine zl_conv (St2 := [iv (wcd 3 0 0 (kCount ((xs (5 * n + 1)).toInt))), iv (wcd 3 0 0 (kCount ((xs (5 * n + 1)).toInt)))]) ?_ rfl rfl rfl rfl (by rw [← e1])
  refine zl_icmp_eq hC 940 dL_law_935 (by decide) (by omega) (by omega) (fun _ => ?_) (fun h => absurd rfl h)
  refine zl_iload hC 1 rfl dL_law_940 ?_
  refine zl_if_ne hC 957 dL_law_942 (by decide) (by omega) (fun c9 => ?_) (fun c9 => ?_)
  · refine zl_goto hC 1207 dL_law_957 (by decide) ?_
    refine zl_perm [2, 3, 4, 5, 6] (L' := [(0, .ref sb), (1, .ref (adC b 0 0)), (2, .ref (adM (b + 181) 0 0)), (3, .ref (b + 220)), (4, iv ((5 * n : Nat) : Int))]) rfl ?_
    refine zl_widen (k := 300 + 300 * (n + 1)) (n := 3000 + 3000 * (n + 1)) (by omega) (by omega) ?_
    exact hgo _ _ _ e3
  · obtain ⟨hk, hr⟩ := e2 c9
    refine zl_aload_n hC 5 rfl dL_law_945 rfl ?_
    refine zl_iconst hC dL_law_946 ?_
    refine zl_laload hC dL_law_947 ?_
    refine zl_iload hC 0 rfl dL_law_948 ?_
    refine zl_i2l hC dL_law_950 ?_
    refine zl_lcmp hC (by rw [if_pos hk, hr]) dL_law_951 ?_
    refine zl_if_eq hC 957 dL_law_952 (by decide) (by omega) (fun _ => ?_) (fun h => absurd rfl h)
    refine zl_goto hC 1207 dL_law_957 (by decide) ?_
    refine zl_perm [2, 3, 4, 5, 6] (L' := [(0, .ref sb), (1, .ref (adC b 0 0)), (2, .ref (adM (b + 181) 0 0)), (3, .ref (b + 220)), (4, iv ((5 * n : Nat) : Int))]) rfl ?_
    refine zl_widen (k := 300 + 300 * (n + 1)) (n := 3000 + 3000 * (n + 1)) (by omega) (by omega) ?_
    exact hgo _ _ _ e3
set_option maxHeartbeats 4000000 in
set_option maxRecDepth 100000 in
theorem law_way {p : Program} {l : Launch} {e : Env} {s : State} {m : MethodId} {args : Array Value} {below : List Frame} {meth : Method} {c : Code} {Q : State → Prop} {D : va_G} {tc : Nat → ClassId} {tL : ClassId} {b : Nat} {A : Nat → Prop} {sb Ls : Nat} {xs : Nat → Int32} (hctx : zLC p l s m args c D tc tL b A sb Ls xs) (Rel : Nat → zM → zM → Prop) (hwt : zSt_wt Rel) (hst : zSt_way Rel) {n : Nat} {C M : zM} {v : Int64} (hRel : Rel n C M) (hn : n < 512) (h5 : 5 * n + 5 ≤ Ls) (hgo : ∀ (C9 M9 : zM) (v9 : Int64), Rel (n + 1) C9 M9 → zL p l e room_1 s m args below meth c Q D tc tL b A s.heap 9 (300 + 300 * (n + 1)) (3000 + 3000 * (n + 1)) (C9) (M9) v9 [(0, .ref sb), (1, .ref (adC b 0 0)), (2, .ref (adM (b + 181) 0 0)), (3, .ref (b + 220)), (4, iv ((5 * n : Nat) : Int))] 1207 []) : zL p l e room_1 s m args below meth c Q D tc tL b A s.heap 9 (300 + 300 * n) (3000 + 3000 * n) (C) (M) v [(0, .ref sb), (1, .ref (adC b 0 0)), (2, .ref (adM (b + 181) 0 0)), (3, .ref (b + 220)), (4, iv ((5 * n : Nat) : Int))] 960 [] := by
  obtain ⟨hC, hCM, hCC, hX, hNc, hAb, hH0, hXs, hbl, hbA, hLs, hlt⟩ := hctx
  obtain ⟨hWC, hWM⟩ := hwt n C M hRel (by omega)
  obtain ⟨e1, e2, e3⟩ := hst n C M hRel hn ((xs (5 * n + 1)).toInt) ((xs (5 * n + 2)).toInt) ((xs (5 * n + 3)).toInt) (zi_toInt_bd _) (zi_toInt_bd _) (zi_toInt_bd _)
  have hkb := wcd_bd 3 1 0 (kWay C ((xs (5 * n + 1)).toInt) ((xs (5 * n + 2)).toInt) ((xs (5 * n + 3)).toInt))
  refine zl_aload_n hC 1 rfl dL_law_960 rfl ?_
  refine zl_aload_n hC 0 rfl dL_law_961 rfl ?_
  refine zl_iload hC 4 rfl dL_law_962 ?_
  refine zl_iconst hC dL_law_964 ?_
  refine zl_iadd hC dL_law_965 ?_
  refine zl_sld hC hXs hbl hbA (5 * n + 1) (by omega) (by omega) (by omega) dL_law_966 ?_
  refine zl_aload_n hC 0 rfl dL_law_967 rfl ?_
  refine zl_iload hC 4 rfl dL_law_968 ?_
  refine zl_iconst hC dL_law_970 ?_
  refine zl_iadd hC dL_law_971 ?_
  refine zl_sld hC hXs hbl hbA (5 * n + 2) (by omega) (by omega) (by omega) dL_law_972 ?_
  refine zl_aload_n hC 0 rfl dL_law_973 rfl ?_
  refine zl_iload hC 4 rfl dL_law_974 ?_
  refine zl_iconst hC dL_law_976 ?_
  refine zl_iadd hC dL_law_977 ?_
  refine zl_sld hC hXs hbl hbA (5 * n + 3) (by omega) (by omega) (by omega) dL_law_978 ?_
  refine zl_aload_n hC 3 rfl dL_law_979 rfl ?_
  refine zl_callW hC hX hNc hAb hH0 zlw_way (w_way l hlt D tc tL (adC b) (zI_adC b) (b + 220) (fun f i ho => adC_out ho) C ((xs (5 * n + 1)).toInt) ((xs (5 * n + 2)).toInt) ((xs (5 * n + 3)).toInt) hWC (zi_toInt_bd _) (zi_toInt_bd _) (zi_toInt_bd _)) rfl rfl (Nat.le_of_ble_eq_true rfl) ⟨by decide, by decide⟩ ⟨by show _ ≤ 601024; omega, by show _ ≤ 7293034; omega⟩ dL_law_980 ?_
  refine zl_istore hC (L' := [(5, iv (wcd 3 1 0 (kWay C ((xs (5 * n + 1)).toInt) ((xs (5 * n + 2)).toInt) ((xs (5 * n + 3)).toInt)))), (0, .ref sb), (1, .ref (adC b 0 0)), (2, .ref (adM (b + 181) 0 0)), (3, .ref (b + 220)), (4, iv ((5 * n : Nat) : Int))]) dL_law_983 (by decide) rfl ?_
  refine zl_aload_n hC 3 rfl dL_law_985 rfl ?_
  refine zl_aload_n hC 1 rfl dL_law_986 rfl ?_
  refine zl_iload hC 5 rfl dL_law_987 ?_
  refine zl_iconst hC dL_law_989 ?_
  refine zl_iadd hC dL_law_990 ?_
  refine zl_sld hC hXs hbl hbA (5 * n + 1) (by omega) (by omega) (by omega) dL_law_991 ?_
  refine zl_aload_n hC 1 rfl dL_law_992 rfl ?_
  refine zl_iload hC 5 rfl dL_law_993 ?_
  refine zl_iconst hC dL_law_995 ?_
  refine zl_iadd hC dL_law_996 ?_
  refine zl_sld hC hXs hbl hbA (5 * n + 2) (by omega) (by omega) (by omega) dL_law_997 ?_
  refine zl_aload_n hC 1 rfl dL_law_998 rfl ?_
  refine zl_iload hC 5 rfl dL_law_999 ?_
  refine zl_iconst hC dL_law_1001 ?_
  refine zl_iadd hC dL_law_1002 ?_
  refine zl_sld hC hXs hbl hbA (5 * n + 3) (by omega) (by omega) (by omega) dL_law_1003 ?_
  refine zl_callM hCM zlL_116 (k_X10_way l D tc (adM (b + 181)) (zI_adM (b + 181)) M ((xs (5 * n + 1)).toInt) ((xs (5 * n + 2)).toInt) ((xs (5 * n + 3)).toInt) hWM (zi_toInt_bd _) (zi_toInt_bd _) (zi_toInt_bd _)) (tmM_0 (adM (b + 181)) tc 0) rfl rfl rfl (Nat.le_of_ble_eq_true rfl) ⟨by decide, by decide⟩ ⟨by show _ ≤ 601024; omega, by show _ ≤ 7293034; omega⟩ dL_law_1004 ?_
  refine zl_istore hC (L' := [(6, iv (wayR M ((xs (5 * n + 1)).toInt) ((xs (5 * n + 2)).toInt) ((xs (5 * n + 3)).toInt))), (5, iv (wcd 3 1 0 (kWay C ((xs (5 * n + 1)).toInt) ((xs (5 * n + 2)).toInt) ((xs (5 * n + 3)).toInt)))), (0, .ref sb), (1, .ref (adC b 0 0)), (2, .ref (adM (b + 181) 0 0)), (3, .ref (b + 220)), (4, iv ((5 * n : Nat) : Int))]) dL_law_1007 (by decide) rfl ?_
  refine zl_aload_n hC 4 rfl dL_law_1009 rfl ?_
  refine zl_callM hCM zlL_74 (k_X10_thrown l D tc (adM (b + 181)) (zI_adM (b + 181)) (wayM M ((xs (5 * n + 1)).toInt) ((xs (5 * n + 2)).toInt) ((xs (5 * n + 3)).toInt))) (tmM_0 (adM (b + 181)) tc 0) rfl rfl rfl (Nat.le_of_ble_eq_true rfl) ⟨by decide, by decide⟩ ⟨by show _ ≤ 601024; omega, by show _ ≤ 7293034; omega⟩ dL_law_1010 ?_
  refine zl_iload hC 1 rfl dL_law_1013 ?_
  refine zl_conv (St2 := [iv (wcd 3 1 0 (kWay C ((xs (5 * n + 1)).toInt) ((xs (5 * n + 2)).toInt) ((xs (5 * n + 3)).toInt))), iv (wcd 3 1 0 (kWay C ((xs (5 * n + 1)).toInt) ((xs (5 * n + 2)).toInt) ((xs (5 * n + 3)).toInt)))]) ?_ rfl rfl rfl rfl (by rw [← e1])
  refine zl_icmp_eq hC 1020 dL_law_1015 (by decide) (by omega) (by omega) (fun _ => ?_) (fun h => absurd rfl h)
  refine zl_iload hC 1 rfl dL_law_1020 ?_
  refine zl_if_ne hC 1037 dL_law_1022 (by decide) (by omega) (fun c9 => ?_) (fun c9 => ?_)
  · refine zl_goto hC 1207 dL_law_1037 (by decide) ?_
    refine zl_perm [2, 3, 4, 5, 6] (L' := [(0, .ref sb), (1, .ref (adC b 0 0)), (2, .ref (adM (b + 181) 0 0)), (3, .ref (b + 220)), (4, iv ((5 * n : Nat) : Int))]) rfl ?_
    refine zl_widen (k := 300 + 300 * (n + 1)) (n := 3000 + 3000 * (n + 1)) (by omega) (by omega) ?_
    exact hgo _ _ _ e3
  · obtain ⟨hk, hr⟩ := e2 c9
    refine zl_aload_n hC 5 rfl dL_law_1025 rfl ?_
    refine zl_iconst hC dL_law_1026 ?_
    refine zl_laload hC dL_law_1027 ?_
    refine zl_iload hC 0 rfl dL_law_1028 ?_
    refine zl_i2l hC dL_law_1030 ?_
    refine zl_lcmp hC (by rw [if_pos hk, hr]) dL_law_1031 ?_
    refine zl_if_eq hC 1037 dL_law_1032 (by decide) (by omega) (fun _ => ?_) (fun h => absurd rfl h)
    refine zl_goto hC 1207 dL_law_1037 (by decide) ?_
    refine zl_perm [2, 3, 4, 5, 6] (L' := [(0, .ref sb), (1, .ref (adC b 0 0)), (2, .ref (adM (b + 181) 0 0)), (3, .ref (b + 220)), (4, iv ((5 * n : Nat) : Int))]) rfl ?_
    refine zl_widen (k := 300 + 300 * (n + 1)) (n := 3000 + 3000 * (n + 1)) (by omega) (by omega) ?_
    exact hgo _ _ _ e3
set_option maxHeartbeats 4000000 in
set_option maxRecDepth 100000 in
theorem law_arrives {p : Program} {l : Launch} {e : Env} {s : State} {m : MethodId} {args : Array Value} {below : List Frame} {meth : Method} {c : Code} {Q : State → Prop} {D : va_G} {tc : Nat → ClassId} {tL : ClassId} {b : Nat} {A : Nat → Prop} {sb Ls : Nat} {xs : Nat → Int32} (hctx : zLC p l s m args c D tc tL b A sb Ls xs) (Rel : Nat → zM → zM → Prop) (hwt : zSt_wt Rel) (hst : zSt_arrives Rel) {n : Nat} {C M : zM} {v : Int64} (hRel : Rel n C M) (hn : n < 512) (h5 : 5 * n + 5 ≤ Ls) (hgo : ∀ (C9 M9 : zM) (v9 : Int64), Rel (n + 1) C9 M9 → zL p l e room_1 s m args below meth c Q D tc tL b A s.heap 9 (300 + 300 * (n + 1)) (3000 + 3000 * (n + 1)) (C9) (M9) v9 [(0, .ref sb), (1, .ref (adC b 0 0)), (2, .ref (adM (b + 181) 0 0)), (3, .ref (b + 220)), (4, iv ((5 * n : Nat) : Int))] 1207 []) : zL p l e room_1 s m args below meth c Q D tc tL b A s.heap 9 (300 + 300 * n) (3000 + 3000 * n) (C) (M) v [(0, .ref sb), (1, .ref (adC b 0 0)), (2, .ref (adM (b + 181) 0 0)), (3, .ref (b + 220)), (4, iv ((5 * n : Nat) : Int))] 1040 [] := by
  obtain ⟨hC, hCM, hCC, hX, hNc, hAb, hH0, hXs, hbl, hbA, hLs, hlt⟩ := hctx
  obtain ⟨hWC, hWM⟩ := hwt n C M hRel (by omega)
  obtain ⟨hm_hP, e1, e2, e3⟩ := hst n C M hRel hn ((xs (5 * n + 1)).toInt) (zi_toInt_bd _)
  have hkb := wcd_bd 3 0 0 (kArr C ((xs (5 * n + 1)).toInt))
  refine zl_aload_n hC 1 rfl dL_law_1040 rfl ?_
  refine zl_aload_n hC 0 rfl dL_law_1041 rfl ?_
  refine zl_iload hC 4 rfl dL_law_1042 ?_
  refine zl_iconst hC dL_law_1044 ?_
  refine zl_iadd hC dL_law_1045 ?_
  refine zl_sld hC hXs hbl hbA (5 * n + 1) (by omega) (by omega) (by omega) dL_law_1046 ?_
  refine zl_aload_n hC 3 rfl dL_law_1047 rfl ?_
  refine zl_callW hC hX hNc hAb hH0 zlw_arrives (w_arrives l hlt D tc tL (adC b) (zI_adC b) (b + 220) (fun f i ho => adC_out ho) C ((xs (5 * n + 1)).toInt) hWC (zi_toInt_bd _) (by omega) (by omega)) rfl rfl (Nat.le_of_ble_eq_true rfl) ⟨by decide, by decide⟩ ⟨by show _ ≤ 601024; omega, by show _ ≤ 7293034; omega⟩ dL_law_1048 ?_
  refine zl_istore hC (L' := [(5, iv (wcd 3 0 0 (kArr C ((xs (5 * n + 1)).toInt)))), (0, .ref sb), (1, .ref (adC b 0 0)), (2, .ref (adM (b + 181) 0 0)), (3, .ref (b + 220)), (4, iv ((5 * n : Nat) : Int))]) dL_law_1051 (by decide) rfl ?_
  refine zl_aload_n hC 3 rfl dL_law_1053 rfl ?_
  refine zl_aload_n hC 1 rfl dL_law_1054 rfl ?_
  refine zl_iload hC 5 rfl dL_law_1055 ?_
  refine zl_iconst hC dL_law_1057 ?_
  refine zl_iadd hC dL_law_1058 ?_
  refine zl_sld hC hXs hbl hbA (5 * n + 1) (by omega) (by omega) (by omega) dL_law_1059 ?_
  refine zl_callM hCM zlL_119 (k_X10_arrives l D tc (adM (b + 181)) (zI_adM (b + 181)) M ((xs (5 * n + 1)).toInt) hWM (zi_toInt_bd _) (by omega) (by omega) hm_hP) (tmM_0 (adM (b + 181)) tc 0) rfl rfl rfl (Nat.le_of_ble_eq_true rfl) ⟨by decide, by decide⟩ ⟨by show _ ≤ 601024; omega, by show _ ≤ 7293034; omega⟩ dL_law_1060 ?_
  refine zl_istore hC (L' := [(6, iv (arrFR M ((xs (5 * n + 1)).toInt))), (5, iv (wcd 3 0 0 (kArr C ((xs (5 * n + 1)).toInt)))), (0, .ref sb), (1, .ref (adC b 0 0)), (2, .ref (adM (b + 181) 0 0)), (3, .ref (b + 220)), (4, iv ((5 * n : Nat) : Int))]) dL_law_1063 (by decide) rfl ?_
  refine zl_aload_n hC 4 rfl dL_law_1065 rfl ?_
  refine zl_callM hCM zlL_74 (k_X10_thrown l D tc (adM (b + 181)) (zI_adM (b + 181)) (arrFM M ((xs (5 * n + 1)).toInt))) (tmM_0 (adM (b + 181)) tc 0) rfl rfl rfl (Nat.le_of_ble_eq_true rfl) ⟨by decide, by decide⟩ ⟨by show _ ≤ 601024; omega, by show _ ≤ 7293034; omega⟩ dL_law_1066 ?_
  refine zl_iload hC 1 rfl dL_law_1069 ?_
  refine zl_conv (St2 := [iv (wcd 3 0 0 (kArr C ((xs (5 * n + 1)).toInt))), iv (wcd 3 0 0 (kArr C ((xs (5 * n + 1)).toInt)))]) ?_ rfl rfl rfl rfl (by rw [← e1])
  refine zl_icmp_eq hC 1076 dL_law_1071 (by decide) (by omega) (by omega) (fun _ => ?_) (fun h => absurd rfl h)
  refine zl_iload hC 1 rfl dL_law_1076 ?_
  refine zl_if_ne hC 1093 dL_law_1078 (by decide) (by omega) (fun c9 => ?_) (fun c9 => ?_)
  · refine zl_goto hC 1207 dL_law_1093 (by decide) ?_
    refine zl_perm [2, 3, 4, 5, 6] (L' := [(0, .ref sb), (1, .ref (adC b 0 0)), (2, .ref (adM (b + 181) 0 0)), (3, .ref (b + 220)), (4, iv ((5 * n : Nat) : Int))]) rfl ?_
    refine zl_widen (k := 300 + 300 * (n + 1)) (n := 3000 + 3000 * (n + 1)) (by omega) (by omega) ?_
    exact hgo _ _ _ e3
  · obtain ⟨hk, hr⟩ := e2 c9
    refine zl_aload_n hC 5 rfl dL_law_1081 rfl ?_
    refine zl_iconst hC dL_law_1082 ?_
    refine zl_laload hC dL_law_1083 ?_
    refine zl_iload hC 0 rfl dL_law_1084 ?_
    refine zl_i2l hC dL_law_1086 ?_
    refine zl_lcmp hC (by rw [if_pos hk, hr]) dL_law_1087 ?_
    refine zl_if_eq hC 1093 dL_law_1088 (by decide) (by omega) (fun _ => ?_) (fun h => absurd rfl h)
    refine zl_goto hC 1207 dL_law_1093 (by decide) ?_
    refine zl_perm [2, 3, 4, 5, 6] (L' := [(0, .ref sb), (1, .ref (adC b 0 0)), (2, .ref (adM (b + 181) 0 0)), (3, .ref (b + 220)), (4, iv ((5 * n : Nat) : Int))]) rfl ?_
    refine zl_widen (k := 300 + 300 * (n + 1)) (n := 3000 + 3000 * (n + 1)) (by omega) (by omega) ?_
    exact hgo _ _ _ e3
set_option maxHeartbeats 4000000 in
set_option maxRecDepth 100000 in
theorem law_advise {p : Program} {l : Launch} {e : Env} {s : State} {m : MethodId} {args : Array Value} {below : List Frame} {meth : Method} {c : Code} {Q : State → Prop} {D : va_G} {tc : Nat → ClassId} {tL : ClassId} {b : Nat} {A : Nat → Prop} {sb Ls : Nat} {xs : Nat → Int32} (hctx : zLC p l s m args c D tc tL b A sb Ls xs) (Rel : Nat → zM → zM → Prop) (hwt : zSt_wt Rel) (hst : zSt_advise Rel) {n : Nat} {C M : zM} {v : Int64} (hRel : Rel n C M) (hn : n < 512) (h5 : 5 * n + 5 ≤ Ls) (hgo : ∀ (C9 M9 : zM) (v9 : Int64), Rel (n + 1) C9 M9 → zL p l e room_1 s m args below meth c Q D tc tL b A s.heap 9 (300 + 300 * (n + 1)) (3000 + 3000 * (n + 1)) (C9) (M9) v9 [(0, .ref sb), (1, .ref (adC b 0 0)), (2, .ref (adM (b + 181) 0 0)), (3, .ref (b + 220)), (4, iv ((5 * n : Nat) : Int))] 1207 []) : zL p l e room_1 s m args below meth c Q D tc tL b A s.heap 9 (300 + 300 * n) (3000 + 3000 * n) (C) (M) v [(0, .ref sb), (1, .ref (adC b 0 0)), (2, .ref (adM (b + 181) 0 0)), (3, .ref (b + 220)), (4, iv ((5 * n : Nat) : Int))] 1096 [] := by
  obtain ⟨hC, hCM, hCC, hX, hNc, hAb, hH0, hXs, hbl, hbA, hLs, hlt⟩ := hctx
  obtain ⟨hWC, hWM⟩ := hwt n C M hRel (by omega)
  obtain ⟨hm_hP, e1, e2, e3⟩ := hst n C M hRel hn ((xs (5 * n + 1)).toInt) (zi_toInt_bd _)
  have hkb := wcd_bd 1 0 0 (kAdv ((xs (5 * n + 1)).toInt))
  refine zl_aload_n hC 1 rfl dL_law_1096 rfl ?_
  refine zl_aload_n hC 0 rfl dL_law_1097 rfl ?_
  refine zl_iload hC 4 rfl dL_law_1098 ?_
  refine zl_iconst hC dL_law_1100 ?_
  refine zl_iadd hC dL_law_1101 ?_
  refine zl_sld hC hXs hbl hbA (5 * n + 1) (by omega) (by omega) (by omega) dL_law_1102 ?_
  refine zl_aload_n hC 3 rfl dL_law_1103 rfl ?_
  refine zl_callW hC hX hNc hAb hH0 zlw_advise (w_advise l hlt D tc tL (adC b) (zI_adC b) (b + 220) (fun f i ho => adC_out ho) C ((xs (5 * n + 1)).toInt) hWC (zi_toInt_bd _) (by omega) (by omega)) rfl rfl (Nat.le_of_ble_eq_true rfl) ⟨by decide, by decide⟩ ⟨by show _ ≤ 601024; omega, by show _ ≤ 7293034; omega⟩ dL_law_1104 ?_
  refine zl_istore hC (L' := [(5, iv (wcd 1 0 0 (kAdv ((xs (5 * n + 1)).toInt)))), (0, .ref sb), (1, .ref (adC b 0 0)), (2, .ref (adM (b + 181) 0 0)), (3, .ref (b + 220)), (4, iv ((5 * n : Nat) : Int))]) dL_law_1107 (by decide) rfl ?_
  refine zl_aload_n hC 3 rfl dL_law_1109 rfl ?_
  refine zl_aload_n hC 1 rfl dL_law_1110 rfl ?_
  refine zl_iload hC 5 rfl dL_law_1111 ?_
  refine zl_iconst hC dL_law_1113 ?_
  refine zl_iadd hC dL_law_1114 ?_
  refine zl_sld hC hXs hbl hbA (5 * n + 1) (by omega) (by omega) (by omega) dL_law_1115 ?_
  refine zl_callM hCM zlL_122 (k_X10_advise l D tc (adM (b + 181)) (zI_adM (b + 181)) M ((xs (5 * n + 1)).toInt) hWM (zi_toInt_bd _) (by omega) (by omega) hm_hP) (tmM_0 (adM (b + 181)) tc 0) rfl rfl rfl (Nat.le_of_ble_eq_true rfl) ⟨by decide, by decide⟩ ⟨by show _ ≤ 601024; omega, by show _ ≤ 7293034; omega⟩ dL_law_1116 ?_
  refine zl_istore hC (L' := [(6, iv (advFR M ((xs (5 * n + 1)).toInt))), (5, iv (wcd 1 0 0 (kAdv ((xs (5 * n + 1)).toInt)))), (0, .ref sb), (1, .ref (adC b 0 0)), (2, .ref (adM (b + 181) 0 0)), (3, .ref (b + 220)), (4, iv ((5 * n : Nat) : Int))]) dL_law_1119 (by decide) rfl ?_
  refine zl_aload_n hC 4 rfl dL_law_1121 rfl ?_
  refine zl_callM hCM zlL_74 (k_X10_thrown l D tc (adM (b + 181)) (zI_adM (b + 181)) (advFM M ((xs (5 * n + 1)).toInt))) (tmM_0 (adM (b + 181)) tc 0) rfl rfl rfl (Nat.le_of_ble_eq_true rfl) ⟨by decide, by decide⟩ ⟨by show _ ≤ 601024; omega, by show _ ≤ 7293034; omega⟩ dL_law_1122 ?_
  refine zl_iload hC 1 rfl dL_law_1125 ?_
  refine zl_conv (St2 := [iv (wcd 1 0 0 (kAdv ((xs (5 * n + 1)).toInt))), iv (wcd 1 0 0 (kAdv ((xs (5 * n + 1)).toInt)))]) ?_ rfl rfl rfl rfl (by rw [← e1])
  refine zl_icmp_eq hC 1132 dL_law_1127 (by decide) (by omega) (by omega) (fun _ => ?_) (fun h => absurd rfl h)
  refine zl_iload hC 1 rfl dL_law_1132 ?_
  refine zl_if_ne hC 1149 dL_law_1134 (by decide) (by omega) (fun c9 => ?_) (fun c9 => ?_)
  · refine zl_goto hC 1207 dL_law_1149 (by decide) ?_
    refine zl_perm [2, 3, 4, 5, 6] (L' := [(0, .ref sb), (1, .ref (adC b 0 0)), (2, .ref (adM (b + 181) 0 0)), (3, .ref (b + 220)), (4, iv ((5 * n : Nat) : Int))]) rfl ?_
    refine zl_widen (k := 300 + 300 * (n + 1)) (n := 3000 + 3000 * (n + 1)) (by omega) (by omega) ?_
    exact hgo _ _ _ e3
  · obtain ⟨hk, hr⟩ := e2 c9
    refine zl_aload_n hC 5 rfl dL_law_1137 rfl ?_
    refine zl_iconst hC dL_law_1138 ?_
    refine zl_laload hC dL_law_1139 ?_
    refine zl_iload hC 0 rfl dL_law_1140 ?_
    refine zl_i2l hC dL_law_1142 ?_
    refine zl_lcmp hC (by rw [if_pos hk, hr]) dL_law_1143 ?_
    refine zl_if_eq hC 1149 dL_law_1144 (by decide) (by omega) (fun _ => ?_) (fun h => absurd rfl h)
    refine zl_goto hC 1207 dL_law_1149 (by decide) ?_
    refine zl_perm [2, 3, 4, 5, 6] (L' := [(0, .ref sb), (1, .ref (adC b 0 0)), (2, .ref (adM (b + 181) 0 0)), (3, .ref (b + 220)), (4, iv ((5 * n : Nat) : Int))]) rfl ?_
    refine zl_widen (k := 300 + 300 * (n + 1)) (n := 3000 + 3000 * (n + 1)) (by omega) (by omega) ?_
    exact hgo _ _ _ e3
set_option maxHeartbeats 4000000 in
set_option maxRecDepth 100000 in
theorem law_mean {p : Program} {l : Launch} {e : Env} {s : State} {m : MethodId} {args : Array Value} {below : List Frame} {meth : Method} {c : Code} {Q : State → Prop} {D : va_G} {tc : Nat → ClassId} {tL : ClassId} {b : Nat} {A : Nat → Prop} {sb Ls : Nat} {xs : Nat → Int32} (hctx : zLC p l s m args c D tc tL b A sb Ls xs) (Rel : Nat → zM → zM → Prop) (hwt : zSt_wt Rel) (hst : zSt_mean Rel) (hF : zNoNaN) {n : Nat} {C M : zM} {v : Int64} (hRel : Rel n C M) (hn : n < 512) (h5 : 5 * n + 5 ≤ Ls) (hgo : ∀ (C9 M9 : zM) (v9 : Int64), Rel (n + 1) C9 M9 → zL p l e room_1 s m args below meth c Q D tc tL b A s.heap 9 (300 + 300 * (n + 1)) (3000 + 3000 * (n + 1)) (C9) (M9) v9 [(0, .ref sb), (1, .ref (adC b 0 0)), (2, .ref (adM (b + 181) 0 0)), (3, .ref (b + 220)), (4, iv ((5 * n : Nat) : Int))] 1207 []) : zL p l e room_1 s m args below meth c Q D tc tL b A s.heap 9 (300 + 300 * n) (3000 + 3000 * n) (C) (M) v [(0, .ref sb), (1, .ref (adC b 0 0)), (2, .ref (adM (b + 181) 0 0)), (3, .ref (b + 220)), (4, iv ((5 * n : Nat) : Int))] 1152 [] := by
  obtain ⟨hC, hCM, hCC, hX, hNc, hAb, hH0, hXs, hbl, hbA, hLs, hlt⟩ := hctx
  obtain ⟨hWC, hWM⟩ := hwt n C M hRel (by omega)
  obtain ⟨e1, e3⟩ := hst n C M hRel hn
  refine zl_aload_n hC 1 rfl dL_law_1152 rfl ?_
  refine zl_callCd hCC zlL_123 (k_X8_mean l D tc (adC b) (zI_adC b) C hWC hF) (tmC_0 (adC b) tc 0) rfl rfl rfl (Nat.le_of_ble_eq_true rfl) ⟨by decide, by decide⟩ ⟨by show _ ≤ 601024; omega, by show _ ≤ 7293034; omega⟩ dL_law_1153 ?_
  refine zl_dstore hC (L' := [(5, .double (meanC C)), (0, .ref sb), (1, .ref (adC b 0 0)), (2, .ref (adM (b + 181) 0 0)), (3, .ref (b + 220)), (4, iv ((5 * n : Nat) : Int))]) dL_law_1156 (by decide) rfl ?_
  refine zl_aload_n hC 3 rfl dL_law_1158 rfl ?_
  refine zl_callMd hCM zlL_127 (k_X10_mean l D tc (adM (b + 181)) (zI_adM (b + 181)) M hWM hF) (tmM_0 (adM (b + 181)) tc 0) rfl rfl rfl (Nat.le_of_ble_eq_true rfl) ⟨by decide, by decide⟩ ⟨by show _ ≤ 601024; omega, by show _ ≤ 7293034; omega⟩ dL_law_1159 ?_
  rw [← e1]
  refine zl_dstore hC (L' := [(7, .double (meanC C)), (5, .double (meanC C)), (0, .ref sb), (1, .ref (adC b 0 0)), (2, .ref (adM (b + 181) 0 0)), (3, .ref (b + 220)), (4, iv ((5 * n : Nat) : Int))]) dL_law_1162 (by decide) rfl ?_
  have hfin : zL p l e room_1 s m args below meth c Q D tc tL b A s.heap 9 (300 + 300 * n + 0 + 0) (3000 + 3000 * n + 0 + 0) (C) (zup M 0 0 0 0) v [(7, .double (meanC C)), (5, .double (meanC C)), (0, .ref sb), (1, .ref (adC b 0 0)), (2, .ref (adM (b + 181) 0 0)), (3, .ref (b + 220)), (4, iv ((5 * n : Nat) : Int))] 1190 [] := by
    refine zl_goto hC 1207 dL_law_1190 (by decide) ?_
    refine zl_perm [2, 3, 4, 5, 6] (L' := [(0, .ref sb), (1, .ref (adC b 0 0)), (2, .ref (adM (b + 181) 0 0)), (3, .ref (b + 220)), (4, iv ((5 * n : Nat) : Int))]) rfl ?_
    refine zl_widen (k := 300 + 300 * (n + 1)) (n := 3000 + 3000 * (n + 1)) (by omega) (by omega) ?_
    exact hgo _ _ _ e3
  refine zl_dload hC 1 rfl dL_law_1164 ?_
  refine zl_dload hC 0 rfl dL_law_1166 ?_
  refine zl_dcmp hC dL_law_1168 ?_
  obtain ⟨z, hz⟩ : ∃ z, z = Op.cmpValue (FP.dcmp (meanC C) (meanC C)) .l := ⟨_, rfl⟩
  rw [← hz]
  refine zl_conv (St2 := [iv z.toInt]) ?_ rfl rfl rfl rfl (by show [Value.int z] = [Value.int (Int32.ofInt z.toInt)]; rw [Int32.ofInt_toInt])
  refine zl_if_eq hC 1190 dL_law_1169 (by decide) (zi_toInt_bd _) (fun _ => hfin) (fun h0 => ?_)
  refine zl_dload hC 1 rfl dL_law_1172 ?_
  refine zl_dload hC 1 rfl dL_law_1174 ?_
  refine zl_dcmp hC dL_law_1176 ?_
  rw [← hz]
  refine zl_conv (St2 := [iv z.toInt]) ?_ rfl rfl rfl rfl (by show [Value.int z] = [Value.int (Int32.ofInt z.toInt)]; rw [Int32.ofInt_toInt])
  refine zl_if_eq hC 1188 dL_law_1177 (by decide) (zi_toInt_bd _) (fun h => absurd h h0) (fun _ => ?_)
  refine zl_dload hC 0 rfl dL_law_1180 ?_
  refine zl_dload hC 0 rfl dL_law_1182 ?_
  refine zl_dcmp hC dL_law_1184 ?_
  rw [← hz]
  refine zl_conv (St2 := [iv z.toInt]) ?_ rfl rfl rfl rfl (by show [Value.int z] = [Value.int (Int32.ofInt z.toInt)]; rw [Int32.ofInt_toInt])
  exact zl_if_ne hC 1190 dL_law_1185 (by decide) (zi_toInt_bd _) (fun _ => hfin) (fun h => absurd h h0)
set_option maxHeartbeats 4000000 in
set_option maxRecDepth 100000 in
theorem law_digest {p : Program} {l : Launch} {e : Env} {s : State} {m : MethodId} {args : Array Value} {below : List Frame} {meth : Method} {c : Code} {Q : State → Prop} {D : va_G} {tc : Nat → ClassId} {tL : ClassId} {b : Nat} {A : Nat → Prop} {sb Ls : Nat} {xs : Nat → Int32} (hctx : zLC p l s m args c D tc tL b A sb Ls xs) (Rel : Nat → zM → zM → Prop) (hwt : zSt_wt Rel) (hst : zSt_digest Rel) {n : Nat} {C M : zM} {v : Int64} (hRel : Rel n C M) (hn : n < 512) (h5 : 5 * n + 5 ≤ Ls) (hgo : ∀ (C9 M9 : zM) (v9 : Int64), Rel (n + 1) C9 M9 → zL p l e room_1 s m args below meth c Q D tc tL b A s.heap 9 (300 + 300 * (n + 1)) (3000 + 3000 * (n + 1)) (C9) (M9) v9 [(0, .ref sb), (1, .ref (adC b 0 0)), (2, .ref (adM (b + 181) 0 0)), (3, .ref (b + 220)), (4, iv ((5 * n : Nat) : Int))] 1207 []) : zL p l e room_1 s m args below meth c Q D tc tL b A s.heap 9 (300 + 300 * n) (3000 + 3000 * n) (C) (M) v [(0, .ref sb), (1, .ref (adC b 0 0)), (2, .ref (adM (b + 181) 0 0)), (3, .ref (b + 220)), (4, iv ((5 * n : Nat) : Int))] 1193 [] := by
  obtain ⟨hC, hCM, hCC, hX, hNc, hAb, hH0, hXs, hbl, hbA, hLs, hlt⟩ := hctx
  obtain ⟨hWC, hWM⟩ := hwt n C M hRel (by omega)
  obtain ⟨hat, e1, e3⟩ := hst n C M hRel hn
  refine zl_aload_n hC 1 rfl dL_law_1193 rfl ?_
  refine zl_callCl hCC zlL_128 (k_X8_digest l D tc (adC b) (zI_adC b) C hWC) (tmC_0 (adC b) tc 0) rfl rfl rfl (Nat.le_of_ble_eq_true rfl) ⟨by decide, by decide⟩ ⟨by show _ ≤ 601024; omega, by show _ ≤ 7293034; omega⟩ dL_law_1194 ?_
  refine zl_aload_n hC 2 rfl dL_law_1197 rfl ?_
  refine zl_callMl hCM zlL_132 (k_X10_digest l D tc (adM (b + 181)) (zI_adM (b + 181)) M hWM hat) (tmM_0 (adM (b + 181)) tc 0) rfl rfl rfl (Nat.le_of_ble_eq_true rfl) ⟨by decide, by decide⟩ ⟨by show _ ≤ 601024; omega, by show _ ≤ 7293034; omega⟩ dL_law_1198 ?_
  refine zl_lcmp hC e1 dL_law_1201 ?_
  refine zl_if_eq hC 1207 dL_law_1202 (by decide) (by omega) (fun _ => ?_) (fun h => absurd rfl h)
  refine zl_perm [0, 1, 2, 3, 4] (L' := [(0, .ref sb), (1, .ref (adC b 0 0)), (2, .ref (adM (b + 181) 0 0)), (3, .ref (b + 220)), (4, iv ((5 * n : Nat) : Int))]) rfl ?_
  refine zl_widen (k := 300 + 300 * (n + 1)) (n := 3000 + 3000 * (n + 1)) (by omega) (by omega) ?_
  exact hgo _ _ _ e3
