/-! canopy: a canopy of platforms, lines, wind and riders that the script chooses -/
theorem ap_1 (C : zM) (x y q : Int) : addPlatformC C x y q 1 0 4 = C 1 0 4 + 1 ∧ addPlatformC C x y q 1 0 5 = C 1 0 5 ∧ addPlatformC C x y q 1 0 6 = C 1 0 6 := by
  refine ⟨?_, ?_, ?_⟩ <;> simp [addPlatformC, zup]
theorem ap_6 (C : zM) (x y q : Int) (j : Nat) : addPlatformC C x y q 6 j 0 = (if j = (C 1 0 4).toNat then x else C 6 j 0) ∧ addPlatformC C x y q 6 j 2 = (if j = (C 1 0 4).toNat then q else C 6 j 2) := by
  refine ⟨?_, ?_⟩ <;> simp [addPlatformC, zup]
theorem sp_1 (C : zM) (t b mo v tr : Int) : addTC (addLineC C t b mo) 0 v tr 1 0 4 = C 1 0 4 ∧ addTC (addLineC C t b mo) 0 v tr 1 0 5 = C 1 0 5 + 1 ∧ addTC (addLineC C t b mo) 0 v tr 1 0 6 = C 1 0 6 ∧ addTC (addLineC C t b mo) 0 v tr 6 = C 6 := by
  have e1 : addTC (addLineC C t b mo) 0 v tr 1 = addLine0 C t b mo 1 := by rw [addTC_fr (by decide)]; exact planAll_fr (by decide)
  have e6 : addTC (addLineC C t b mo) 0 v tr 6 = C 6 := by rw [addTC_fr (by decide)]; exact (planAll_fr (by decide)).trans (addLine0_fr (by decide))
  rw [e1, e6]
  exact ⟨by simp [addLine0, zup], by simp [addLine0, zup], by simp [addLine0, zup], rfl⟩
theorem gs_0 : GS 0 M0C := by
  have e5 : M0C 1 0 5 = 0 := m0c (by decide)
  have e6 : M0C 1 0 6 = 0 := m0c (by decide)
  refine ⟨M0M, start2, fun r hr => ?_, fun l hl => ?_, ?_⟩
  · rw [e6] at hr; omega
  · rw [e5] at hl; omega
  · rw [e5, e6]; rfl
set_option maxHeartbeats 4000000 in
set_option maxRecDepth 100000 in
theorem can_body {p : Program} {l : Launch} {e : Env} {s : State} {m : MethodId} {args : Array Value} {below : List Frame} {meth : Method} {c : Code} {Q : State → Prop} {D : va_G} {tc : Nat → ClassId} {b : Nat} {A : Nat → Prop} {H0 : Heap} {sb Ls : Nat} {xs : Nat → Int32} (hlt : l.stackTraces = false) (hK : zLK p s m args c D tc b A H0 cL_canopy 8 sb Ls xs) (hend : ∀ C : zM, GS 40 C → 2 ≤ C 1 0 4 → 1 ≤ C 1 0 5 → zQ p l e (zrm 7 300 1500) s m args below meth c Q D tc b A H0 8 (300) (1500) C [] [(2, .ref (adC b 0 0))] 362 []) : zQ p l e (zrm 7 300 1500) s m args below meth c Q D tc b A H0 8 (181) (937) M0C [] [(2, .ref (adC b 0 0)), (0, .ref sb), (1, iv 1)] 8 [] := by
  have hC := hK.1
  have hX := hK.2.1
  have hc270 : ∀ (d270 : Nat) (P : Int) (q : Nat) (C : zM) (hP : 2 ≤ P ∧ P ≤ 8) (hq : q ≤ 8) (hG : GS (32 + q) C) (h4 : C 1 0 4 = P) (h5 : 1 ≤ C 1 0 5) (h6 : C 1 0 6 = (q : Int)), 8 - q = d270 → zQ p l e (zrm 7 300 1500) s m args below meth c Q D tc b A H0 8 (240 + q) (1300 + 6 * q) C [] [(0, .ref sb), (1, iv 1), (2, .ref (adC b 0 0)), (3, iv P), (5, iv ((q : Nat) : Int))] 270 [] := by
    intro d270
    induction d270 using Nat.strongRecOn with
    | _ d270 ih270 =>
      intro P q C hP hq hG h4 h5 h6 hd270
      refine zq_iload hC 4 rfl dL_canopy_270 ?_
      refine zq_aload_n hC 0 rfl dL_canopy_272 rfl ?_
      refine zq_bipush hC dL_canopy_273 (by decide) ?_
      refine zq_cell hK 10 (by omega) (by omega) (Nat.le_of_ble_eq_true rfl) ⟨by decide, by decide⟩ ⟨by show _ ≤ 300; omega, by show _ ≤ 1500; omega⟩ dL_canopy_275 (fun z1 => ?_)
      refine zq_bipush hC dL_canopy_278 (by decide) ?_
      refine zq_below hK (n := 9) ⟨by omega, by omega⟩ (Nat.le_of_ble_eq_true rfl) ⟨by decide, by decide⟩ ⟨by show _ ≤ 300; omega, by show _ ≤ 1500; omega⟩ dL_canopy_280 (fun r2 hr2 gr2 => ?_)
      refine zq_icmp_ge hC 362 dL_canopy_283 (by decide) (by omega) (by omega) (fun c283 => ?_) (fun c283 => ?_)
      · skip
        refine zq_perm [2] (L' := [(2, .ref (adC b 0 0))]) rfl ?_
        refine zq_widen (k := 300) (n := 1500) (by omega) (by omega) ?_
        exact hend C (by have h9 := hG.up (8 - q); rw [show 32 + q + (8 - q) = 40 by omega] at h9; exact h9) (by omega) h5
      · skip
        refine zq_iload_n hC 1 rfl dL_canopy_286 rfl ?_
        refine zq_if_eq hC 362 dL_canopy_287 (by decide) (by omega) (fun c287 => ?_) (fun c287 => ?_)
        · skip
          exfalso; omega
        · skip
          refine zq_aload_n hC 0 rfl dL_canopy_290 rfl ?_
          refine zq_bipush hC dL_canopy_291 (by decide) ?_
          refine zq_iload hC 4 rfl dL_canopy_293 ?_
          refine zq_iconst hC dL_canopy_295 ?_
          refine zq_irem hC dL_canopy_296 (by omega) (by omega) ?_
          refine zq_iadd hC dL_canopy_297 ?_
          refine zq_cell hK (11 + (q % 4)) (by omega) (by omega) (Nat.le_of_ble_eq_true rfl) ⟨by decide, by decide⟩ ⟨by show _ ≤ 300; omega, by show _ ≤ 1500; omega⟩ dL_canopy_298 (fun z3 => ?_)
          refine zq_iload hC 4 rfl dL_canopy_301 ?_
          refine zq_iconst hC dL_canopy_303 ?_
          refine zq_idiv hC dL_canopy_304 (by omega) (by omega) ?_
          refine zq_bipush hC dL_canopy_305 (by decide) ?_
          refine zq_imul hC dL_canopy_307 ?_
          refine zq_ishr_any hC dL_canopy_308 (fun z4 => ?_)
          refine zq_istore hC (L' := [(6, .int z4), (0, .ref sb), (1, iv 1), (2, .ref (adC b 0 0)), (3, iv P), (5, iv ((q : Nat) : Int))]) dL_canopy_309 (by decide) rfl ?_
          refine zq_aload_n hC 3 rfl dL_canopy_311 rfl ?_
          refine zq_iload hC 0 rfl dL_canopy_312 ?_
          refine zq_iload_n hC 4 rfl dL_canopy_314 rfl ?_
          refine zq_iconst hC dL_canopy_315 ?_
          refine zq_isub hC dL_canopy_316 ?_
          refine zq_below hK (n := (P - 1)) ⟨by omega, by omega⟩ (Nat.le_of_ble_eq_true rfl) ⟨by decide, by decide⟩ ⟨by show _ ≤ 300; omega, by show _ ≤ 1500; omega⟩ dL_canopy_317 (fun r5 hr5 gr5 => ?_)
          refine zq_iload hC 0 rfl dL_canopy_320 ?_
          refine zq_iconst hC dL_canopy_322 ?_
          refine zq_ishr_any hC dL_canopy_323 (fun z6 => ?_)
          refine zq_iload_n hC 4 rfl dL_canopy_324 rfl ?_
          refine zq_below hK (n := P) ⟨by omega, by omega⟩ (Nat.le_of_ble_eq_true rfl) ⟨by decide, by decide⟩ ⟨by show _ ≤ 300; omega, by show _ ≤ 1500; omega⟩ dL_canopy_325 (fun r7 hr7 gr7 => ?_)
          refine zq_bipush hC dL_canopy_328 (by decide) ?_
          refine zq_iload hC 0 rfl dL_canopy_330 ?_
          refine zq_iconst hC dL_canopy_332 ?_
          refine zq_ishr_any hC dL_canopy_333 (fun z8 => ?_)
          refine zq_bipush hC dL_canopy_334 (by decide) ?_
          refine zq_below hK (n := 101) ⟨by omega, by omega⟩ (Nat.le_of_ble_eq_true rfl) ⟨by decide, by decide⟩ ⟨by show _ ≤ 300; omega, by show _ ≤ 1500; omega⟩ dL_canopy_336 (fun r9 hr9 gr9 => ?_)
          refine zq_iadd hC dL_canopy_339 ?_
          refine zq_iconst hC dL_canopy_340 ?_
          refine zq_iload hC 0 rfl dL_canopy_341 ?_
          refine zq_bipush hC dL_canopy_343 (by decide) ?_
          refine zq_ishr_any hC dL_canopy_345 (fun z10 => ?_)
          refine zq_bipush hC dL_canopy_346 (by decide) ?_
          refine zq_below hK (n := 60) ⟨by omega, by omega⟩ (Nat.le_of_ble_eq_true rfl) ⟨by decide, by decide⟩ ⟨by show _ ≤ 300; omega, by show _ ≤ 1500; omega⟩ dL_canopy_348 (fun r11 hr11 gr11 => ?_)
          refine zq_iadd hC dL_canopy_351 ?_
          obtain ⟨hk, hG2, c4, c5, c6⟩ := gs_come (q := r5) (g := r7) (w := 20 + r9) (pa := 1 + r11) hG (by omega) ⟨by omega, by omega⟩ ⟨by omega, by omega⟩ ⟨by omega, by omega⟩ ⟨by omega, by omega⟩ (by omega)
          refine zq_call hC hX zlL_33 rfl (k_X8_come l hlt D tc (adC b) (zI_adC b) C r5 r7 (20 + r9) (1 + r11) (hG.wt (by omega)) ⟨by omega, by omega⟩ ⟨by omega, by omega⟩ ⟨by omega, by omega⟩ ⟨by omega, by omega⟩) (hk) (r2 := (C 1 0 6)) (by rfl) rfl rfl (Nat.le_of_ble_eq_true rfl) ⟨by decide, by decide⟩ ⟨by show _ ≤ 300; omega, by show _ ≤ 1500; omega⟩ dL_canopy_352 ?_
          refine zq_pop hC dL_canopy_355 rfl ?_
          refine zq_iinc hC 5 (L' := [(5, iv (((q : Nat) : Int) + 1)), (6, .int z4), (0, .ref sb), (1, iv 1), (2, .ref (adC b 0 0)), (3, iv P)]) dL_canopy_356 rfl (by decide) rfl ?_
          refine zq_goto hC 270 dL_canopy_359 (by decide) ?_
          refine zq_perm [2, 3, 4, 5, 0] (L' := [(0, .ref sb), (1, iv 1), (2, .ref (adC b 0 0)), (3, iv P), (5, iv (((q : Nat) : Int) + 1))]) rfl ?_
          refine zq_widen (k := 240 + (q + 1)) (n := 1300 + 6 * (q + 1)) (by omega) (by omega) ?_
          exact zq_conv (ih270 _ (by omega) P (q + 1) (reachC (addRiderC C r7 (20 + r9) (1 + r11)) 0 (C 1 0 6) r5) hP (by omega) hG2 (by omega) (by omega) (by omega) rfl) (by rfl) (by rfl) (by rfl) rfl
  have hc211 : ∀ (d211 : Nat) (P : Int) (k : Nat) (C : zM) (hP : 2 ≤ P ∧ P ≤ 8) (hk9 : k ≤ 12) (hG : GS (20 + k) C) (h4 : C 1 0 4 = P) (h5 : 1 ≤ C 1 0 5) (h6 : C 1 0 6 = 0), 12 - k = d211 → zQ p l e (zrm 7 300 1500) s m args below meth c Q D tc b A H0 8 (225 + k) (1200 + 6 * k) C [] [(0, .ref sb), (1, iv 1), (2, .ref (adC b 0 0)), (3, iv P), (5, iv ((k : Nat) : Int))] 211 [] := by
    intro d211
    induction d211 using Nat.strongRecOn with
    | _ d211 ih211 =>
      intro P k C hP hk9 hG h4 h5 h6 hd211
      refine zq_iload hC 4 rfl dL_canopy_211 ?_
      refine zq_bipush hC dL_canopy_213 (by decide) ?_
      refine zq_icmp_ge hC 267 dL_canopy_215 (by decide) (by omega) (by omega) (fun c215 => ?_) (fun c215 => ?_)
      · skip
        refine zq_iconst hC dL_canopy_267 ?_
        refine zq_istore hC (L' := [(5, iv 0), (0, .ref sb), (1, iv 1), (2, .ref (adC b 0 0)), (3, iv P)]) dL_canopy_268 (by decide) rfl ?_
        refine zq_perm [1, 2, 3, 4, 0] (L' := [(0, .ref sb), (1, iv 1), (2, .ref (adC b 0 0)), (3, iv P), (5, iv 0)]) rfl ?_
        refine zq_widen (k := 240 + 0) (n := 1300 + 6 * 0) (by omega) (by omega) ?_
        exact zq_conv (hc270 _ P 0 C hP (by omega) (by have h9 := hG.up (12 - k); rw [show 20 + k + (12 - k) = 32 by omega] at h9; exact h9) h4 h5 h6 rfl) (by rfl) (by rfl) (by rfl) rfl
      · skip
        refine zq_aload_n hC 2 rfl dL_canopy_218 rfl ?_
        refine zq_iload hC 4 rfl dL_canopy_219 ?_
        refine zq_aload_n hC 0 rfl dL_canopy_221 rfl ?_
        refine zq_bipush hC dL_canopy_222 (by decide) ?_
        refine zq_cell hK 9 (by omega) (by omega) (Nat.le_of_ble_eq_true rfl) ⟨by decide, by decide⟩ ⟨by show _ ≤ 300; omega, by show _ ≤ 1500; omega⟩ dL_canopy_224 (fun z12 => ?_)
        refine zq_iconst hC dL_canopy_227 ?_
        refine zq_iload hC 4 rfl dL_canopy_228 ?_
        refine zq_imul hC dL_canopy_230 ?_
        refine zq_ishr_any hC dL_canopy_231 (fun z13 => ?_)
        refine zq_iconst hC dL_canopy_232 ?_
        refine zq_below hK (n := 3) ⟨by omega, by omega⟩ (Nat.le_of_ble_eq_true rfl) ⟨by decide, by decide⟩ ⟨by show _ ≤ 300; omega, by show _ ≤ 1500; omega⟩ dL_canopy_233 (fun r14 hr14 gr14 => ?_)
        refine zq_if_le hC 243 dL_canopy_236 (by decide) (by omega) (fun c236 => ?_) (fun c236 => ?_)
        · skip
          refine zq_aload_n hC 0 rfl dL_canopy_243 rfl ?_
          refine zq_bipush hC dL_canopy_244 (by decide) ?_
          refine zq_cell hK 9 (by omega) (by omega) (Nat.le_of_ble_eq_true rfl) ⟨by decide, by decide⟩ ⟨by show _ ≤ 300; omega, by show _ ≤ 1500; omega⟩ dL_canopy_246 (fun z15 => ?_)
          refine zq_iload hC 4 rfl dL_canopy_249 ?_
          refine zq_ishr_any hC dL_canopy_251 (fun z16 => ?_)
          refine zq_bipush hC dL_canopy_252 (by decide) ?_
          refine zq_below hK (n := 10) ⟨by omega, by omega⟩ (Nat.le_of_ble_eq_true rfl) ⟨by decide, by decide⟩ ⟨by show _ ≤ 300; omega, by show _ ≤ 1500; omega⟩ dL_canopy_254 (fun r17 hr17 gr17 => ?_)
          obtain ⟨hk, hG2⟩ := gs_wind (mi := ((k : Nat) : Int)) (w := r17) hG (by omega) ⟨by omega, by omega⟩ ⟨by omega, by omega⟩
          refine zq_call hC hX zlL_30 rfl (k_X8_setWind l hlt D tc (adC b) (zI_adC b) C ((k : Nat) : Int) r17 (hG.wt (by omega)) ⟨by omega, by omega⟩ ⟨by omega, by omega⟩) (hk) (r2 := (C 5 0 ((k : Nat) : Int).toNat)) (by rfl) rfl rfl (Nat.le_of_ble_eq_true rfl) ⟨by decide, by decide⟩ ⟨by show _ ≤ 300; omega, by show _ ≤ 1500; omega⟩ dL_canopy_257 ?_
          refine zq_pop hC dL_canopy_260 rfl ?_
          refine zq_iinc hC 4 (L' := [(5, iv (((k : Nat) : Int) + 1)), (0, .ref sb), (1, iv 1), (2, .ref (adC b 0 0)), (3, iv P)]) dL_canopy_261 rfl (by decide) rfl ?_
          refine zq_goto hC 211 dL_canopy_264 (by decide) ?_
          refine zq_perm [1, 2, 3, 4, 0] (L' := [(0, .ref sb), (1, iv 1), (2, .ref (adC b 0 0)), (3, iv P), (5, iv (((k : Nat) : Int) + 1))]) rfl ?_
          refine zq_widen (k := 225 + (k + 1)) (n := 1200 + 6 * (k + 1)) (by omega) (by omega) ?_
          exact zq_conv (ih211 _ (by omega) P (k + 1) (zup C 5 0 ((k : Nat) : Int).toNat r17) hP (by omega) hG2 (by rw [zup_fr (by decide)]; exact h4) (by rw [zup_fr (by decide)]; exact h5) (by rw [zup_fr (by decide)]; exact h6) rfl) (by rfl) (by rfl) (by rfl) rfl
        · skip
          refine zq_iconst hC dL_canopy_239 ?_
          refine zq_goto hC 257 dL_canopy_240 (by decide) ?_
          obtain ⟨hk, hG2⟩ := gs_wind (mi := ((k : Nat) : Int)) (w := 0) hG (by omega) ⟨by omega, by omega⟩ ⟨by omega, by omega⟩
          refine zq_call hC hX zlL_30 rfl (k_X8_setWind l hlt D tc (adC b) (zI_adC b) C ((k : Nat) : Int) 0 (hG.wt (by omega)) ⟨by omega, by omega⟩ ⟨by omega, by omega⟩) (hk) (r2 := (C 5 0 ((k : Nat) : Int).toNat)) (by rfl) rfl rfl (Nat.le_of_ble_eq_true rfl) ⟨by decide, by decide⟩ ⟨by show _ ≤ 300; omega, by show _ ≤ 1500; omega⟩ dL_canopy_257 ?_
          refine zq_pop hC dL_canopy_260 rfl ?_
          refine zq_iinc hC 4 (L' := [(5, iv (((k : Nat) : Int) + 1)), (0, .ref sb), (1, iv 1), (2, .ref (adC b 0 0)), (3, iv P)]) dL_canopy_261 rfl (by decide) rfl ?_
          refine zq_goto hC 211 dL_canopy_264 (by decide) ?_
          refine zq_perm [1, 2, 3, 4, 0] (L' := [(0, .ref sb), (1, iv 1), (2, .ref (adC b 0 0)), (3, iv P), (5, iv (((k : Nat) : Int) + 1))]) rfl ?_
          refine zq_widen (k := 225 + (k + 1)) (n := 1200 + 6 * (k + 1)) (by omega) (by omega) ?_
          exact zq_conv (ih211 _ (by omega) P (k + 1) (zup C 5 0 ((k : Nat) : Int).toNat 0) hP (by omega) hG2 (by rw [zup_fr (by decide)]; exact h4) (by rw [zup_fr (by decide)]; exact h5) (by rw [zup_fr (by decide)]; exact h6) rfl) (by rfl) (by rfl) (by rfl) rfl
  have hc116 : ∀ (d116 : Nat) (P LN : Int) (q : Nat) (C : zM) (hP : 2 ≤ P ∧ P ≤ 8) (hL : 1 ≤ LN ∧ LN ≤ 12) (hq : (q : Int) ≤ LN) (hG : GS (8 + q) C) (h4 : C 1 0 4 = P) (h5 : C 1 0 5 = (q : Int)) (h6 : C 1 0 6 = 0) (hh : ∀ j : Nat, (j : Int) < P → 55 - 7 * (j : Int) ≤ C 6 j 2 ∧ C 6 j 2 ≤ 60 - 7 * (j : Int)), (LN - (q : Int)).toNat = d116 → zQ p l e (zrm 7 300 1500) s m args below meth c Q D tc b A H0 8 (210 + q) (1100 + 6 * q) C [] [(0, .ref sb), (1, iv 1), (2, .ref (adC b 0 0)), (3, iv P), (4, iv LN), (5, iv ((q : Nat) : Int))] 116 [] := by
    intro d116
    induction d116 using Nat.strongRecOn with
    | _ d116 ih116 =>
      intro P LN q C hP hL hq hG h4 h5 h6 hh hd116
      refine zq_iload hC 5 rfl dL_canopy_116 ?_
      refine zq_iload hC 4 rfl dL_canopy_118 ?_
      refine zq_icmp_ge hC 208 dL_canopy_120 (by decide) (by omega) (by omega) (fun c120 => ?_) (fun c120 => ?_)
      · skip
        refine zq_iconst hC dL_canopy_208 ?_
        refine zq_istore hC (L' := [(5, iv 0), (0, .ref sb), (1, iv 1), (2, .ref (adC b 0 0)), (3, iv P), (4, iv LN)]) dL_canopy_209 (by decide) rfl ?_
        refine zq_perm [1, 2, 3, 4, 0] (L' := [(0, .ref sb), (1, iv 1), (2, .ref (adC b 0 0)), (3, iv P), (5, iv 0)]) rfl ?_
        refine zq_widen (k := 225 + 0) (n := 1200 + 6 * 0) (by omega) (by omega) ?_
        exact zq_conv (hc211 _ P 0 C hP (by omega) (by have h9 := hG.up (12 - q); rw [show 8 + q + (12 - q) = 20 by omega] at h9; exact h9) h4 (by omega) h6 rfl) (by rfl) (by rfl) (by rfl) rfl
      · skip
        refine zq_aload_n hC 0 rfl dL_canopy_123 rfl ?_
        refine zq_iconst hC dL_canopy_124 ?_
        refine zq_iload hC 5 rfl dL_canopy_125 ?_
        refine zq_iconst hC dL_canopy_127 ?_
        refine zq_irem hC dL_canopy_128 (by omega) (by omega) ?_
        refine zq_iadd hC dL_canopy_129 ?_
        refine zq_cell hK (5 + (q % 4)) (by omega) (by omega) (Nat.le_of_ble_eq_true rfl) ⟨by decide, by decide⟩ ⟨by show _ ≤ 300; omega, by show _ ≤ 1500; omega⟩ dL_canopy_130 (fun z18 => ?_)
        refine zq_iload hC 5 rfl dL_canopy_133 ?_
        refine zq_iconst hC dL_canopy_135 ?_
        refine zq_idiv hC dL_canopy_136 (by omega) (by omega) ?_
        refine zq_bipush hC dL_canopy_137 (by decide) ?_
        refine zq_imul hC dL_canopy_139 ?_
        refine zq_ishr_any hC dL_canopy_140 (fun z19 => ?_)
        refine zq_istore hC (L' := [(6, .int z19), (0, .ref sb), (1, iv 1), (2, .ref (adC b 0 0)), (3, iv P), (4, iv LN), (5, iv ((q : Nat) : Int))]) dL_canopy_141 (by decide) rfl ?_
        refine zq_iload hC 0 rfl dL_canopy_143 ?_
        refine zq_iload_n hC 4 rfl dL_canopy_145 rfl ?_
        refine zq_iconst hC dL_canopy_146 ?_
        refine zq_isub hC dL_canopy_147 ?_
        refine zq_below hK (n := (P - 1)) ⟨by omega, by omega⟩ (Nat.le_of_ble_eq_true rfl) ⟨by decide, by decide⟩ ⟨by show _ ≤ 300; omega, by show _ ≤ 1500; omega⟩ dL_canopy_148 (fun r20 hr20 gr20 => ?_)
        refine zq_istore hC (L' := [(7, iv r20), (6, .int z19), (0, .ref sb), (1, iv 1), (2, .ref (adC b 0 0)), (3, iv P), (4, iv LN), (5, iv ((q : Nat) : Int))]) dL_canopy_151 (by decide) rfl ?_
        refine zq_aload_n hC 4 rfl dL_canopy_153 rfl ?_
        refine zq_iload hC 0 rfl dL_canopy_154 ?_
        refine zq_iload hC 0 rfl dL_canopy_156 ?_
        refine zq_iconst hC dL_canopy_158 ?_
        refine zq_iadd hC dL_canopy_159 ?_
        refine zq_iload hC 1 rfl dL_canopy_160 ?_
        refine zq_iconst hC dL_canopy_162 ?_
        refine zq_ishr_any hC dL_canopy_163 (fun z21 => ?_)
        refine zq_iload_n hC 5 rfl dL_canopy_164 rfl ?_
        refine zq_iload hC 0 rfl dL_canopy_165 ?_
        refine zq_isub hC dL_canopy_167 ?_
        refine zq_iconst hC dL_canopy_168 ?_
        refine zq_isub hC dL_canopy_169 ?_
        refine zq_below hK (n := ((P - r20) - 1)) ⟨by omega, by omega⟩ (Nat.le_of_ble_eq_true rfl) ⟨by decide, by decide⟩ ⟨by show _ ≤ 300; omega, by show _ ≤ 1500; omega⟩ dL_canopy_170 (fun r22 hr22 gr22 => ?_)
        refine zq_iadd hC dL_canopy_173 ?_
        refine zq_bipush hC dL_canopy_174 (by decide) ?_
        refine zq_iload hC 1 rfl dL_canopy_176 ?_
        refine zq_bipush hC dL_canopy_178 (by decide) ?_
        refine zq_ishr_any hC dL_canopy_180 (fun z23 => ?_)
        refine zq_bipush hC dL_canopy_181 (by decide) ?_
        refine zq_below hK (n := 91) ⟨by omega, by omega⟩ (Nat.le_of_ble_eq_true rfl) ⟨by decide, by decide⟩ ⟨by show _ ≤ 300; omega, by show _ ≤ 1500; omega⟩ dL_canopy_183 (fun r24 hr24 gr24 => ?_)
        refine zq_iadd hC dL_canopy_186 ?_
        refine zq_iconst hC dL_canopy_187 ?_
        refine zq_iload hC 1 rfl dL_canopy_188 ?_
        refine zq_bipush hC dL_canopy_190 (by decide) ?_
        refine zq_ishr_any hC dL_canopy_192 (fun z25 => ?_)
        refine zq_iconst hC dL_canopy_193 ?_
        refine zq_below hK (n := 3) ⟨by omega, by omega⟩ (Nat.le_of_ble_eq_true rfl) ⟨by decide, by decide⟩ ⟨by show _ ≤ 300; omega, by show _ ≤ 1500; omega⟩ dL_canopy_194 (fun r26 hr26 gr26 => ?_)
        refine zq_iadd hC dL_canopy_197 ?_
        obtain ⟨hk, hG2⟩ := gs_span (t := r20) (b := (r20 + 1) + r22) (mo := 60 + r24) (tr := 1 + r26) hG (by omega) ⟨by omega, by omega⟩ ⟨by omega, by omega⟩ (by have h9 := hh r20.toNat (by omega); have h8 := hh ((r20 + 1) + r22).toNat (by omega); omega) ⟨by omega, by omega⟩ ⟨by omega, by omega⟩ (by omega)
        refine zq_call hC hX zlL_26 rfl (k_X8_span l hlt D tc (adC b) (zI_adC b) C r20 ((r20 + 1) + r22) (60 + r24) (1 + r26) (hG.wt (by omega)) ⟨by omega, by omega⟩ ⟨by omega, by omega⟩ ⟨by omega, by omega⟩ ⟨by omega, by omega⟩) (hk) (r2 := (C 1 0 5)) (by rfl) rfl rfl (Nat.le_of_ble_eq_true rfl) ⟨by decide, by decide⟩ ⟨by show _ ≤ 300; omega, by show _ ≤ 1500; omega⟩ dL_canopy_198 ?_
        refine zq_pop hC dL_canopy_201 rfl ?_
        refine zq_iinc hC 7 (L' := [(5, iv (((q : Nat) : Int) + 1)), (7, iv r20), (6, .int z19), (0, .ref sb), (1, iv 1), (2, .ref (adC b 0 0)), (3, iv P), (4, iv LN)]) dL_canopy_202 rfl (by decide) rfl ?_
        refine zq_goto hC 116 dL_canopy_205 (by decide) ?_
        refine zq_perm [3, 4, 5, 6, 7, 0] (L' := [(0, .ref sb), (1, iv 1), (2, .ref (adC b 0 0)), (3, iv P), (4, iv LN), (5, iv (((q : Nat) : Int) + 1))]) rfl ?_
        obtain ⟨sp4, sp5, sp6, sp66⟩ := sp_1 C r20 ((r20 + 1) + r22) (60 + r24) (C 1 0 5) (1 + r26)
        refine zq_widen (k := 210 + (q + 1)) (n := 1100 + 6 * (q + 1)) (by omega) (by omega) ?_
        exact zq_conv (ih116 _ (by omega) P LN (q + 1) (addTC (addLineC C r20 ((r20 + 1) + r22) (60 + r24)) 0 (C 1 0 5) (1 + r26)) hP hL (by omega) hG2 (by omega) (by omega) (by omega) (by rw [sp66]; exact hh) rfl) (by rfl) (by rfl) (by rfl) rfl
  have hc24 : ∀ (d24 : Nat) (P : Int) (p9 : Nat) (C : zM) (hP : 2 ≤ P ∧ P ≤ 8) (hp : (p9 : Int) ≤ P) (hG : GS p9 C) (h4 : C 1 0 4 = (p9 : Int)) (h5 : C 1 0 5 = 0) (h6 : C 1 0 6 = 0) (hx : ∀ j : Nat, j < p9 → 5 * (j : Int) ≤ C 6 j 0 ∧ C 6 j 0 ≤ 5 * (j : Int) + 4) (hh : ∀ j : Nat, j < p9 → 55 - 7 * (j : Int) ≤ C 6 j 2 ∧ C 6 j 2 ≤ 60 - 7 * (j : Int)), (P - (p9 : Int)).toNat = d24 → zQ p l e (zrm 7 300 1500) s m args below meth c Q D tc b A H0 8 (200 + p9) (1000 + 6 * p9) C [] [(0, .ref sb), (1, iv 1), (2, .ref (adC b 0 0)), (3, iv P), (4, iv ((p9 : Nat) : Int))] 24 [] := by
    intro d24
    induction d24 using Nat.strongRecOn with
    | _ d24 ih24 =>
      intro P p9 C hP hp hG h4 h5 h6 hx hh hd24
      refine zq_iload hC 4 rfl dL_canopy_24 ?_
      refine zq_iload_n hC 3 rfl dL_canopy_26 rfl ?_
      refine zq_icmp_ge hC 99 dL_canopy_27 (by decide) (by omega) (by omega) (fun c27 => ?_) (fun c27 => ?_)
      · skip
        refine zq_iconst hC dL_canopy_99 ?_
        refine zq_aload_n hC 0 rfl dL_canopy_100 rfl ?_
        refine zq_iconst hC dL_canopy_101 ?_
        refine zq_cell hK 4 (by omega) (by omega) (Nat.le_of_ble_eq_true rfl) ⟨by decide, by decide⟩ ⟨by show _ ≤ 300; omega, by show _ ≤ 1500; omega⟩ dL_canopy_102 (fun z27 => ?_)
        refine zq_bipush hC dL_canopy_105 (by decide) ?_
        refine zq_below hK (n := 12) ⟨by omega, by omega⟩ (Nat.le_of_ble_eq_true rfl) ⟨by decide, by decide⟩ ⟨by show _ ≤ 300; omega, by show _ ≤ 1500; omega⟩ dL_canopy_107 (fun r28 hr28 gr28 => ?_)
        refine zq_iadd hC dL_canopy_110 ?_
        refine zq_istore hC (L' := [(4, iv (1 + r28)), (0, .ref sb), (1, iv 1), (2, .ref (adC b 0 0)), (3, iv P)]) dL_canopy_111 (by decide) rfl ?_
        refine zq_iconst hC dL_canopy_113 ?_
        refine zq_istore hC (L' := [(5, iv 0), (4, iv (1 + r28)), (0, .ref sb), (1, iv 1), (2, .ref (adC b 0 0)), (3, iv P)]) dL_canopy_114 (by decide) rfl ?_
        refine zq_perm [2, 3, 4, 5, 1, 0] (L' := [(0, .ref sb), (1, iv 1), (2, .ref (adC b 0 0)), (3, iv P), (4, iv (1 + r28)), (5, iv 0)]) rfl ?_
        refine zq_widen (k := 210 + 0) (n := 1100 + 6 * 0) (by omega) (by omega) ?_
        exact zq_conv (hc116 _ P (1 + r28) 0 C hP ⟨by omega, by omega⟩ (by omega) (by have h9 := hG.up (8 - p9); rw [show p9 + (8 - p9) = 8 by omega] at h9; exact h9) (by omega) h5 h6 (fun j hj => hh j (by omega)) rfl) (by rfl) (by rfl) (by rfl) rfl
      · skip
        refine zq_aload_n hC 2 rfl dL_canopy_30 rfl ?_
        refine zq_iconst hC dL_canopy_31 ?_
        refine zq_iload hC 4 rfl dL_canopy_32 ?_
        refine zq_imul hC dL_canopy_34 ?_
        refine zq_aload_n hC 0 rfl dL_canopy_35 rfl ?_
        refine zq_iconst hC dL_canopy_36 ?_
        refine zq_cell hK 1 (by omega) (by omega) (Nat.le_of_ble_eq_true rfl) ⟨by decide, by decide⟩ ⟨by show _ ≤ 300; omega, by show _ ≤ 1500; omega⟩ dL_canopy_37 (fun z29 => ?_)
        refine zq_iconst hC dL_canopy_40 ?_
        refine zq_iload hC 4 rfl dL_canopy_41 ?_
        refine zq_imul hC dL_canopy_43 ?_
        refine zq_ishr_any hC dL_canopy_44 (fun z30 => ?_)
        refine zq_iconst hC dL_canopy_45 ?_
        refine zq_below hK (n := 5) ⟨by omega, by omega⟩ (Nat.le_of_ble_eq_true rfl) ⟨by decide, by decide⟩ ⟨by show _ ≤ 300; omega, by show _ ≤ 1500; omega⟩ dL_canopy_46 (fun r31 hr31 gr31 => ?_)
        refine zq_iadd hC dL_canopy_49 ?_
        refine zq_aload_n hC 0 rfl dL_canopy_50 rfl ?_
        refine zq_iconst hC dL_canopy_51 ?_
        refine zq_cell hK 2 (by omega) (by omega) (Nat.le_of_ble_eq_true rfl) ⟨by decide, by decide⟩ ⟨by show _ ≤ 300; omega, by show _ ≤ 1500; omega⟩ dL_canopy_52 (fun z32 => ?_)
        refine zq_iconst hC dL_canopy_55 ?_
        refine zq_iload hC 4 rfl dL_canopy_56 ?_
        refine zq_imul hC dL_canopy_58 ?_
        refine zq_ishr_any hC dL_canopy_59 (fun z33 => ?_)
        refine zq_bipush hC dL_canopy_60 (by decide) ?_
        refine zq_below hK (n := 41) ⟨by omega, by omega⟩ (Nat.le_of_ble_eq_true rfl) ⟨by decide, by decide⟩ ⟨by show _ ≤ 300; omega, by show _ ≤ 1500; omega⟩ dL_canopy_62 (fun r34 hr34 gr34 => ?_)
        refine zq_bipush hC dL_canopy_65 (by decide) ?_
        refine zq_bipush hC dL_canopy_67 (by decide) ?_
        refine zq_iload hC 4 rfl dL_canopy_69 ?_
        refine zq_imul hC dL_canopy_71 ?_
        refine zq_isub hC dL_canopy_72 ?_
        refine zq_aload_n hC 0 rfl dL_canopy_73 rfl ?_
        refine zq_iconst hC dL_canopy_74 ?_
        refine zq_cell hK 3 (by omega) (by omega) (Nat.le_of_ble_eq_true rfl) ⟨by decide, by decide⟩ ⟨by show _ ≤ 300; omega, by show _ ≤ 1500; omega⟩ dL_canopy_75 (fun z35 => ?_)
        refine zq_iconst hC dL_canopy_78 ?_
        refine zq_iload hC 4 rfl dL_canopy_79 ?_
        refine zq_imul hC dL_canopy_81 ?_
        refine zq_ishr_any hC dL_canopy_82 (fun z36 => ?_)
        refine zq_bipush hC dL_canopy_83 (by decide) ?_
        refine zq_below hK (n := 6) ⟨by omega, by omega⟩ (Nat.le_of_ble_eq_true rfl) ⟨by decide, by decide⟩ ⟨by show _ ≤ 300; omega, by show _ ≤ 1500; omega⟩ dL_canopy_85 (fun r37 hr37 gr37 => ?_)
        refine zq_isub hC dL_canopy_88 ?_
        obtain ⟨hk, hG2⟩ := gs_build (x := (5 * ((p9 : Nat) : Int)) + r31) (y := r34) (q := (60 - (7 * ((p9 : Nat) : Int))) - r37) hG (by omega) ⟨by omega, by omega⟩ ⟨by omega, by omega⟩ ⟨by omega, by omega⟩ (fun j hj => by have h9 := hx j (by omega); omega) (by omega)
        refine zq_call hC hX zlL_22 rfl (k_X8_build l hlt D tc (adC b) (zI_adC b) C ((5 * ((p9 : Nat) : Int)) + r31) r34 ((60 - (7 * ((p9 : Nat) : Int))) - r37) (hG.wt (by omega)) ⟨by omega, by omega⟩ ⟨by omega, by omega⟩ ⟨by omega, by omega⟩) (hk) (r2 := (C 1 0 4)) (by rfl) rfl rfl (Nat.le_of_ble_eq_true rfl) ⟨by decide, by decide⟩ ⟨by show _ ≤ 300; omega, by show _ ≤ 1500; omega⟩ dL_canopy_89 ?_
        refine zq_pop hC dL_canopy_92 rfl ?_
        refine zq_iinc hC 4 (L' := [(4, iv (((p9 : Nat) : Int) + 1)), (0, .ref sb), (1, iv 1), (2, .ref (adC b 0 0)), (3, iv P)]) dL_canopy_93 rfl (by decide) rfl ?_
        refine zq_goto hC 24 dL_canopy_96 (by decide) ?_
        refine zq_perm [1, 2, 3, 4, 0] (L' := [(0, .ref sb), (1, iv 1), (2, .ref (adC b 0 0)), (3, iv P), (4, iv (((p9 : Nat) : Int) + 1))]) rfl ?_
        obtain ⟨ap4, ap5, ap6⟩ := ap_1 C ((5 * ((p9 : Nat) : Int)) + r31) r34 ((60 - (7 * ((p9 : Nat) : Int))) - r37)
        have hx2 : ∀ j : Nat, j < p9 + 1 → 5 * (j : Int) ≤ addPlatformC C ((5 * ((p9 : Nat) : Int)) + r31) r34 ((60 - (7 * ((p9 : Nat) : Int))) - r37) 6 j 0 ∧ addPlatformC C ((5 * ((p9 : Nat) : Int)) + r31) r34 ((60 - (7 * ((p9 : Nat) : Int))) - r37) 6 j 0 ≤ 5 * (j : Int) + 4 := by
          intro j hj
          rw [(ap_6 C ((5 * ((p9 : Nat) : Int)) + r31) r34 ((60 - (7 * ((p9 : Nat) : Int))) - r37) j).1]
          by_cases e9 : j = (C 1 0 4).toNat
          · rw [if_pos e9]; omega
          · rw [if_neg e9]; exact hx j (by omega)
        have hh2 : ∀ j : Nat, j < p9 + 1 → 55 - 7 * (j : Int) ≤ addPlatformC C ((5 * ((p9 : Nat) : Int)) + r31) r34 ((60 - (7 * ((p9 : Nat) : Int))) - r37) 6 j 2 ∧ addPlatformC C ((5 * ((p9 : Nat) : Int)) + r31) r34 ((60 - (7 * ((p9 : Nat) : Int))) - r37) 6 j 2 ≤ 60 - 7 * (j : Int) := by
          intro j hj
          rw [(ap_6 C ((5 * ((p9 : Nat) : Int)) + r31) r34 ((60 - (7 * ((p9 : Nat) : Int))) - r37) j).2]
          by_cases e9 : j = (C 1 0 4).toNat
          · rw [if_pos e9]; omega
          · rw [if_neg e9]; exact hh j (by omega)
        refine zq_widen (k := 200 + (p9 + 1)) (n := 1000 + 6 * (p9 + 1)) (by omega) (by omega) ?_
        exact zq_conv (ih24 _ (by omega) P (p9 + 1) (addPlatformC C ((5 * ((p9 : Nat) : Int)) + r31) r34 ((60 - (7 * ((p9 : Nat) : Int))) - r37)) hP (by omega) hG2 (by omega) (by omega) (by omega) hx2 hh2 rfl) (by rfl) (by rfl) (by rfl) rfl
  refine zq_iconst hC dL_canopy_8 ?_
  refine zq_aload_n hC 1 rfl dL_canopy_9 rfl ?_
  refine zq_iconst hC dL_canopy_10 ?_
  refine zq_cell hK 0 (by omega) (by omega) (Nat.le_of_ble_eq_true rfl) ⟨by decide, by decide⟩ ⟨by show _ ≤ 300; omega, by show _ ≤ 1500; omega⟩ dL_canopy_11 (fun z1 => ?_)
  refine zq_bipush hC dL_canopy_14 (by decide) ?_
  refine zq_below hK (n := 7) ⟨by omega, by omega⟩ (Nat.le_of_ble_eq_true rfl) ⟨by decide, by decide⟩ ⟨by show _ ≤ 300; omega, by show _ ≤ 1500; omega⟩ dL_canopy_16 (fun r2 hr2 gr2 => ?_)
  refine zq_iadd hC dL_canopy_19 ?_
  refine zq_istore_n hC (L' := [(3, iv (2 + r2)), (2, .ref (adC b 0 0)), (0, .ref sb), (1, iv 1)]) dL_canopy_20 rfl (by decide) rfl ?_
  refine zq_iconst hC dL_canopy_21 ?_
  refine zq_istore hC (L' := [(4, iv 0), (3, iv (2 + r2)), (2, .ref (adC b 0 0)), (0, .ref sb), (1, iv 1)]) dL_canopy_22 (by decide) rfl ?_
  refine zq_perm [3, 4, 2, 1, 0] (L' := [(0, .ref sb), (1, iv 1), (2, .ref (adC b 0 0)), (3, iv (2 + r2)), (4, iv 0)]) rfl ?_
  refine zq_widen (k := 200 + 0) (n := 1000 + 6 * 0) (by omega) (by omega) ?_
  exact zq_conv (hc24 _ (2 + r2) 0 M0C ⟨by omega, by omega⟩ (by omega) gs_0 (m0c (by decide)) (m0c (by decide)) (m0c (by decide)) (fun j hj => absurd hj (Nat.not_lt_zero j)) (fun j hj => absurd hj (Nat.not_lt_zero j)) rfl) (by rfl) (by rfl) (by rfl) rfl
/-- what canopy answers -/
abbrev zQcan (D : va_G) (tc : Nat → ClassId) (b : Nat) : Array Value → State → Outcome → State → Prop := va_Qr (fun (_ : Unit) => True) (fun _ a t => a = adC b 0 0 ∧ ∃ C, GS 40 C ∧ 2 ≤ C 1 0 4 ∧ 1 ≤ C 1 0 5 ∧ zH D (adC b) okC (tmC (adC b) tc) C t.heap) (fun q => b ≤ q)
abbrev zPreK (D : va_G) (tc : Nat → ClassId) (b sb Ls : Nat) (xs : Nat → Int32) : Array Value → State → Prop := va_Pc [.ref sb, iv 1] (fun U => U.heap.size = b ∧ va_K D vwCl (tysC tc) U ∧ (∀ w ∈ znl, va_Nw w U) ∧ zXf (fun q => b ≤ q) U U.heap ∧ zAO U ∧ va_X sb Ls xs U U.heap ∧ sb < b)
theorem zPreK_blind {D : va_G} {tc : Nat → ClassId} {b sb Ls : Nat} {xs : Nat → Int32} : FrameBlind (zPreK D tc b sb Ls xs) := fun a U g mk q => by
  obtain ⟨q0, q1, qK, qN, qX, qA, qS, q2⟩ := q
  exact ⟨q0, q1, va_K.moved (u := U) (U := U.calling g mk a) (Vm.Alike.refl U.vm) qK, znl_same (u := U) (U := U.calling g mk a) rfl qN, zXf.same (u := U) (U := U.calling g mk a) rfl qX, zAO.moved (u := U) (U := U.calling g mk a) (Vm.Alike.refl U.vm) qA, va_X.moved (u := U) (U := U.calling g mk a) (Vm.Alike.refl U.vm) qS, q2⟩
set_option maxHeartbeats 4000000 in
set_option maxRecDepth 100000 in
theorem k_L_canopy (l : Launch) (hlt : l.stackTraces = false) (D : va_G) (tc : Nat → ClassId) (b sb Ls : Nat) (xs : Nat → Int32) (hLs : Ls ≤ 260) : Met l yL_canopy (zws yL_canopy cL_canopy 8 (some (.object "ZipCanopy"))) (zrm 7 300 1500) (zPreK D tc b sb Ls xs) (zQcan D tc b) 300 1500 (fun q => b ≤ q) := by
  refine z_ofW (cc := cL_canopy) (maxL := 8) (ret := some (.object "ZipCanopy")) (plainFor_of_name (by decide)) rfl ?_
  intro p e s m args below meth c s₁ B hml hv
  obtain ⟨rfl, hsz, hKn, hN, hX, hAO, hXs, hbl⟩ := hv
  have hts := atoms_spec (ws := zws yL_canopy cL_canopy 8 (some (.object "ZipCanopy"))) B.pre
  have hown : s.vm.findClass RL = some m.cls := findClass_of_methodNamed B.named
  have hret := B.returns
  have hlk := B.notSynchronized
  rw [lg_entry_eq]
  have hC : zC p s m [Value.ref sb, iv 1].toArray c D (tysC tc) (adC b) okC (fun q => b ≤ q) s.heap cL_canopy 8 RL := ⟨⟨B.exec, B.bytes, hml, hown, fun x h => hts x (List.mem_cons_of_mem _ h)⟩, hKn, zI_adC b, fun f i _ => adC_ge b f i, fun q h => by show b ≤ q; omega, hN⟩
  have hK : zLK p s m [Value.ref sb, iv 1].toArray c D tc b (fun q => b ≤ q) s.heap cL_canopy 8 sb Ls xs := ⟨hC, hX, hXs, by omega, fun z => by have z9 : b ≤ sb := z; omega, hbl, hLs⟩
  have P1 : zB p l e (zrm 7 300 1500) s m [Value.ref sb, iv 1].toArray below meth c (MQ below (zQcan D tc b) [Value.ref sb, iv 1].toArray s 300 1500 (fun q => b ≤ q)) D (adC b) okC (fun q => b ≤ q) s.heap 8 0 0 b (SFC tc b) [(0, .ref sb), (1, iv 1)] 0 [] := by
    refine zb_new hC (ci := 8) rfl zwX8 tyX8 tyX8_ok (zin 447 (by decide +kernel) rfl) (zin 40 (by decide +kernel) rfl) (zin 17 (by decide +kernel) rfl) 0 0 (okC_0 (by omega)) rfl (fs := [.null, .null, .null, .null]) (fun j hj => by rcases (show j = 0 ∨ j = 1 ∨ j = 2 ∨ j = 3 by omega) with rfl | rfl | rfl | rfl <;> rfl) ⟨by decide, by decide⟩ dL_canopy_0 ?_
    refine zb_dup hC dL_canopy_3 rfl ?_
    refine zb_call hC hAO zlL_11 (k_X8_init l D tc b) rfl rfl (Nat.le_of_ble_eq_true rfl) ⟨by decide, by decide⟩ ⟨by decide, by decide⟩ (by omega) dL_canopy_4 ?_
    intro H locs ls hw hS hl
    have hwC : zH D (adC b) okC (tmC (adC b) tc) M0C H := fun f i ho => hw.2 f i ho (adC_lt ho)
    refine lv_astore_n B.exec B.bytes dL_canopy_7 rfl hl (by decide) rfl (fun ls hl => ?_)
    have hgo := can_body (e := e) (below := below) (meth := meth) (Q := MQ below (zQcan D tc b) [Value.ref sb, iv 1].toArray s 300 1500 (fun q => b ≤ q)) hlt hK (fun C hG h4 h5 => by
      intro H locs ls hw hS hl
      refine lv_aload_n B.exec B.bytes dL_canopy_362 rfl (lv_at hl 0 rfl) ?_
      exact W.aret B.exec B.bytes hret (Or.inl ⟨_, rfl⟩) (Or.inr ⟨_, rfl⟩) (fun t ht hW => ⟨⟨(), adC b 0 0, rfl, trivial, rfl, C, hG, h4, h5, by rw [ht]; exact hw.1⟩, hS.F ht⟩) hS.2.2 dL_canopy_363 hlk)
    refine W.widen (k := 181) (n := 937) (by decide) (by decide) ?_
    exact hgo H locs ls ⟨hwC, fun x hx => absurd hx List.not_mem_nil⟩ hS hl
  exact P1 s.heap [] _ ⟨hsz, fun f i ho hl9 => by have := adC_ge b f i; omega⟩ va_S.rf (lv_entry _ (Nat.le_of_ble_eq_true rfl))
