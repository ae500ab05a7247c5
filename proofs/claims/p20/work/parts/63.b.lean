/-! the law, piece by piece: what was, minutes -/
set_option maxHeartbeats 4000000 in
set_option maxRecDepth 100000 in
theorem law_D {p : Program} {l : Launch} {e : Env} {s : State} {m : MethodId} {args : Array Value} {below : List Frame} {meth : Method} {c : Code} {Q : State → Prop} {D : va_G} {tc : Nat → ClassId} {b : Nat} {A : Nat → Prop} {H0 : Heap} {sb Ls : Nat} {xs : Nat → Int32} (hlt : l.stackTraces = false) (hK : zLK p s m args c D tc b A H0 cL_law 23 sb Ls xs) (hA : ∀ q, b ≤ q → A q) {cs ss : Nat} (hcs : cs ≤ 500000) (hss : ss ≤ 7000000) {P : Int} {t n : Nat} {C : zM} {x : Int32} {RC : Int} (hP : 2 ≤ P ∧ P ≤ 8) (hG : GS n C) (hn : n < 400) (h4 : C 1 0 4 = P) (h5 : 1 ≤ C 1 0 5) (h6 : C 1 0 6 = RC) (hgo : ∀ (w1 w2 : Nat) (f1 f2 : Nat → Int), w2 ≠ w1 → (∀ k : Nat, (k : Int) < RC → f1 k = C 16 (12 * 0 + k) 0) → (∀ k : Nat, (k : Int) < RC → f2 k = C 16 (12 * 0 + k) 4) → zQ p l e room_1 s m args below meth c Q D tc b A H0 23 (cs + 60) (ss + 600) C [(w2, f2), (w1, f1)] [(0, .ref sb), (1, .ref (adC b 0 0)), (2, iv P), (3, iv ((t : Nat) : Int)), (4, .int x), (5, iv RC), (8, .ref w1), (9, .ref w2)] 336 []) : zQ p l e room_1 s m args below meth c Q D tc b A H0 23 (cs) (ss) C [] [(0, .ref sb), (1, .ref (adC b 0 0)), (2, iv P), (3, iv ((t : Nat) : Int)), (4, .int x), (5, iv RC)] 283 [] := by
  have hC := hK.1
  have hX := hK.2.1
  have hW := hG.wt (show n ≤ 512 by omega)
  have hb5 : 0 ≤ C 1 0 5 ∧ C 1 0 5 ≤ 12 := hW.1 1 0 5
  have hb6 : 0 ≤ C 1 0 6 ∧ C 1 0 6 ≤ 12 := hW.1 1 0 6
  have hc298 : ∀ (d298 : Nat) (w1 w2 : Nat) (j : Nat) (f1 f2 : Nat → Int) (hne : w2 ≠ w1) (hj : (j : Int) ≤ RC) (hf1 : ∀ k, k < j → f1 k = C 16 (12 * 0 + k) 0) (hf2 : ∀ k, k < j → f2 k = C 16 (12 * 0 + k) 4), (RC - (j : Int)).toNat = d298 → zQ p l e room_1 s m args below meth c Q D tc b A H0 23 (cs + 5 + 2 * j) (ss + 50 + 12 * j) C [(w2, f2), (w1, f1)] [(0, .ref sb), (1, .ref (adC b 0 0)), (2, iv P), (3, iv ((t : Nat) : Int)), (4, .int x), (5, iv RC), (8, .ref w1), (9, .ref w2), (10, iv ((j : Nat) : Int))] 298 [] := by
    intro d298
    induction d298 using Nat.strongRecOn with
    | _ d298 ih298 =>
      intro w1 w2 j f1 f2 hne hj hf1 hf2 hd298
      refine zq_iload hC 8 rfl dL_law_298 ?_
      refine zq_iload hC 5 rfl dL_law_300 ?_
      refine zq_icmp_ge hC 336 dL_law_302 (by decide) (by omega) (by omega) (fun c302 => ?_) (fun c302 => ?_)
      · skip
        refine zq_perm [0, 1, 2, 3, 4, 5, 6, 7] (L' := [(0, .ref sb), (1, .ref (adC b 0 0)), (2, iv P), (3, iv ((t : Nat) : Int)), (4, .int x), (5, iv RC), (8, .ref w1), (9, .ref w2)]) rfl ?_
        refine zq_widen (k := cs + 60) (n := ss + 600) (by omega) (by omega) ?_
        exact hgo w1 w2 f1 f2 hne (fun k hk => hf1 k (by omega)) (fun k hk => hf2 k (by omega))
      · skip
        refine zq_aload hC 6 rfl dL_law_305 ?_
        refine zq_iload hC 8 rfl dL_law_307 ?_
        refine zq_aload_n hC 1 rfl dL_law_309 rfl ?_
        refine zq_iload hC 8 rfl dL_law_310 ?_
        refine zq_iconst hC dL_law_312 ?_
        refine zq_call hC hX zlL_63 rfl (k_X8_rider l hlt D tc (adC b) (zI_adC b) C ((j : Nat) : Int) 3 hW ⟨by omega, by omega⟩ ⟨by decide, by decide⟩) (by unfold kRider; rw [if_pos ⟨by omega, by omega⟩, if_pos ⟨by decide, by decide⟩]) (r2 := (C 16 (12 * 0 + j) 0)) (by rfl) rfl rfl (Nat.le_of_ble_eq_true rfl) ⟨by decide, by decide⟩ ⟨by show _ ≤ 602799; omega, by show _ ≤ 7293227; omega⟩ dL_law_313 ?_
        refine zq_xstore hC hA (w := w1) (f := f1) (f' := fun k9 => if k9 = j then C 16 (12 * 0 + j) 0 else f1 k9) (Xs' := [(w2, f2), (w1, fun k9 => if k9 = j then C 16 (12 * 0 + j) 0 else f1 k9)]) (by simp) j rfl (by omega) (fun _ => rfl) ?_ dL_law_316 ?_
        · intro y hy
          rcases List.mem_cons.mp hy with rfl | hy
          · exact Or.inr ⟨by simp, hne⟩
          · rcases List.mem_cons.mp hy with rfl | hy
            · exact Or.inl rfl
            · cases hy
        refine zq_aload hC 7 rfl dL_law_317 ?_
        refine zq_iload hC 8 rfl dL_law_319 ?_
        refine zq_aload_n hC 1 rfl dL_law_321 rfl ?_
        refine zq_iload hC 8 rfl dL_law_322 ?_
        refine zq_bipush hC dL_law_324 (by decide) ?_
        refine zq_call hC hX zlL_63 rfl (k_X8_rider l hlt D tc (adC b) (zI_adC b) C ((j : Nat) : Int) 9 hW ⟨by omega, by omega⟩ ⟨by decide, by decide⟩) (by unfold kRider; rw [if_pos ⟨by omega, by omega⟩, if_pos ⟨by decide, by decide⟩]) (r2 := (C 16 (12 * 0 + j) 4)) (by rfl) rfl rfl (Nat.le_of_ble_eq_true rfl) ⟨by decide, by decide⟩ ⟨by show _ ≤ 602799; omega, by show _ ≤ 7293227; omega⟩ dL_law_326 ?_
        refine zq_xstore hC hA (w := w2) (f := f2) (f' := fun k9 => if k9 = j then C 16 (12 * 0 + j) 4 else f2 k9) (Xs' := [(w2, fun k9 => if k9 = j then C 16 (12 * 0 + j) 4 else f2 k9), (w1, (fun k9 => if k9 = j then C 16 (12 * 0 + j) 0 else f1 k9))]) (by simp) j rfl (by omega) (fun _ => rfl) ?_ dL_law_329 ?_
        · intro y hy
          rcases List.mem_cons.mp hy with rfl | hy
          · exact Or.inl rfl
          · rcases List.mem_cons.mp hy with rfl | hy
            · exact Or.inr ⟨by simp, hne.symm⟩
            · cases hy
        refine zq_iinc hC 8 (L' := [(10, iv (((j : Nat) : Int) + 1)), (0, .ref sb), (1, .ref (adC b 0 0)), (2, iv P), (3, iv ((t : Nat) : Int)), (4, .int x), (5, iv RC), (8, .ref w1), (9, .ref w2)]) dL_law_330 rfl (by decide) rfl ?_
        refine zq_goto hC 298 dL_law_333 (by decide) ?_
        refine zq_perm [1, 2, 3, 4, 5, 6, 7, 8, 0] (L' := [(0, .ref sb), (1, .ref (adC b 0 0)), (2, iv P), (3, iv ((t : Nat) : Int)), (4, .int x), (5, iv RC), (8, .ref w1), (9, .ref w2), (10, iv (((j : Nat) : Int) + 1))]) rfl ?_
        have hg1 : ∀ k9, k9 < j + 1 → (fun k9 => if k9 = j then C 16 (12 * 0 + j) 0 else f1 k9) k9 = C 16 (12 * 0 + k9) 0 := by
          intro k9 hk9
          show (if k9 = j then C 16 (12 * 0 + j) 0 else f1 k9) = _
          by_cases e9 : k9 = j
          · rw [if_pos e9, e9]
          · rw [if_neg e9]; exact hf1 k9 (by omega)
        have hg2 : ∀ k9, k9 < j + 1 → (fun k9 => if k9 = j then C 16 (12 * 0 + j) 4 else f2 k9) k9 = C 16 (12 * 0 + k9) 4 := by
          intro k9 hk9
          show (if k9 = j then C 16 (12 * 0 + j) 4 else f2 k9) = _
          by_cases e9 : k9 = j
          · rw [if_pos e9, e9]
          · rw [if_neg e9]; exact hf2 k9 (by omega)
        refine zq_widen (k := cs + 5 + 2 * (j + 1)) (n := ss + 50 + 12 * (j + 1)) (by omega) (by omega) ?_
        exact zq_conv (ih298 _ (by omega) w1 w2 (j + 1) (fun k9 => if k9 = j then C 16 (12 * 0 + j) 0 else f1 k9) (fun k9 => if k9 = j then C 16 (12 * 0 + j) 4 else f2 k9) hne (by omega) hg1 hg2 rfl) (by rfl) (by rfl) (by rfl) rfl
  refine zq_bipush hC dL_law_283 (by decide) ?_
  refine zq_newarr hC ⟨by show _ ≤ 602799; omega, by show _ ≤ 7293227; omega⟩ dL_law_285 (fun v1 v1n => ?_)
  refine zq_conv (Xs2 := [(v1, fun _ => 0)]) ?_ rfl rfl rfl rfl
  refine zq_astore hC (L' := [(8, .ref v1), (0, .ref sb), (1, .ref (adC b 0 0)), (2, iv P), (3, iv ((t : Nat) : Int)), (4, .int x), (5, iv RC)]) dL_law_287 (by decide) rfl ?_
  refine zq_bipush hC dL_law_289 (by decide) ?_
  refine zq_newarr hC ⟨by show _ ≤ 602799; omega, by show _ ≤ 7293227; omega⟩ dL_law_291 (fun v2 v2n => ?_)
  refine zq_conv (Xs2 := (v2, fun _ => 0) :: ([(v1, fun _ => 0)])) ?_ rfl rfl rfl rfl
  refine zq_astore hC (L' := [(9, .ref v2), (8, .ref v1), (0, .ref sb), (1, .ref (adC b 0 0)), (2, iv P), (3, iv ((t : Nat) : Int)), (4, .int x), (5, iv RC)]) dL_law_293 (by decide) rfl ?_
  refine zq_iconst hC dL_law_295 ?_
  refine zq_istore hC (L' := [(10, iv 0), (9, .ref v2), (8, .ref v1), (0, .ref sb), (1, .ref (adC b 0 0)), (2, iv P), (3, iv ((t : Nat) : Int)), (4, .int x), (5, iv RC)]) dL_law_296 (by decide) rfl ?_
  refine zq_perm [3, 4, 5, 6, 7, 8, 2, 1, 0] (L' := [(0, .ref sb), (1, .ref (adC b 0 0)), (2, iv P), (3, iv ((t : Nat) : Int)), (4, .int x), (5, iv RC), (8, .ref v1), (9, .ref v2), (10, iv 0)]) rfl ?_
  refine zq_widen (k := cs + 5 + 2 * 0) (n := ss + 50 + 12 * 0) (by omega) (by omega) ?_
  exact zq_conv (hc298 _ v1 v2 0 (fun _ => 0) (fun _ => 0) (fun e9 => v2n _ List.mem_cons_self e9.symm) (by omega) (fun k hk => absurd hk (Nat.not_lt_zero k)) (fun k hk => absurd hk (Nat.not_lt_zero k)) rfl) (by rfl) (by rfl) (by rfl) rfl
set_option maxHeartbeats 4000000 in
set_option maxRecDepth 100000 in
theorem law_E {p : Program} {l : Launch} {e : Env} {s : State} {m : MethodId} {args : Array Value} {below : List Frame} {meth : Method} {c : Code} {Q : State → Prop} {D : va_G} {tc : Nat → ClassId} {b : Nat} {A : Nat → Prop} {H0 : Heap} {sb Ls : Nat} {xs : Nat → Int32} (hlt : l.stackTraces = false) (hK : zLK p s m args c D tc b A H0 cL_law 23 sb Ls xs) (hA : ∀ q, b ≤ q → A q) {cs ss : Nat} (hcs : cs ≤ 500000) (hss : ss ≤ 7000000) {P : Int} {t n : Nat} {C : zM} {w1 w2 : Nat} {f1 f2 : Nat → Int} {RC : Int} {x : Int32} (hP : 2 ≤ P ∧ P ≤ 8) (hG : GS n C) (hn : n < 400) (h4 : C 1 0 4 = P) (h5 : 1 ≤ C 1 0 5) (hgo : ∀ C9 : zM, GS (n + 1) C9 → MO C C9 → C9 1 = C 1 → zQ p l e room_1 s m args below meth c Q D tc b A H0 23 (cs + 10) (ss + 100) C9 [(w2, f2), (w1, f1)] [(0, .ref sb), (1, .ref (adC b 0 0)), (2, iv P), (3, iv ((t : Nat) : Int)), (5, iv RC), (8, .ref w1), (9, .ref w2)] 380 []) : zQ p l e room_1 s m args below meth c Q D tc b A H0 23 (cs) (ss) C [(w2, f2), (w1, f1)] [(0, .ref sb), (1, .ref (adC b 0 0)), (2, iv P), (3, iv ((t : Nat) : Int)), (4, .int x), (5, iv RC), (8, .ref w1), (9, .ref w2)] 336 [] := by
  have hC := hK.1
  have hX := hK.2.1
  have hW := hG.wt (show n ≤ 512 by omega)
  refine zq_aload_n hC 1 rfl dL_law_336 rfl ?_
  refine zq_bipush hC dL_law_337 (by decide) ?_
  refine zq_call hC hX zlL_40 rfl (k_X8_count l hlt D tc (adC b) (zI_adC b) C 6 hW ⟨by decide, by decide⟩) (by decide) (r2 := (ridersC C 0 2)) (by rfl) rfl rfl (Nat.le_of_ble_eq_true rfl) ⟨by decide, by decide⟩ ⟨by show _ ≤ 602799; omega, by show _ ≤ 7293227; omega⟩ dL_law_339 ?_
  refine zq_istore hC (L' := [(10, iv (ridersC C 0 2)), (0, .ref sb), (1, .ref (adC b 0 0)), (2, iv P), (3, iv ((t : Nat) : Int)), (4, .int x), (5, iv RC), (8, .ref w1), (9, .ref w2)]) dL_law_342 (by decide) rfl ?_
  refine zq_iconst hC dL_law_344 ?_
  refine zq_iload hC 5 rfl dL_law_345 ?_
  refine zq_iconst hC dL_law_347 ?_
  refine zq_ishr_any hC dL_law_348 (fun z1 => ?_)
  refine zq_iconst hC dL_law_349 ?_
  refine zq_below hK (n := 3) ⟨by omega, by omega⟩ (Nat.le_of_ble_eq_true rfl) ⟨by decide, by decide⟩ ⟨by show _ ≤ 602799; omega, by show _ ≤ 7293227; omega⟩ dL_law_350 (fun r2 hr2 gr2 => ?_)
  refine zq_iadd hC dL_law_353 ?_
  refine zq_istore hC (L' := [(11, iv (1 + r2)), (10, iv (ridersC C 0 2)), (0, .ref sb), (1, .ref (adC b 0 0)), (2, iv P), (3, iv ((t : Nat) : Int)), (4, .int x), (5, iv RC), (8, .ref w1), (9, .ref w2)]) dL_law_354 (by decide) rfl ?_
  refine zq_aload_n hC 3 rfl dL_law_356 rfl ?_
  refine zq_iload hC 0 rfl dL_law_357 ?_
  obtain ⟨hk, hG2, hM2, hp2⟩ := gs_pass (a := 1 + r2) hG (by omega) ⟨by omega, by omega⟩
  refine zq_call hC hX zlL_66 rfl (k_X8_pass l hlt D tc (adC b) (zI_adC b) C (1 + r2) hW ⟨by omega, by omega⟩ (by omega) (by omega)) (hk) (r2 := (ridersC (passN C 0 (1 + r2).toNat) 0 2 - ridersC C 0 2)) (by rfl) rfl rfl (Nat.le_of_ble_eq_true rfl) ⟨by decide, by decide⟩ ⟨by show _ ≤ 602799; omega, by show _ ≤ 7293227; omega⟩ dL_law_359 ?_
  have hW2 := hG2.wt (show n + 1 ≤ 512 by omega)
  have hb1 := ridersC_bd hW 0 2
  have hb2 := ridersC_bd hW2 0 2
  refine zq_istore hC (L' := [(12, iv (ridersC (passN C 0 (1 + r2).toNat) 0 2 - ridersC C 0 2)), (11, iv (1 + r2)), (10, iv (ridersC C 0 2)), (0, .ref sb), (1, .ref (adC b 0 0)), (2, iv P), (3, iv ((t : Nat) : Int)), (4, .int x), (5, iv RC), (8, .ref w1), (9, .ref w2)]) dL_law_362 (by decide) rfl ?_
  refine zq_aload_n hC 4 rfl dL_law_364 rfl ?_
  refine zq_bipush hC dL_law_365 (by decide) ?_
  refine zq_call hC hX zlL_40 rfl (k_X8_count l hlt D tc (adC b) (zI_adC b) (passN C 0 (1 + r2).toNat) 6 hW2 ⟨by decide, by decide⟩) (by decide) (r2 := (ridersC (passN C 0 (1 + r2).toNat) 0 2)) (by rfl) rfl rfl (Nat.le_of_ble_eq_true rfl) ⟨by decide, by decide⟩ ⟨by show _ ≤ 602799; omega, by show _ ≤ 7293227; omega⟩ dL_law_367 ?_
  refine zq_iload hC 2 rfl dL_law_370 ?_
  refine zq_iload hC 0 rfl dL_law_372 ?_
  refine zq_iadd hC dL_law_374 ?_
  refine zq_icmp_eq hC 380 dL_law_375 (by decide) (by omega) (by omega) (fun c375 => ?_) (fun c375 => ?_)
  · skip
    refine zq_perm [3, 4, 5, 6, 8, 9, 10] (L' := [(0, .ref sb), (1, .ref (adC b 0 0)), (2, iv P), (3, iv ((t : Nat) : Int)), (5, iv RC), (8, .ref w1), (9, .ref w2)]) rfl ?_
    refine zq_widen (k := cs + 10) (n := ss + 100) (by omega) (by omega) ?_
    exact hgo _ hG2 hM2 hp2
  · skip
    exfalso; omega
