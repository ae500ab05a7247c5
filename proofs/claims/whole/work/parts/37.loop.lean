set_option maxHeartbeats 4000000 in
set_option maxRecDepth 100000 in
theorem law_loop {p : Program} {l : Launch} {e : Env} {s : State} {m : MethodId} {args : Array Value} {below : List Frame} {meth : Method} {c : Code} {Q : State → Prop} {D : va_G} {tc : Nat → ClassId} {tL : ClassId} {b : Nat} {A : Nat → Prop} {sb Ls : Nat} {xs : Nat → Int32} (hctx : zLC p l s m args c D tc tL b A sb Ls xs) (Rel : Nat → zM → zM → Prop) (hst : zSteps Rel) (hF : zNoNaN) (hend : ∀ (C9 M9 : zM) (v9 : Int64) (L9 : List (Nat × Value)), zL p l e room_1 s m args below meth c Q D tc tL b A s.heap 9 601024 7293034 C9 M9 v9 L9 1213 []) : ∀ (d n : Nat) (C M : zM) (v : Int64), Rel n C M → Ls + 5 - 5 * n = d → 5 * n ≤ Ls → zL p l e room_1 s m args below meth c Q D tc tL b A s.heap 9 (300 + 300 * n) (3000 + 3000 * n) (C) (M) v [(0, .ref sb), (1, .ref (adC b 0 0)), (2, .ref (adM (b + 181) 0 0)), (3, .ref (b + 220)), (4, iv ((5 * n : Nat) : Int))] 23 [] := by
  have hctx9 := hctx
  obtain ⟨hC, hCM, hCC, hX, hNc, hAb, hH0, hXs, hbl, hbA, hLs, hlt⟩ := hctx9
  obtain ⟨hwt, hskip, hmean, hdig, h_build, h_span, h_add, h_setWind, h_platform, h_line, h_ride, h_come, h_rider, h_queue, h_pass, h_count, h_way, h_arrives, h_advise⟩ := hst
  intro d
  induction d using Nat.strongRecOn with
  | _ d ih =>
    intro n C M v hRel hd hnL
    have hgo : 5 * n + 5 ≤ Ls → ∀ (C9 M9 : zM) (v9 : Int64), Rel (n + 1) C9 M9 → zL p l e room_1 s m args below meth c Q D tc tL b A s.heap 9 (300 + 300 * (n + 1)) (3000 + 3000 * (n + 1)) (C9) (M9) v9 [(0, .ref sb), (1, .ref (adC b 0 0)), (2, .ref (adM (b + 181) 0 0)), (3, .ref (b + 220)), (4, iv ((5 * n : Nat) : Int))] 1207 [] := by
      intro h5 C9 M9 v9 h9
      refine zl_iinc hC 4 (L' := [(4, iv (((5 * n : Nat) : Int) + 5)), (0, .ref sb), (1, .ref (adC b 0 0)), (2, .ref (adM (b + 181) 0 0)), (3, .ref (b + 220))]) dL_law_1207 rfl (by decide) rfl ?_
      refine zl_goto hC 23 dL_law_1210 (by decide) ?_
      refine zl_perm [1, 2, 3, 4, 0] (L' := [(0, .ref sb), (1, .ref (adC b 0 0)), (2, .ref (adM (b + 181) 0 0)), (3, .ref (b + 220)), (4, iv (((5 * n : Nat) : Int) + 5))]) rfl ?_
      exact zl_conv (ih _ (by omega) (n + 1) C9 M9 v9 h9 rfl (by omega)) rfl rfl rfl (by rw [show ((5 * n : Nat) : Int) + 5 = ((5 * (n + 1) : Nat) : Int) by omega]) rfl
    refine zl_iload hC 4 rfl dL_law_23 ?_
    refine zl_aload_n hC 0 rfl dL_law_25 rfl ?_
    refine zl_slen hC hXs hbl hbA dL_law_26 ?_
    refine zl_iconst hC dL_law_27 ?_
    refine zl_isub hC dL_law_28 ?_
    refine zl_icmp_gt hC 1213 dL_law_29 (by decide) (by omega) (by omega) (fun c9 => ?_) (fun c9 => ?_)
    · exact zl_widen (k := 601024) (n := 7293034) (by omega) (by omega) (hend C M v _)
    · have h5 : 5 * n + 5 ≤ Ls := by omega
      have hn : n < 512 := by omega
      have hgo := hgo h5
      refine zl_aload_n hC 0 rfl dL_law_32 rfl ?_
      refine zl_iload hC 4 rfl dL_law_33 ?_
      refine zl_sld hC hXs hbl hbA (5 * n) (by omega) (by omega) (by omega) dL_law_35 ?_
      refine zl_bipush hC dL_law_36 (by decide) ?_
      refine zl_iand hC dL_law_38 ?_
      obtain ⟨w, hw0, hw1, hw2⟩ := zi_and31 (Int32.ofInt (xs (5 * n)).toInt)
      rw [hw2]
      by_cases h16 : w ≤ 16
      · rcases (show w = 0 ∨ w = 1 ∨ w = 2 ∨ w = 3 ∨ w = 4 ∨ w = 5 ∨ w = 6 ∨ w = 7 ∨ w = 8 ∨ w = 9 ∨ w = 10 ∨ w = 11 ∨ w = 12 ∨ w = 13 ∨ w = 14 ∨ w = 15 ∨ w = 16 by omega) with rfl | rfl | rfl | rfl | rfl | rfl | rfl | rfl | rfl | rfl | rfl | rfl | rfl | rfl | rfl | rfl | rfl
        · refine zl_tableIn hC 120 dL_law_39 (by decide) (by decide) (by decide) rfl (by decide) ?_
          exact law_build hctx Rel hwt h_build hRel hn h5 hgo
        · refine zl_tableIn hC 200 dL_law_39 (by decide) (by decide) (by decide) rfl (by decide) ?_
          exact law_span hctx Rel hwt h_span hRel hn h5 hgo
        · refine zl_tableIn hC 292 dL_law_39 (by decide) (by decide) (by decide) rfl (by decide) ?_
          exact law_add hctx Rel hwt h_add hRel hn h5 hgo
        · refine zl_tableIn hC 348 dL_law_39 (by decide) (by decide) (by decide) rfl (by decide) ?_
          exact law_setWind hctx Rel hwt h_setWind hRel hn h5 hgo
        · refine zl_tableIn hC 416 dL_law_39 (by decide) (by decide) (by decide) rfl (by decide) ?_
          exact law_platform hctx Rel hwt h_platform hRel hn h5 hgo
        · refine zl_tableIn hC 484 dL_law_39 (by decide) (by decide) (by decide) rfl (by decide) ?_
          exact law_line hctx Rel hwt h_line hRel hn h5 hgo
        · refine zl_tableIn hC 552 dL_law_39 (by decide) (by decide) (by decide) rfl (by decide) ?_
          exact law_ride hctx Rel hwt h_ride hRel hn h5 hgo
        · refine zl_tableIn hC 620 dL_law_39 (by decide) (by decide) (by decide) rfl (by decide) ?_
          exact law_come hctx Rel hwt h_come hRel hn h5 hgo
        · refine zl_tableIn hC 712 dL_law_39 (by decide) (by decide) (by decide) rfl (by decide) ?_
          exact law_rider hctx Rel hwt h_rider hRel hn h5 hgo
        · refine zl_tableIn hC 780 dL_law_39 (by decide) (by decide) (by decide) rfl (by decide) ?_
          exact law_queue hctx Rel hwt h_queue hRel hn h5 hgo
        · refine zl_tableIn hC 848 dL_law_39 (by decide) (by decide) (by decide) rfl (by decide) ?_
          exact law_pass hctx Rel hwt h_pass hRel hn h5 hgo
        · refine zl_tableIn hC 904 dL_law_39 (by decide) (by decide) (by decide) rfl (by decide) ?_
          exact law_count hctx Rel hwt h_count hRel hn h5 hgo
        · refine zl_tableIn hC 960 dL_law_39 (by decide) (by decide) (by decide) rfl (by decide) ?_
          exact law_way hctx Rel hwt h_way hRel hn h5 hgo
        · refine zl_tableIn hC 1040 dL_law_39 (by decide) (by decide) (by decide) rfl (by decide) ?_
          exact law_arrives hctx Rel hwt h_arrives hRel hn h5 hgo
        · refine zl_tableIn hC 1096 dL_law_39 (by decide) (by decide) (by decide) rfl (by decide) ?_
          exact law_advise hctx Rel hwt h_advise hRel hn h5 hgo
        · refine zl_tableIn hC 1152 dL_law_39 (by decide) (by decide) (by decide) rfl (by decide) ?_
          exact law_mean hctx Rel hwt hmean hF hRel hn h5 hgo
        · refine zl_tableIn hC 1193 dL_law_39 (by decide) (by decide) (by decide) rfl (by decide) ?_
          exact law_digest hctx Rel hwt hdig hRel hn h5 hgo
      · refine zl_tableOut hC 1207 dL_law_39 (by omega) (by omega) (by decide) ?_
        exact zl_widen (k := 300 + 300 * (n + 1)) (n := 3000 + 3000 * (n + 1)) (by omega) (by omega) (hgo C M v (hskip n C M hRel))
