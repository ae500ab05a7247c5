set_option maxHeartbeats 4000000 in
set_option maxRecDepth 100000 in
theorem k_X1_init (l : Launch) (D : va_G) (tc : Nat → ClassId) (b : Nat) (X : Nat → Nat → va_E) (sz a : Nat) (hsz : b ≤ sz) : zMk l yX1_init cX1_init 1 1 D (tysC tc) (adC b) okC b [.ref a] (sz) X (sz) X 0 0 := by
  refine zb_met (zI_adC b) (fun f i _ => adC_ge b f i) (by omega) (plainFor_of_name (by decide)) (Nat.le_of_ble_eq_true rfl) ?_
  intro p e s m args below meth c hC hret hlk hmn hA
  have hmn : meth.name = "<init>" := hmn
  refine zb_conv (L2 := [(0, .ref a)]) ?_ rfl rfl rfl rfl
  refine zb_aload_n hC 0 rfl dX1_init_0 rfl ?_
  refine zb_obj hC (zin 489 (by decide +kernel) rfl) (Nat.le_of_ble_eq_true rfl) ⟨by decide, by decide⟩ dX1_init_1 ?_
  exact zb_ret hC hret hlk ⟨by decide, by decide⟩ (by omega) (fun _ _ _ _ => rfl) dX1_init_4
set_option maxHeartbeats 4000000 in
set_option maxRecDepth 100000 in
theorem k_X2_init (l : Launch) (D : va_G) (tc : Nat → ClassId) (b : Nat) (X : Nat → Nat → va_E) (sz a : Nat) (hsz : b ≤ sz) : zMk l yX2_init cX2_init 1 1 D (tysC tc) (adC b) okC b [.ref a] (sz) X (sz) X 0 0 := by
  refine zb_met (zI_adC b) (fun f i _ => adC_ge b f i) (by omega) (plainFor_of_name (by decide)) (Nat.le_of_ble_eq_true rfl) ?_
  intro p e s m args below meth c hC hret hlk hmn hA
  have hmn : meth.name = "<init>" := hmn
  refine zb_conv (L2 := [(0, .ref a)]) ?_ rfl rfl rfl rfl
  refine zb_aload_n hC 0 rfl dX2_init_0 rfl ?_
  refine zb_obj hC (zin 468 (by decide +kernel) rfl) (Nat.le_of_ble_eq_true rfl) ⟨by decide, by decide⟩ dX2_init_1 ?_
  exact zb_ret hC hret hlk ⟨by decide, by decide⟩ (by omega) (fun _ _ _ _ => rfl) dX2_init_4
set_option maxHeartbeats 4000000 in
set_option maxRecDepth 100000 in
theorem k_X6_init (l : Launch) (D : va_G) (tc : Nat → ClassId) (b : Nat) (X : Nat → Nat → va_E) (i sz : Nat) (hi : i < 24) (hsz : b ≤ sz) (hlt : b + (78 + 52 * (i / 12) + i % 12) < sz) (hX16 : X 16 (i) = (.inr (6, [iv 0, iv 0, iv 0, iv 0, iv 0, iv (-1)]))) : zMk l yX6_init cX6_init 1 1 D (tysC tc) (adC b) okC b [.ref (adC b 16 (i))] (sz) (zse X 16 (i) (.inr (6, [iv 0, iv 0, iv 0, iv 0, iv 0, iv 0]))) (sz) X 0 0 := by
  refine zb_met (zI_adC b) (fun f i _ => adC_ge b f i) (by omega) (plainFor_of_name (by decide)) (Nat.le_of_ble_eq_true rfl) ?_
  intro p e s m args below meth c hC hret hlk hmn hA
  have hmn : meth.name = "<init>" := hmn
  refine zb_conv (L2 := [(0, .ref (adC b 16 (i)))]) ?_ rfl rfl rfl rfl
  refine zb_aload_n hC 0 rfl dX6_init_0 rfl ?_
  refine zb_obj hC (zin 606 (by decide +kernel) rfl) (Nat.le_of_ble_eq_true rfl) ⟨by decide, by decide⟩ dX6_init_1 ?_
  refine zb_aload_n hC 0 rfl dX6_init_4 rfl ?_
  refine zb_iconst hC dX6_init_5 ?_
  refine zb_put hC zgX6_9 (fs := [iv 0, iv 0, iv 0, iv 0, iv 0, iv 0]) (okC_16 (by omega)) (by simp only [adC_16] <;> omega) (zse_at _ _ _ _) (Nat.le_of_ble_eq_true rfl) dX6_init_6 ?_
  refine zb_conv (S2 := (zse X 16 (i) (.inr (6, [iv 0, iv 0, iv 0, iv 0, iv 0, iv (-1)])))) ?_ rfl (zse_twice _ _ _ _ _) rfl rfl
  refine zb_conv (S2 := X) ?_ rfl (zse_self (by exact ((hX16)))) rfl rfl
  exact zb_ret hC hret hlk ⟨by decide, by decide⟩ (by omega) (fun _ _ _ _ => rfl) dX6_init_9
set_option maxHeartbeats 4000000 in
set_option maxRecDepth 100000 in
theorem k_X7_init (l : Launch) (D : va_G) (tc : Nat → ClassId) (b : Nat) (X : Nat → Nat → va_E) (i sz : Nat) (hi : i < 24) (hsz : sz = b + (91 + 52 * (i / 12) + 3 * (i % 12))) (hX17 : X 17 (i) = (.inr (7, [iv 0, iv 0, .ref (adC b 18 (i)), .ref (adC b 19 (i)), iv 0, iv 0]))) (hX18 : X 18 (i) = (.inl (tc 0, 3, .inl (fun _ => 0)))) (hX19 : X 19 (i) = (.inl (tc 0, 3, .inl (fun _ => 0)))) : zMk l yX7_init cX7_init 1 1 D (tysC tc) (adC b) okC b [.ref (adC b 17 (i))] (sz) (zse X 17 (i) (.inr (7, [iv 0, iv 0, .null, .null, iv 0, iv 0]))) (sz + 1 + 1) X 2 6 := by
  refine zb_met (zI_adC b) (fun f i _ => adC_ge b f i) (by omega) (plainFor_of_name (by decide)) (Nat.le_of_ble_eq_true rfl) ?_
  intro p e s m args below meth c hC hret hlk hmn hA
  have hmn : meth.name = "<init>" := hmn
  refine zb_conv (L2 := [(0, .ref (adC b 17 (i)))]) ?_ rfl rfl rfl rfl
  refine zb_aload_n hC 0 rfl dX7_init_0 rfl ?_
  refine zb_obj hC (zin 639 (by decide +kernel) rfl) (Nat.le_of_ble_eq_true rfl) ⟨by decide, by decide⟩ dX7_init_1 ?_
  refine zb_aload_n hC 0 rfl dX7_init_4 rfl ?_
  refine zb_iconst hC dX7_init_5 ?_
  refine zb_newarr hC 3 (by decide) 0 (tysC_0 tc) 18 (i) (okC_18 (by omega)) (by simp only [adC_18] <;> omega) ⟨by decide, by decide⟩ dX7_init_6 ?_
  refine zb_conv ?_ rfl (zse_self (c := (.inl (tc 0, 3, .inl (fun _ => 0)))) (by exact ((zse_f (by decide)).trans ((hX18))))) rfl rfl
  refine zb_putF hC hmn zhX7_9 (fs := [iv 0, iv 0, .null, .null, iv 0, iv 0]) (okC_17 (by omega)) (by simp only [adC_17] <;> omega) (zse_at _ _ _ _) (Nat.le_of_ble_eq_true rfl) dX7_init_8 ?_
  refine zb_conv (S2 := (zse X 17 (i) (.inr (7, [iv 0, iv 0, .ref (adC b 18 (i)), .null, iv 0, iv 0])))) ?_ rfl (zse_twice _ _ _ _ _) rfl rfl
  refine zb_aload_n hC 0 rfl dX7_init_11 rfl ?_
  refine zb_iconst hC dX7_init_12 ?_
  refine zb_newarr hC 3 (by decide) 0 (tysC_0 tc) 19 (i) (okC_19 (by omega)) (by simp only [adC_19] <;> omega) ⟨by decide, by decide⟩ dX7_init_13 ?_
  refine zb_conv ?_ rfl (zse_self (c := (.inl (tc 0, 3, .inl (fun _ => 0)))) (by exact ((zse_f (by decide)).trans ((hX19))))) rfl rfl
  refine zb_putF hC hmn zhX7_15 (fs := [iv 0, iv 0, .ref (adC b 18 (i)), .null, iv 0, iv 0]) (okC_17 (by omega)) (by simp only [adC_17] <;> omega) (zse_at _ _ _ _) (Nat.le_of_ble_eq_true rfl) dX7_init_15 ?_
  refine zb_conv (S2 := (zse X 17 (i) (.inr (7, [iv 0, iv 0, .ref (adC b 18 (i)), .ref (adC b 19 (i)), iv 0, iv 0])))) ?_ rfl (zse_twice _ _ _ _ _) rfl rfl
  refine zb_conv (S2 := X) ?_ rfl (zse_self (by exact ((hX17)))) rfl rfl
  exact zb_ret hC hret hlk ⟨by decide, by decide⟩ (by omega) (fun _ _ _ _ => rfl) dX7_init_18
set_option maxHeartbeats 4000000 in
set_option maxRecDepth 100000 in
theorem k_X4_init (l : Launch) (D : va_G) (tc : Nat → ClassId) (b : Nat) (X : Nat → Nat → va_E) (i sz : Nat) (hi : i < 13) (hsz : sz = b + (28 + 4 * i + 103 * (i / 12))) (hX9 : X 9 (i) = (.inr (4, [.ref (adC b 10 (i)), .ref (adC b 11 (i))]))) (hX10 : X 10 (i) = (.inl (tc 0, 8, .inl (fun _ => 0)))) (hX11 : X 11 (i) = (.inl (tc 0, 8, .inl (fun _ => 0)))) : zMk l yX4_init cX4_init 1 1 D (tysC tc) (adC b) okC b [.ref (adC b 9 (i))] (sz) (zse X 9 (i) (.inr (4, [.null, .null]))) (sz + 1 + 1) X 2 16 := by
  refine zb_met (zI_adC b) (fun f i _ => adC_ge b f i) (by omega) (plainFor_of_name (by decide)) (Nat.le_of_ble_eq_true rfl) ?_
  intro p e s m args below meth c hC hret hlk hmn hA
  have hmn : meth.name = "<init>" := hmn
  refine zb_conv (L2 := [(0, .ref (adC b 9 (i)))]) ?_ rfl rfl rfl rfl
  refine zb_aload_n hC 0 rfl dX4_init_0 rfl ?_
  refine zb_obj hC (zin 526 (by decide +kernel) rfl) (Nat.le_of_ble_eq_true rfl) ⟨by decide, by decide⟩ dX4_init_1 ?_
  refine zb_aload_n hC 0 rfl dX4_init_4 rfl ?_
  refine zb_bipush hC dX4_init_5 (by decide) ?_
  refine zb_newarr hC 8 (by decide) 0 (tysC_0 tc) 10 (i) (okC_10 (by omega)) (by simp only [adC_10] <;> omega) ⟨by decide, by decide⟩ dX4_init_7 ?_
  refine zb_conv ?_ rfl (zse_self (c := (.inl (tc 0, 8, .inl (fun _ => 0)))) (by exact ((zse_f (by decide)).trans ((hX10))))) rfl rfl
  refine zb_putF hC hmn zhX4_9 (fs := [.null, .null]) (okC_9 (by omega)) (by simp only [adC_9] <;> omega) (zse_at _ _ _ _) (Nat.le_of_ble_eq_true rfl) dX4_init_9 ?_
  refine zb_conv (S2 := (zse X 9 (i) (.inr (4, [.ref (adC b 10 (i)), .null])))) ?_ rfl (zse_twice _ _ _ _ _) rfl rfl
  refine zb_aload_n hC 0 rfl dX4_init_12 rfl ?_
  refine zb_bipush hC dX4_init_13 (by decide) ?_
  refine zb_newarr hC 8 (by decide) 0 (tysC_0 tc) 11 (i) (okC_11 (by omega)) (by simp only [adC_11] <;> omega) ⟨by decide, by decide⟩ dX4_init_15 ?_
  refine zb_conv ?_ rfl (zse_self (c := (.inl (tc 0, 8, .inl (fun _ => 0)))) (by exact ((zse_f (by decide)).trans ((hX11))))) rfl rfl
  refine zb_putF hC hmn zhX4_15 (fs := [.ref (adC b 10 (i)), .null]) (okC_9 (by omega)) (by simp only [adC_9] <;> omega) (zse_at _ _ _ _) (Nat.le_of_ble_eq_true rfl) dX4_init_17 ?_
  refine zb_conv (S2 := (zse X 9 (i) (.inr (4, [.ref (adC b 10 (i)), .ref (adC b 11 (i))])))) ?_ rfl (zse_twice _ _ _ _ _) rfl rfl
  refine zb_conv (S2 := X) ?_ rfl (zse_self (by exact ((hX9)))) rfl rfl
  exact zb_ret hC hret hlk ⟨by decide, by decide⟩ (by omega) (fun _ _ _ _ => rfl) dX4_init_20
set_option maxHeartbeats 4000000 in
set_option maxRecDepth 100000 in
theorem k_X3_init (l : Launch) (D : va_G) (tc : Nat → ClassId) (b : Nat) (X : Nat → Nat → va_E) (i sz : Nat) (hi : i < 12) (hsz : sz = b + (27 + 4 * i)) (hX8 : X 8 (i) = (.inr (3, [.ref (adC b 9 (i)), iv 0, iv 0, iv 0]))) (hX9 : X 9 (i) = (.inr (4, [.ref (adC b 10 (i)), .ref (adC b 11 (i))]))) (hX10 : X 10 (i) = (.inl (tc 0, 8, .inl (fun _ => 0)))) (hX11 : X 11 (i) = (.inl (tc 0, 8, .inl (fun _ => 0)))) : zMk l yX3_init cX3_init 1 2 D (tysC tc) (adC b) okC b [.ref (adC b 8 (i))] (sz) (zse X 8 (i) (.inr (3, [.null, iv 0, iv 0, iv 0]))) (sz + 1 + 1 + 1) X 3 18 := by
  refine zb_met (zI_adC b) (fun f i _ => adC_ge b f i) (by omega) (plainFor_of_name (by decide)) (Nat.le_of_ble_eq_true rfl) ?_
  intro p e s m args below meth c hC hret hlk hmn hA
  have hmn : meth.name = "<init>" := hmn
  refine zb_conv (L2 := [(0, .ref (adC b 8 (i)))]) ?_ rfl rfl rfl rfl
  refine zb_aload_n hC 0 rfl dX3_init_0 rfl ?_
  refine zb_obj hC (zin 521 (by decide +kernel) rfl) (Nat.le_of_ble_eq_true rfl) ⟨by decide, by decide⟩ dX3_init_1 ?_
  refine zb_aload_n hC 0 rfl dX3_init_4 rfl ?_
  refine zb_new hC (ci := 4) rfl zwX4 tyX4 tyX4_ok (zin 522 (by decide +kernel) rfl) (zin 238 (by decide +kernel) rfl) (zin 22 (by decide +kernel) rfl) 9 (i) (okC_9 (by omega)) (by simp only [adC_9] <;> omega) (fs := [.null, .null]) (fun j hj => by rcases (show j = 0 ∨ j = 1 by omega) with rfl | rfl <;> rfl) ⟨by decide, by decide⟩ dX3_init_5 ?_
  refine zb_dup hC dX3_init_8 rfl ?_
  refine zb_callN hC hA zlX3_9 (k_X4_init l D tc b (zse X 8 (i) (.inr (3, [.null, iv 0, iv 0, iv 0]))) (i) (sz + 1) (by omega) (by omega) (by exact ((zse_f (by decide)).trans ((hX9)))) (by exact ((zse_f (by decide)).trans ((hX10)))) (by exact ((zse_f (by decide)).trans ((hX11))))) rfl rfl (Nat.le_of_ble_eq_true rfl) ⟨by decide, by decide⟩ ⟨by decide, by decide⟩ (by omega) dX3_init_9 ?_
  refine zb_putF hC hmn zhX3_10 (fs := [.null, iv 0, iv 0, iv 0]) (okC_8 (by omega)) (by simp only [adC_8] <;> omega) (zse_at _ _ _ _) (Nat.le_of_ble_eq_true rfl) dX3_init_12 ?_
  refine zb_conv (S2 := (zse X 8 (i) (.inr (3, [.ref (adC b 9 (i)), iv 0, iv 0, iv 0])))) ?_ rfl (zse_twice _ _ _ _ _) rfl rfl
  refine zb_conv (S2 := X) ?_ rfl (zse_self (by exact ((hX8)))) rfl rfl
  exact zb_ret hC hret hlk ⟨by decide, by decide⟩ (by omega) (fun _ _ _ _ => rfl) dX3_init_15
set_option maxHeartbeats 4000000 in
set_option maxRecDepth 100000 in
theorem k_X0_init (l : Launch) (D : va_G) (tc : Nat → ClassId) (b : Nat) (X : Nat → Nat → va_E) (sz : Nat) (hsz : sz = b + 2) (hX : ∀ f, f ≠ 0 → ∀ i, X f i = SFC tc b f i) : zMk l yX0_init cX0_init 2 3 D (tysC tc) (adC b) okC b [.ref (adC b 1 (0))] (sz) (zse X 1 (0) (.inr (0, [.null, .null, .null, .null, iv 0, iv 0, iv 0]))) (b + 74) X 72 392 := by
  refine zb_met (zI_adC b) (fun f i _ => adC_ge b f i) (by omega) (plainFor_of_name (by decide)) (Nat.le_of_ble_eq_true rfl) ?_
  intro p e s m args below meth c hC hret hlk hmn hA
  have hmn : meth.name = "<init>" := hmn
  refine zb_conv (L2 := [(0, .ref (adC b 1 (0)))]) ?_ rfl rfl rfl rfl
  refine zb_aload_n hC 0 rfl dX0_init_0 rfl ?_
  refine zb_obj hC (zin 457 (by decide +kernel) rfl) (Nat.le_of_ble_eq_true rfl) ⟨by decide, by decide⟩ dX0_init_1 ?_
  refine zb_aload_n hC 0 rfl dX0_init_4 rfl ?_
  refine zb_bipush hC dX0_init_5 (by decide) ?_
  refine zb_anew hC 8 (by decide) 1 (tysC_1 tc) (zin 458 (by decide +kernel) rfl) (hA _ (by decide)) 2 (0) (okC_2 (by omega)) (by simp only [adC_2] <;> omega) ⟨by decide, by decide⟩ dX0_init_7 ?_
  refine zb_putF hC hmn zhX0_11 (fs := [.null, .null, .null, .null, iv 0, iv 0, iv 0]) (okC_1 (by omega)) (by simp only [adC_1] <;> omega) ((zse_f (by decide)).trans ((zse_at _ _ _ _))) (Nat.le_of_ble_eq_true rfl) dX0_init_10 ?_
  refine zb_conv (S2 := (zse (zse X 2 (0) (.inl (tc 1, 8, .inr (.inr (.inr (.inr (fun _ => none))))))) 1 (0) (.inr (0, [.ref (adC b 2 (0)), .null, .null, .null, iv 0, iv 0, iv 0])))) ?_ rfl (by rw [zse_comm (show (1 : Nat) ≠ 2 by decide), zse_twice] <;> rfl) rfl rfl
  refine zb_aload_n hC 0 rfl dX0_init_13 rfl ?_
  refine zb_bipush hC dX0_init_14 (by decide) ?_
  refine zb_anew hC 12 (by decide) 2 (tysC_2 tc) (zin 460 (by decide +kernel) rfl) (hA _ (by decide)) 3 (0) (okC_3 (by omega)) (by simp only [adC_3] <;> omega) ⟨by decide, by decide⟩ dX0_init_16 ?_
  refine zb_putF hC hmn zhX0_19 (fs := [.ref (adC b 2 (0)), .null, .null, .null, iv 0, iv 0, iv 0]) (okC_1 (by omega)) (by simp only [adC_1] <;> omega) ((zse_f (by decide)).trans ((zse_at _ _ _ _))) (Nat.le_of_ble_eq_true rfl) dX0_init_19 ?_
  refine zb_conv (S2 := (zse (zse (zse X 2 (0) (.inl (tc 1, 8, .inr (.inr (.inr (.inr (fun _ => none))))))) 3 (0) (.inl (tc 2, 12, .inr (.inr (.inr (.inr (fun _ => none))))))) 1 (0) (.inr (0, [.ref (adC b 2 (0)), .ref (adC b 3 (0)), .null, .null, iv 0, iv 0, iv 0])))) ?_ rfl (by rw [zse_comm (show (1 : Nat) ≠ 3 by decide), zse_twice] <;> rfl) rfl rfl
  refine zb_aload_n hC 0 rfl dX0_init_22 rfl ?_
  refine zb_bipush hC dX0_init_23 (by decide) ?_
  refine zb_anew hC 12 (by decide) 3 (tysC_3 tc) (zin 462 (by decide +kernel) rfl) (hA _ (by decide)) 4 (0) (okC_4 (by omega)) (by simp only [adC_4] <;> omega) ⟨by decide, by decide⟩ dX0_init_25 ?_
  refine zb_putF hC hmn zhX0_25 (fs := [.ref (adC b 2 (0)), .ref (adC b 3 (0)), .null, .null, iv 0, iv 0, iv 0]) (okC_1 (by omega)) (by simp only [adC_1] <;> omega) ((zse_f (by decide)).trans ((zse_at _ _ _ _))) (Nat.le_of_ble_eq_true rfl) dX0_init_28 ?_
  refine zb_conv (S2 := (zse (zse (zse (zse X 2 (0) (.inl (tc 1, 8, .inr (.inr (.inr (.inr (fun _ => none))))))) 3 (0) (.inl (tc 2, 12, .inr (.inr (.inr (.inr (fun _ => none))))))) 4 (0) (.inl (tc 3, 12, .inr (.inr (.inr (.inr (fun _ => none))))))) 1 (0) (.inr (0, [.ref (adC b 2 (0)), .ref (adC b 3 (0)), .ref (adC b 4 (0)), .null, iv 0, iv 0, iv 0])))) ?_ rfl (by rw [zse_comm (show (1 : Nat) ≠ 4 by decide), zse_twice] <;> rfl) rfl rfl
  refine zb_aload_n hC 0 rfl dX0_init_31 rfl ?_
  refine zb_bipush hC dX0_init_32 (by decide) ?_
  refine zb_newarr hC 12 (by decide) 0 (tysC_0 tc) 5 (0) (okC_5 (by omega)) (by simp only [adC_5] <;> omega) ⟨by decide, by decide⟩ dX0_init_34 ?_
  refine zb_conv ?_ rfl (zse_self (c := (.inl (tc 0, 12, .inl (fun _ => 0)))) (by exact ((zse_f (by decide)).trans ((zse_f (by decide)).trans ((zse_f (by decide)).trans ((zse_f (by decide)).trans ((hX _ (by decide) _)))))))) rfl rfl
  refine zb_putF hC hmn zhX0_29 (fs := [.ref (adC b 2 (0)), .ref (adC b 3 (0)), .ref (adC b 4 (0)), .null, iv 0, iv 0, iv 0]) (okC_1 (by omega)) (by simp only [adC_1] <;> omega) (zse_at _ _ _ _) (Nat.le_of_ble_eq_true rfl) dX0_init_36 ?_
  refine zb_conv (S2 := (zse (zse (zse (zse X 2 (0) (.inl (tc 1, 8, .inr (.inr (.inr (.inr (fun _ => none))))))) 3 (0) (.inl (tc 2, 12, .inr (.inr (.inr (.inr (fun _ => none))))))) 4 (0) (.inl (tc 3, 12, .inr (.inr (.inr (.inr (fun _ => none))))))) 1 (0) (.inr (0, [.ref (adC b 2 (0)), .ref (adC b 3 (0)), .ref (adC b 4 (0)), .ref (adC b 5 (0)), iv 0, iv 0, iv 0])))) ?_ rfl (zse_twice _ _ _ _ _) rfl rfl
  refine zb_conv (S2 := (zse (zse (zse X 2 (0) (.inl (tc 1, 8, .inr (.inr (.inr (.inr (fun _ => none))))))) 3 (0) (.inl (tc 2, 12, .inr (.inr (.inr (.inr (fun _ => none))))))) 4 (0) (.inl (tc 3, 12, .inr (.inr (.inr (.inr (fun _ => none)))))))) ?_ rfl (zse_self (by exact ((zse_f (by decide)).trans ((zse_f (by decide)).trans ((zse_f (by decide)).trans ((hX _ (by decide) _))))))) rfl rfl
  refine zb_iconst hC dX0_init_39 ?_
  refine zb_istore_n hC (L' := [(1, iv 0), (0, .ref (adC b 1 (0)))]) dX0_init_40 rfl (by decide) rfl ?_
  have hc41 : ∀ (d41 j : Nat), j ≤ 8 → 8 - j = d41 → zB p l e (zrm 3 72 392) s m args below meth c (MQ below (va_Qv (fun (_ : Unit) => True) (fun _ t9 => zHB D (adC b) okC (b + 74) X t9.heap) (fun q => b ≤ q)) args s 72 392 (fun q => b ≤ q)) D (adC b) okC (fun q => b ≤ q) s.heap 2 (4 + j) (44 + 3 * j) (b + (6 + j)) (zse (zse (zse X 3 (0) (.inl (tc 2, 12, .inr (.inr (.inr (.inr (fun _ => none))))))) 4 (0) (.inl (tc 3, 12, .inr (.inr (.inr (.inr (fun _ => none))))))) 2 (0) (.inl (tc 1, 8, .inr (.inr (.inr (.inr (zpart (fun k => adC b 6 (k)) (j)))))))) [(0, .ref (adC b 1 (0))), (1, iv ((j : Nat) : Int))] 41 [] := by
    intro d41
    induction d41 using Nat.strongRecOn with
    | _ d41 ih41 =>
      intro j hj41 hd41
      refine zb_iload_n hC 1 rfl dX0_init_41 rfl ?_
      refine zb_bipush hC dX0_init_42 (by decide) ?_
      refine zb_icmp_ge hC 66 dX0_init_44 (by decide) (by omega) (by omega) (fun c44 => ?_) (fun c44 => ?_)
      · have he : j = 8 := by omega
        subst he
        refine zb_full (by exact ((zse_f (by decide)).trans ((zse_f (by decide)).trans ((hX _ (by decide) _))))) ?_
        refine zb_iconst hC dX0_init_66 ?_
        refine zb_istore_n hC (L' := [(1, iv 0), (0, .ref (adC b 1 (0)))]) dX0_init_67 rfl (by decide) rfl ?_
        have hc68 : ∀ (d68 j : Nat), j ≤ 12 → 12 - j = d68 → zB p l e (zrm 3 72 392) s m args below meth c (MQ below (va_Qv (fun (_ : Unit) => True) (fun _ t9 => zHB D (adC b) okC (b + 74) X t9.heap) (fun q => b ≤ q)) args s 72 392 (fun q => b ≤ q)) D (adC b) okC (fun q => b ≤ q) s.heap 2 (12 + j) (68 + 5 * j) (b + (14 + j)) (zse (zse X 4 (0) (.inl (tc 3, 12, .inr (.inr (.inr (.inr (fun _ => none))))))) 3 (0) (.inl (tc 2, 12, .inr (.inr (.inr (.inr (zpart (fun k => adC b 7 (k)) (j)))))))) [(0, .ref (adC b 1 (0))), (1, iv ((j : Nat) : Int))] 68 [] := by
          intro d68
          induction d68 using Nat.strongRecOn with
          | _ d68 ih68 =>
            intro j hj68 hd68
            refine zb_iload_n hC 1 rfl dX0_init_68 rfl ?_
            refine zb_bipush hC dX0_init_69 (by decide) ?_
            refine zb_icmp_ge hC 93 dX0_init_71 (by decide) (by omega) (by omega) (fun c71 => ?_) (fun c71 => ?_)
            · have he : j = 12 := by omega
              subst he
              refine zb_full (by exact ((zse_f (by decide)).trans ((hX _ (by decide) _)))) ?_
              refine zb_iconst hC dX0_init_93 ?_
              refine zb_istore_n hC (L' := [(1, iv 0), (0, .ref (adC b 1 (0)))]) dX0_init_94 rfl (by decide) rfl ?_
              have hc95 : ∀ (d95 j : Nat), j ≤ 12 → 12 - j = d95 → zB p l e (zrm 3 72 392) s m args below meth c (MQ below (va_Qv (fun (_ : Unit) => True) (fun _ t9 => zHB D (adC b) okC (b + 74) X t9.heap) (fun q => b ≤ q)) args s 72 392 (fun q => b ≤ q)) D (adC b) okC (fun q => b ≤ q) s.heap 2 (24 + 4 * j) (128 + 22 * j) (b + (26 + 4 * j)) (zse X 4 (0) (.inl (tc 3, 12, .inr (.inr (.inr (.inr (zpart (fun k => adC b 8 (k)) (j)))))))) [(0, .ref (adC b 1 (0))), (1, iv ((j : Nat) : Int))] 95 [] := by
                intro d95
                induction d95 using Nat.strongRecOn with
                | _ d95 ih95 =>
                  intro j hj95 hd95
                  refine zb_iload_n hC 1 rfl dX0_init_95 rfl ?_
                  refine zb_bipush hC dX0_init_96 (by decide) ?_
                  refine zb_icmp_ge hC 120 dX0_init_98 (by decide) (by omega) (by omega) (fun c98 => ?_) (fun c98 => ?_)
                  · have he : j = 12 := by omega
                    subst he
                    refine zb_full (by exact ((hX _ (by decide) _))) ?_
                    exact zb_ret hC hret hlk ⟨by decide, by decide⟩ (by omega) (fun _ _ _ _ => rfl) dX0_init_120
                  · skip
                    refine zb_aload_n hC 0 rfl dX0_init_101 rfl ?_
                    refine zb_get hC zfX0_25 (fs := [.ref (adC b 2 (0)), .ref (adC b 3 (0)), .ref (adC b 4 (0)), .ref (adC b 5 (0)), iv 0, iv 0, iv 0]) (v := .ref (adC b 4 (0))) (okC_1 (by omega)) (by simp only [adC_1] <;> omega) ((zse_f (by decide)).trans ((hX _ (by decide) _))) rfl dX0_init_102 ?_
                    refine zb_iload_n hC 1 rfl dX0_init_105 rfl ?_
                    refine zb_new hC (ci := 3) rfl zwX3 tyX3 tyX3_ok (zin 462 (by decide +kernel) rfl) (zin 517 (by decide +kernel) rfl) (zin 21 (by decide +kernel) rfl) 8 (j) (okC_8 (by omega)) (by simp only [adC_8] <;> omega) (fs := [.null, iv 0, iv 0, iv 0]) (fun j hj => by rcases (show j = 0 ∨ j = 1 ∨ j = 2 ∨ j = 3 by omega) with rfl | rfl | rfl | rfl <;> rfl) ⟨by show _ ≤ 72; omega, by show _ ≤ 392; omega⟩ dX0_init_106 ?_
                    refine zb_dup hC dX0_init_109 rfl ?_
                    refine zb_callN hC hA zlX0_35 (k_X3_init l D tc b (zse X 4 (0) (.inl (tc 3, 12, .inr (.inr (.inr (.inr (zpart (fun k => adC b 8 (k)) (j)))))))) (j) (b + (26 + 4 * j) + 1) (by omega) (by omega) (by exact ((zse_f (by decide)).trans ((hX _ (by decide) _)))) (by exact ((zse_f (by decide)).trans ((hX _ (by decide) _)))) (by exact ((zse_f (by decide)).trans ((hX _ (by decide) _)))) (by exact ((zse_f (by decide)).trans ((hX _ (by decide) _))))) rfl rfl (Nat.le_of_ble_eq_true rfl) ⟨by decide, by decide⟩ ⟨by show _ ≤ 72; omega, by show _ ≤ 392; omega⟩ (by omega) dX0_init_110 ?_
                    refine zb_aast hC (k := j) 3 (tysC_3 tc) (ci := 3) rfl (by decide) (by omega) (okC_4 (by omega)) (by simp only [adC_4] <;> omega) (zse_at _ _ _ _) (okC_8 (by omega)) (by simp only [adC_8] <;> omega) ((zse_f (by decide)).trans ((hX _ (by decide) _))) dX0_init_113 ?_
                    refine zb_conv (S2 := (zse X 4 (0) (.inl (tc 3, 12, .inr (.inr (.inr (.inr (zpart (fun k => adC b 8 (k)) (j + 1))))))))) ?_ rfl (by rw [zse_twice]; exact congrArg (fun z => zse X 4 (0) (.inl (tc 3, 12, .inr (.inr (.inr (.inr z)))))) (zpart_s (fun k => adC b 8 (k)) j)) rfl rfl
                    refine zb_iinc hC 1 (L' := [(1, iv (((j : Nat) : Int) + 1)), (0, .ref (adC b 1 (0)))]) dX0_init_114 rfl (by decide) rfl ?_
                    refine zb_goto hC 95 dX0_init_117 (by decide) ?_
                    refine zb_perm [1, 0] (L' := [(0, .ref (adC b 1 (0))), (1, iv (((j : Nat) : Int) + 1))]) rfl ?_
                    refine zb_widen (k := 24 + 4 * (j + 1)) (n := 128 + 22 * (j + 1)) (by omega) (by omega) ?_
                    exact zb_conv (ih95 _ (by omega) (j + 1) (by omega) rfl) (by omega) rfl rfl rfl
              refine zb_perm [1, 0] (L' := [(0, .ref (adC b 1 (0))), (1, iv 0)]) rfl ?_
              refine zb_widen (k := 24 + 4 * 0) (n := 128 + 22 * 0) (by omega) (by omega) ?_
              exact zb_conv (hc95 _ 0 (by omega) rfl) (by omega) (by rw [zpart_0]) rfl rfl
            · skip
              refine zb_aload_n hC 0 rfl dX0_init_74 rfl ?_
              refine zb_get hC zfX0_19 (fs := [.ref (adC b 2 (0)), .ref (adC b 3 (0)), .ref (adC b 4 (0)), .ref (adC b 5 (0)), iv 0, iv 0, iv 0]) (v := .ref (adC b 3 (0))) (okC_1 (by omega)) (by simp only [adC_1] <;> omega) ((zse_f (by decide)).trans ((zse_f (by decide)).trans ((hX _ (by decide) _)))) rfl dX0_init_75 ?_
              refine zb_iload_n hC 1 rfl dX0_init_78 rfl ?_
              refine zb_new hC (ci := 1) rfl zwX1 tyX1 tyX1_ok (zin 460 (by decide +kernel) rfl) (zin 485 (by decide +kernel) rfl) (zin 20 (by decide +kernel) rfl) 7 (j) (okC_7 (by omega)) (by simp only [adC_7] <;> omega) (fs := [iv 0, iv 0, iv 0, iv 0, iv 0]) (fun j hj => by rcases (show j = 0 ∨ j = 1 ∨ j = 2 ∨ j = 3 ∨ j = 4 by omega) with rfl | rfl | rfl | rfl | rfl <;> rfl) ⟨by show _ ≤ 72; omega, by show _ ≤ 392; omega⟩ dX0_init_79 ?_
              refine zb_conv ?_ rfl (zse_self (c := (.inr (1, [iv 0, iv 0, iv 0, iv 0, iv 0]))) (by exact ((zse_f (by decide)).trans ((zse_f (by decide)).trans ((hX _ (by decide) _)))))) rfl rfl
              refine zb_dup hC dX0_init_82 rfl ?_
              refine zb_callN hC hA zlX0_34 (k_X1_init l D tc b (zse (zse X 4 (0) (.inl (tc 3, 12, .inr (.inr (.inr (.inr (fun _ => none))))))) 3 (0) (.inl (tc 2, 12, .inr (.inr (.inr (.inr (zpart (fun k => adC b 7 (k)) (j)))))))) (b + (14 + j) + 1) _ (by omega)) rfl rfl (Nat.le_of_ble_eq_true rfl) ⟨by decide, by decide⟩ ⟨by show _ ≤ 72; omega, by show _ ≤ 392; omega⟩ (by omega) dX0_init_83 ?_
              refine zb_aast hC (k := j) 2 (tysC_2 tc) (ci := 1) rfl (by decide) (by omega) (okC_3 (by omega)) (by simp only [adC_3] <;> omega) (zse_at _ _ _ _) (okC_7 (by omega)) (by simp only [adC_7] <;> omega) ((zse_f (by decide)).trans ((zse_f (by decide)).trans ((hX _ (by decide) _)))) dX0_init_86 ?_
              refine zb_conv (S2 := (zse (zse X 4 (0) (.inl (tc 3, 12, .inr (.inr (.inr (.inr (fun _ => none))))))) 3 (0) (.inl (tc 2, 12, .inr (.inr (.inr (.inr (zpart (fun k => adC b 7 (k)) (j + 1))))))))) ?_ rfl (by rw [zse_twice]; exact congrArg (fun z => zse (zse X 4 (0) (.inl (tc 3, 12, .inr (.inr (.inr (.inr (fun _ => none))))))) 3 (0) (.inl (tc 2, 12, .inr (.inr (.inr (.inr z)))))) (zpart_s (fun k => adC b 7 (k)) j)) rfl rfl
              refine zb_iinc hC 1 (L' := [(1, iv (((j : Nat) : Int) + 1)), (0, .ref (adC b 1 (0)))]) dX0_init_87 rfl (by decide) rfl ?_
              refine zb_goto hC 68 dX0_init_90 (by decide) ?_
              refine zb_perm [1, 0] (L' := [(0, .ref (adC b 1 (0))), (1, iv (((j : Nat) : Int) + 1))]) rfl ?_
              refine zb_widen (k := 12 + (j + 1)) (n := 68 + 5 * (j + 1)) (by omega) (by omega) ?_
              exact zb_conv (ih68 _ (by omega) (j + 1) (by omega) rfl) (by omega) rfl rfl rfl
        refine zb_perm [1, 0] (L' := [(0, .ref (adC b 1 (0))), (1, iv 0)]) rfl ?_
        refine zb_widen (k := 12 + 0) (n := 68 + 5 * 0) (by omega) (by omega) ?_
        exact zb_conv (hc68 _ 0 (by omega) rfl) (by omega) (by rw [zse_comm (show (3 : Nat) ≠ 4 by decide), zpart_0]) rfl rfl
      · skip
        refine zb_aload_n hC 0 rfl dX0_init_47 rfl ?_
        refine zb_get hC zfX0_11 (fs := [.ref (adC b 2 (0)), .ref (adC b 3 (0)), .ref (adC b 4 (0)), .ref (adC b 5 (0)), iv 0, iv 0, iv 0]) (v := .ref (adC b 2 (0))) (okC_1 (by omega)) (by simp only [adC_1] <;> omega) ((zse_f (by decide)).trans ((zse_f (by decide)).trans ((zse_f (by decide)).trans ((hX _ (by decide) _))))) rfl dX0_init_48 ?_
        refine zb_iload_n hC 1 rfl dX0_init_51 rfl ?_
        refine zb_new hC (ci := 2) rfl zwX2 tyX2 tyX2_ok (zin 458 (by decide +kernel) rfl) (zin 464 (by decide +kernel) rfl) (zin 19 (by decide +kernel) rfl) 6 (j) (okC_6 (by omega)) (by simp only [adC_6] <;> omega) (fs := [iv 0, iv 0, iv 0]) (fun j hj => by rcases (show j = 0 ∨ j = 1 ∨ j = 2 by omega) with rfl | rfl | rfl <;> rfl) ⟨by show _ ≤ 72; omega, by show _ ≤ 392; omega⟩ dX0_init_52 ?_
        refine zb_conv ?_ rfl (zse_self (c := (.inr (2, [iv 0, iv 0, iv 0]))) (by exact ((zse_f (by decide)).trans ((zse_f (by decide)).trans ((zse_f (by decide)).trans ((hX _ (by decide) _))))))) rfl rfl
        refine zb_dup hC dX0_init_55 rfl ?_
        refine zb_callN hC hA zlX0_33 (k_X2_init l D tc b (zse (zse (zse X 3 (0) (.inl (tc 2, 12, .inr (.inr (.inr (.inr (fun _ => none))))))) 4 (0) (.inl (tc 3, 12, .inr (.inr (.inr (.inr (fun _ => none))))))) 2 (0) (.inl (tc 1, 8, .inr (.inr (.inr (.inr (zpart (fun k => adC b 6 (k)) (j)))))))) (b + (6 + j) + 1) _ (by omega)) rfl rfl (Nat.le_of_ble_eq_true rfl) ⟨by decide, by decide⟩ ⟨by show _ ≤ 72; omega, by show _ ≤ 392; omega⟩ (by omega) dX0_init_56 ?_
        refine zb_aast hC (k := j) 1 (tysC_1 tc) (ci := 2) rfl (by decide) (by omega) (okC_2 (by omega)) (by simp only [adC_2] <;> omega) (zse_at _ _ _ _) (okC_6 (by omega)) (by simp only [adC_6] <;> omega) ((zse_f (by decide)).trans ((zse_f (by decide)).trans ((zse_f (by decide)).trans ((hX _ (by decide) _))))) dX0_init_59 ?_
        refine zb_conv (S2 := (zse (zse (zse X 3 (0) (.inl (tc 2, 12, .inr (.inr (.inr (.inr (fun _ => none))))))) 4 (0) (.inl (tc 3, 12, .inr (.inr (.inr (.inr (fun _ => none))))))) 2 (0) (.inl (tc 1, 8, .inr (.inr (.inr (.inr (zpart (fun k => adC b 6 (k)) (j + 1))))))))) ?_ rfl (by rw [zse_twice]; exact congrArg (fun z => zse (zse (zse X 3 (0) (.inl (tc 2, 12, .inr (.inr (.inr (.inr (fun _ => none))))))) 4 (0) (.inl (tc 3, 12, .inr (.inr (.inr (.inr (fun _ => none))))))) 2 (0) (.inl (tc 1, 8, .inr (.inr (.inr (.inr z)))))) (zpart_s (fun k => adC b 6 (k)) j)) rfl rfl
        refine zb_iinc hC 1 (L' := [(1, iv (((j : Nat) : Int) + 1)), (0, .ref (adC b 1 (0)))]) dX0_init_60 rfl (by decide) rfl ?_
        refine zb_goto hC 41 dX0_init_63 (by decide) ?_
        refine zb_perm [1, 0] (L' := [(0, .ref (adC b 1 (0))), (1, iv (((j : Nat) : Int) + 1))]) rfl ?_
        refine zb_widen (k := 4 + (j + 1)) (n := 44 + 3 * (j + 1)) (by omega) (by omega) ?_
        exact zb_conv (ih41 _ (by omega) (j + 1) (by omega) rfl) (by omega) rfl rfl rfl
  refine zb_perm [1, 0] (L' := [(0, .ref (adC b 1 (0))), (1, iv 0)]) rfl ?_
  refine zb_widen (k := 4 + 0) (n := 44 + 3 * 0) (by omega) (by omega) ?_
  exact zb_conv (hc41 _ 0 (by omega) rfl) (by omega) (by rw [zse_comm (show (2 : Nat) ≠ 3 by decide), zse_comm (show (2 : Nat) ≠ 4 by decide), zpart_0]) rfl rfl
set_option maxHeartbeats 4000000 in
set_option maxRecDepth 100000 in
theorem k_X5_init (l : Launch) (D : va_G) (tc : Nat → ClassId) (b : Nat) (X : Nat → Nat → va_E) (t sz : Nat) (ht : t < 2) (hsz : sz = b + (75 + 52 * t)) (hX : ∀ f, f ≠ 0 → ∀ i, X f i = SFC tc b f i) : zMk l yX5_init cX5_init 3 2 D (tysC tc) (adC b) okC b [.ref (adC b 12 (t)), .ref (adC b 1 (0))] (sz) (zse X 12 (t) (.inr (5, [.null, .null, .null, .null, iv 0, iv 0]))) (b + (126 + 52 * t)) X 51 252 := by
  refine zb_met (zI_adC b) (fun f i _ => adC_ge b f i) (by omega) (plainFor_of_name (by decide)) (Nat.le_of_ble_eq_true rfl) ?_
  intro p e s m args below meth c hC hret hlk hmn hA
  have hmn : meth.name = "<init>" := hmn
  refine zb_conv (L2 := [(0, .ref (adC b 12 (t))), (1, .ref (adC b 1 (0)))]) ?_ rfl rfl rfl rfl
  refine zb_aload_n hC 0 rfl dX5_init_0 rfl ?_
  refine zb_obj hC (zin 597 (by decide +kernel) rfl) (Nat.le_of_ble_eq_true rfl) ⟨by decide, by decide⟩ dX5_init_1 ?_
  refine zb_aload_n hC 0 rfl dX5_init_4 rfl ?_
  refine zb_bipush hC dX5_init_5 (by decide) ?_
  refine zb_anew hC 12 (by decide) 4 (tysC_4 tc) (zin 598 (by decide +kernel) rfl) (hA _ (by decide)) 13 (t) (okC_13 (by omega)) (by simp only [adC_13] <;> omega) ⟨by decide, by decide⟩ dX5_init_7 ?_
  refine zb_putF hC hmn zhX5_11 (fs := [.null, .null, .null, .null, iv 0, iv 0]) (okC_12 (by omega)) (by simp only [adC_12] <;> omega) ((zse_f (by decide)).trans ((zse_at _ _ _ _))) (Nat.le_of_ble_eq_true rfl) dX5_init_10 ?_
  refine zb_conv (S2 := (zse (zse X 13 (t) (.inl (tc 4, 12, .inr (.inr (.inr (.inr (fun _ => none))))))) 12 (t) (.inr (5, [.null, .ref (adC b 13 (t)), .null, .null, iv 0, iv 0])))) ?_ rfl (by rw [zse_comm (show (12 : Nat) ≠ 13 by decide), zse_twice] <;> rfl) rfl rfl
  refine zb_aload_n hC 0 rfl dX5_init_13 rfl ?_
  refine zb_bipush hC dX5_init_14 (by decide) ?_
  refine zb_anew hC 12 (by decide) 5 (tysC_5 tc) (zin 600 (by decide +kernel) rfl) (hA _ (by decide)) 14 (t) (okC_14 (by omega)) (by simp only [adC_14] <;> omega) ⟨by decide, by decide⟩ dX5_init_16 ?_
  refine zb_putF hC hmn zhX5_19 (fs := [.null, .ref (adC b 13 (t)), .null, .null, iv 0, iv 0]) (okC_12 (by omega)) (by simp only [adC_12] <;> omega) ((zse_f (by decide)).trans ((zse_at _ _ _ _))) (Nat.le_of_ble_eq_true rfl) dX5_init_19 ?_
  refine zb_conv (S2 := (zse (zse (zse X 13 (t) (.inl (tc 4, 12, .inr (.inr (.inr (.inr (fun _ => none))))))) 14 (t) (.inl (tc 5, 12, .inr (.inr (.inr (.inr (fun _ => none))))))) 12 (t) (.inr (5, [.null, .ref (adC b 13 (t)), .ref (adC b 14 (t)), .null, iv 0, iv 0])))) ?_ rfl (by rw [zse_comm (show (12 : Nat) ≠ 14 by decide), zse_twice] <;> rfl) rfl rfl
  refine zb_aload_n hC 0 rfl dX5_init_22 rfl ?_
  refine zb_bipush hC dX5_init_23 (by decide) ?_
  refine zb_newarr hC 12 (by decide) 0 (tysC_0 tc) 15 (t) (okC_15 (by omega)) (by simp only [adC_15] <;> omega) ⟨by decide, by decide⟩ dX5_init_25 ?_
  refine zb_conv ?_ rfl (zse_self (c := (.inl (tc 0, 12, .inl (fun _ => 0)))) (by exact ((zse_f (by decide)).trans ((zse_f (by decide)).trans ((zse_f (by decide)).trans ((hX _ (by decide) _))))))) rfl rfl
  refine zb_putF hC hmn zhX5_23 (fs := [.null, .ref (adC b 13 (t)), .ref (adC b 14 (t)), .null, iv 0, iv 0]) (okC_12 (by omega)) (by simp only [adC_12] <;> omega) (zse_at _ _ _ _) (Nat.le_of_ble_eq_true rfl) dX5_init_27 ?_
  refine zb_conv (S2 := (zse (zse (zse X 13 (t) (.inl (tc 4, 12, .inr (.inr (.inr (.inr (fun _ => none))))))) 14 (t) (.inl (tc 5, 12, .inr (.inr (.inr (.inr (fun _ => none))))))) 12 (t) (.inr (5, [.null, .ref (adC b 13 (t)), .ref (adC b 14 (t)), .ref (adC b 15 (t)), iv 0, iv 0])))) ?_ rfl (zse_twice _ _ _ _ _) rfl rfl
  refine zb_aload_n hC 0 rfl dX5_init_30 rfl ?_
  refine zb_aload_n hC 1 rfl dX5_init_31 rfl ?_
  refine zb_putF hC hmn zhX5_27 (fs := [.null, .ref (adC b 13 (t)), .ref (adC b 14 (t)), .ref (adC b 15 (t)), iv 0, iv 0]) (okC_12 (by omega)) (by simp only [adC_12] <;> omega) (zse_at _ _ _ _) (Nat.le_of_ble_eq_true rfl) dX5_init_32 ?_
  refine zb_conv (S2 := (zse (zse (zse X 13 (t) (.inl (tc 4, 12, .inr (.inr (.inr (.inr (fun _ => none))))))) 14 (t) (.inl (tc 5, 12, .inr (.inr (.inr (.inr (fun _ => none))))))) 12 (t) (.inr (5, [.ref (adC b 1 (0)), .ref (adC b 13 (t)), .ref (adC b 14 (t)), .ref (adC b 15 (t)), iv 0, iv 0])))) ?_ rfl (zse_twice _ _ _ _ _) rfl rfl
  refine zb_conv (S2 := (zse (zse X 13 (t) (.inl (tc 4, 12, .inr (.inr (.inr (.inr (fun _ => none))))))) 14 (t) (.inl (tc 5, 12, .inr (.inr (.inr (.inr (fun _ => none)))))))) ?_ rfl (zse_self (by exact ((zse_f (by decide)).trans ((zse_f (by decide)).trans ((hX _ (by decide) _)))))) rfl rfl
  refine zb_iconst hC dX5_init_35 ?_
  refine zb_istore_n hC (L' := [(2, iv 0), (0, .ref (adC b 12 (t))), (1, .ref (adC b 1 (0)))]) dX5_init_36 rfl (by decide) rfl ?_
  have hc37 : ∀ (d37 j : Nat), j ≤ 12 → 12 - j = d37 → zB p l e (zrm 2 51 252) s m args below meth c (MQ below (va_Qv (fun (_ : Unit) => True) (fun _ t9 => zHB D (adC b) okC (b + (126 + 52 * t)) X t9.heap) (fun q => b ≤ q)) args s 51 252 (fun q => b ≤ q)) D (adC b) okC (fun q => b ≤ q) s.heap 3 (3 + j) (36 + 6 * j) (b + (78 + 52 * t + j)) (zse (zse X 14 (t) (.inl (tc 5, 12, .inr (.inr (.inr (.inr (fun _ => none))))))) 13 (t) (.inl (tc 4, 12, .inr (.inr (.inr (.inr (zpart (fun k => adC b 16 (12 * t + k)) (j)))))))) [(0, .ref (adC b 12 (t))), (1, .ref (adC b 1 (0))), (2, iv ((j : Nat) : Int))] 37 [] := by
    intro d37
    induction d37 using Nat.strongRecOn with
    | _ d37 ih37 =>
      intro j hj37 hd37
      refine zb_iload_n hC 2 rfl dX5_init_37 rfl ?_
      refine zb_bipush hC dX5_init_38 (by decide) ?_
      refine zb_icmp_ge hC 62 dX5_init_40 (by decide) (by omega) (by omega) (fun c40 => ?_) (fun c40 => ?_)
      · have he : j = 12 := by omega
        subst he
        refine zb_full (by exact ((zse_f (by decide)).trans ((hX _ (by decide) _)))) ?_
        refine zb_iconst hC dX5_init_62 ?_
        refine zb_istore_n hC (L' := [(2, iv 0), (0, .ref (adC b 12 (t))), (1, .ref (adC b 1 (0)))]) dX5_init_63 rfl (by decide) rfl ?_
        have hc64 : ∀ (d64 j : Nat), j ≤ 12 → 12 - j = d64 → zB p l e (zrm 2 51 252) s m args below meth c (MQ below (va_Qv (fun (_ : Unit) => True) (fun _ t9 => zHB D (adC b) okC (b + (126 + 52 * t)) X t9.heap) (fun q => b ≤ q)) args s 51 252 (fun q => b ≤ q)) D (adC b) okC (fun q => b ≤ q) s.heap 3 (15 + 3 * j) (108 + 12 * j) (b + (90 + 52 * t + 3 * j)) (zse X 14 (t) (.inl (tc 5, 12, .inr (.inr (.inr (.inr (zpart (fun k => adC b 17 (12 * t + k)) (j)))))))) [(0, .ref (adC b 12 (t))), (1, .ref (adC b 1 (0))), (2, iv ((j : Nat) : Int))] 64 [] := by
          intro d64
          induction d64 using Nat.strongRecOn with
          | _ d64 ih64 =>
            intro j hj64 hd64
            refine zb_iload_n hC 2 rfl dX5_init_64 rfl ?_
            refine zb_bipush hC dX5_init_65 (by decide) ?_
            refine zb_icmp_ge hC 89 dX5_init_67 (by decide) (by omega) (by omega) (fun c67 => ?_) (fun c67 => ?_)
            · have he : j = 12 := by omega
              subst he
              refine zb_full (by exact ((hX _ (by decide) _))) ?_
              exact zb_ret hC hret hlk ⟨by decide, by decide⟩ (by omega) (fun _ _ _ _ => rfl) dX5_init_89
            · skip
              refine zb_aload_n hC 0 rfl dX5_init_70 rfl ?_
              refine zb_get hC zfX5_19 (fs := [.ref (adC b 1 (0)), .ref (adC b 13 (t)), .ref (adC b 14 (t)), .ref (adC b 15 (t)), iv 0, iv 0]) (v := .ref (adC b 14 (t))) (okC_12 (by omega)) (by simp only [adC_12] <;> omega) ((zse_f (by decide)).trans ((hX _ (by decide) _))) rfl dX5_init_71 ?_
              refine zb_iload_n hC 2 rfl dX5_init_74 rfl ?_
              refine zb_new hC (ci := 7) rfl zwX7 tyX7 tyX7_ok (zin 600 (by decide +kernel) rfl) (zin 635 (by decide +kernel) rfl) (zin 25 (by decide +kernel) rfl) 17 (12 * t + j) (okC_17 (by omega)) (by simp only [adC_17] <;> omega) (fs := [iv 0, iv 0, .null, .null, iv 0, iv 0]) (fun j hj => by rcases (show j = 0 ∨ j = 1 ∨ j = 2 ∨ j = 3 ∨ j = 4 ∨ j = 5 by omega) with rfl | rfl | rfl | rfl | rfl | rfl <;> rfl) ⟨by show _ ≤ 51; omega, by show _ ≤ 252; omega⟩ dX5_init_75 ?_
              refine zb_dup hC dX5_init_78 rfl ?_
              refine zb_callN hC hA zlX5_32 (k_X7_init l D tc b (zse X 14 (t) (.inl (tc 5, 12, .inr (.inr (.inr (.inr (zpart (fun k => adC b 17 (12 * t + k)) (j)))))))) (12 * t + j) (b + (90 + 52 * t + 3 * j) + 1) (by omega) (by omega) (by exact ((zse_f (by decide)).trans ((hX _ (by decide) _)))) (by exact ((zse_f (by decide)).trans ((hX _ (by decide) _)))) (by exact ((zse_f (by decide)).trans ((hX _ (by decide) _))))) rfl rfl (Nat.le_of_ble_eq_true rfl) ⟨by decide, by decide⟩ ⟨by show _ ≤ 51; omega, by show _ ≤ 252; omega⟩ (by omega) dX5_init_79 ?_
              refine zb_aast hC (k := j) 5 (tysC_5 tc) (ci := 7) rfl (by decide) (by omega) (okC_14 (by omega)) (by simp only [adC_14] <;> omega) (zse_at _ _ _ _) (okC_17 (by omega)) (by simp only [adC_17] <;> omega) ((zse_f (by decide)).trans ((hX _ (by decide) _))) dX5_init_82 ?_
              refine zb_conv (S2 := (zse X 14 (t) (.inl (tc 5, 12, .inr (.inr (.inr (.inr (zpart (fun k => adC b 17 (12 * t + k)) (j + 1))))))))) ?_ rfl (by rw [zse_twice]; exact congrArg (fun z => zse X 14 (t) (.inl (tc 5, 12, .inr (.inr (.inr (.inr z)))))) (zpart_s (fun k => adC b 17 (12 * t + k)) j)) rfl rfl
              refine zb_iinc hC 2 (L' := [(2, iv (((j : Nat) : Int) + 1)), (0, .ref (adC b 12 (t))), (1, .ref (adC b 1 (0)))]) dX5_init_83 rfl (by decide) rfl ?_
              refine zb_goto hC 64 dX5_init_86 (by decide) ?_
              refine zb_perm [1, 2, 0] (L' := [(0, .ref (adC b 12 (t))), (1, .ref (adC b 1 (0))), (2, iv (((j : Nat) : Int) + 1))]) rfl ?_
              refine zb_widen (k := 15 + 3 * (j + 1)) (n := 108 + 12 * (j + 1)) (by omega) (by omega) ?_
              exact zb_conv (ih64 _ (by omega) (j + 1) (by omega) rfl) (by omega) rfl rfl rfl
        refine zb_perm [1, 2, 0] (L' := [(0, .ref (adC b 12 (t))), (1, .ref (adC b 1 (0))), (2, iv 0)]) rfl ?_
        refine zb_widen (k := 15 + 3 * 0) (n := 108 + 12 * 0) (by omega) (by omega) ?_
        exact zb_conv (hc64 _ 0 (by omega) rfl) (by omega) (by rw [zpart_0]) rfl rfl
      · skip
        refine zb_aload_n hC 0 rfl dX5_init_43 rfl ?_
        refine zb_get hC zfX5_11 (fs := [.ref (adC b 1 (0)), .ref (adC b 13 (t)), .ref (adC b 14 (t)), .ref (adC b 15 (t)), iv 0, iv 0]) (v := .ref (adC b 13 (t))) (okC_12 (by omega)) (by simp only [adC_12] <;> omega) ((zse_f (by decide)).trans ((zse_f (by decide)).trans ((hX _ (by decide) _)))) rfl dX5_init_44 ?_
        refine zb_iload_n hC 2 rfl dX5_init_47 rfl ?_
        refine zb_new hC (ci := 6) rfl zwX6 tyX6 tyX6_ok (zin 598 (by decide +kernel) rfl) (zin 602 (by decide +kernel) rfl) (zin 24 (by decide +kernel) rfl) 16 (12 * t + j) (okC_16 (by omega)) (by simp only [adC_16] <;> omega) (fs := [iv 0, iv 0, iv 0, iv 0, iv 0, iv 0]) (fun j hj => by rcases (show j = 0 ∨ j = 1 ∨ j = 2 ∨ j = 3 ∨ j = 4 ∨ j = 5 by omega) with rfl | rfl | rfl | rfl | rfl | rfl <;> rfl) ⟨by show _ ≤ 51; omega, by show _ ≤ 252; omega⟩ dX5_init_48 ?_
        refine zb_dup hC dX5_init_51 rfl ?_
        refine zb_call hC hA zlX5_31 (k_X6_init l D tc b (zse (zse X 14 (t) (.inl (tc 5, 12, .inr (.inr (.inr (.inr (fun _ => none))))))) 13 (t) (.inl (tc 4, 12, .inr (.inr (.inr (.inr (zpart (fun k => adC b 16 (12 * t + k)) (j)))))))) (12 * t + j) (b + (78 + 52 * t + j) + 1) (by omega) (by omega) (by omega) (by exact ((zse_f (by decide)).trans ((zse_f (by decide)).trans ((hX _ (by decide) _)))))) rfl rfl (Nat.le_of_ble_eq_true rfl) ⟨by decide, by decide⟩ ⟨by show _ ≤ 51; omega, by show _ ≤ 252; omega⟩ (by omega) dX5_init_52 ?_
        refine zb_aast hC (k := j) 4 (tysC_4 tc) (ci := 6) rfl (by decide) (by omega) (okC_13 (by omega)) (by simp only [adC_13] <;> omega) (zse_at _ _ _ _) (okC_16 (by omega)) (by simp only [adC_16] <;> omega) ((zse_f (by decide)).trans ((zse_f (by decide)).trans ((hX _ (by decide) _)))) dX5_init_55 ?_
        refine zb_conv (S2 := (zse (zse X 14 (t) (.inl (tc 5, 12, .inr (.inr (.inr (.inr (fun _ => none))))))) 13 (t) (.inl (tc 4, 12, .inr (.inr (.inr (.inr (zpart (fun k => adC b 16 (12 * t + k)) (j + 1))))))))) ?_ rfl (by rw [zse_twice]; exact congrArg (fun z => zse (zse X 14 (t) (.inl (tc 5, 12, .inr (.inr (.inr (.inr (fun _ => none))))))) 13 (t) (.inl (tc 4, 12, .inr (.inr (.inr (.inr z)))))) (zpart_s (fun k => adC b 16 (12 * t + k)) j)) rfl rfl
        refine zb_iinc hC 2 (L' := [(2, iv (((j : Nat) : Int) + 1)), (0, .ref (adC b 12 (t))), (1, .ref (adC b 1 (0)))]) dX5_init_56 rfl (by decide) rfl ?_
        refine zb_goto hC 37 dX5_init_59 (by decide) ?_
        refine zb_perm [1, 2, 0] (L' := [(0, .ref (adC b 12 (t))), (1, .ref (adC b 1 (0))), (2, iv (((j : Nat) : Int) + 1))]) rfl ?_
        refine zb_widen (k := 3 + (j + 1)) (n := 36 + 6 * (j + 1)) (by omega) (by omega) ?_
        exact zb_conv (ih37 _ (by omega) (j + 1) (by omega) rfl) (by omega) rfl rfl rfl
  refine zb_perm [1, 2, 0] (L' := [(0, .ref (adC b 12 (t))), (1, .ref (adC b 1 (0))), (2, iv 0)]) rfl ?_
  refine zb_widen (k := 3 + 0) (n := 36 + 6 * 0) (by omega) (by omega) ?_
  exact zb_conv (hc37 _ 0 (by omega) rfl) (by omega) (by rw [zse_comm (show (13 : Nat) ≠ 14 by decide), zpart_0]) rfl rfl
set_option maxHeartbeats 4000000 in
set_option maxRecDepth 100000 in
theorem k_X8_init (l : Launch) (D : va_G) (tc : Nat → ClassId) (b : Nat)  : zMk l yX8_init cX8_init 1 4 D (tysC tc) (adC b) okC b [.ref (adC b 0 (0))] (b + 1) (zse (SFC tc b) 0 (0) (.inr (8, [.null, .null, .null, .null]))) (b + 181) (SFC tc b) 180 933 := by
  refine zb_met (zI_adC b) (fun f i _ => adC_ge b f i) (by omega) (plainFor_of_name (by decide)) (Nat.le_of_ble_eq_true rfl) ?_
  intro p e s m args below meth c hC hret hlk hmn hA
  have hmn : meth.name = "<init>" := hmn
  refine zb_conv (L2 := [(0, .ref (adC b 0 (0)))]) ?_ rfl rfl rfl rfl
  refine zb_aload_n hC 0 rfl dX8_init_0 rfl ?_
  refine zb_obj hC (zin 451 (by decide +kernel) rfl) (Nat.le_of_ble_eq_true rfl) ⟨by decide, by decide⟩ dX8_init_1 ?_
  refine zb_aload_n hC 0 rfl dX8_init_4 rfl ?_
  refine zb_new hC (ci := 0) rfl zwX0 tyX0 tyX0_ok (zin 452 (by decide +kernel) rfl) (zin 453 (by decide +kernel) rfl) (zin 18 (by decide +kernel) rfl) 1 (0) (okC_1 (by omega)) (by simp only [adC_1] <;> omega) (fs := [.null, .null, .null, .null, iv 0, iv 0, iv 0]) (fun j hj => by rcases (show j = 0 ∨ j = 1 ∨ j = 2 ∨ j = 3 ∨ j = 4 ∨ j = 5 ∨ j = 6 by omega) with rfl | rfl | rfl | rfl | rfl | rfl | rfl <;> rfl) ⟨by decide, by decide⟩ dX8_init_5 ?_
  refine zb_dup hC dX8_init_8 rfl ?_
  refine zb_call hC hA zlX8_9 (k_X0_init l D tc b (zse (SFC tc b) 0 (0) (.inr (8, [.null, .null, .null, .null]))) (b + 1 + 1) (by omega) (fun f h i => zse_f h)) rfl rfl (Nat.le_of_ble_eq_true rfl) ⟨by decide, by decide⟩ ⟨by decide, by decide⟩ (by omega) dX8_init_9 ?_
  refine zb_putF hC hmn zhX8_10 (fs := [.null, .null, .null, .null]) (okC_0 (by omega)) (by simp only [adC_0] <;> omega) (zse_at _ _ _ _) (Nat.le_of_ble_eq_true rfl) dX8_init_12 ?_
  refine zb_conv (S2 := (zse (SFC tc b) 0 (0) (.inr (8, [.ref (adC b 1 (0)), .null, .null, .null])))) ?_ rfl (zse_twice _ _ _ _ _) rfl rfl
  refine zb_aload_n hC 0 rfl dX8_init_15 rfl ?_
  refine zb_new hC (ci := 5) rfl zwX5 tyX5 tyX5_ok (zin 593 (by decide +kernel) rfl) (zin 307 (by decide +kernel) rfl) (zin 23 (by decide +kernel) rfl) 12 (0) (okC_12 (by omega)) (by simp only [adC_12] <;> omega) (fs := [.null, .null, .null, .null, iv 0, iv 0]) (fun j hj => by rcases (show j = 0 ∨ j = 1 ∨ j = 2 ∨ j = 3 ∨ j = 4 ∨ j = 5 by omega) with rfl | rfl | rfl | rfl | rfl | rfl <;> rfl) ⟨by decide, by decide⟩ dX8_init_16 ?_
  refine zb_dup hC dX8_init_19 rfl ?_
  refine zb_aload_n hC 0 rfl dX8_init_20 rfl ?_
  refine zb_get hC zfX8_10 (fs := [.ref (adC b 1 (0)), .null, .null, .null]) (v := .ref (adC b 1 (0))) (okC_0 (by omega)) (by simp only [adC_0] <;> omega) ((zse_f (by decide)).trans ((zse_at _ _ _ _))) rfl dX8_init_21 ?_
  refine zb_call hC hA zlX8_18 (k_X5_init l D tc b (zse (SFC tc b) 0 (0) (.inr (8, [.ref (adC b 1 (0)), .null, .null, .null]))) 0 (b + 74 + 1) (by omega) (by omega) (fun f h i => zse_f h)) rfl rfl (Nat.le_of_ble_eq_true rfl) ⟨by decide, by decide⟩ ⟨by decide, by decide⟩ (by omega) dX8_init_24 ?_
  refine zb_putF hC hmn zhX8_21 (fs := [.ref (adC b 1 (0)), .null, .null, .null]) (okC_0 (by omega)) (by simp only [adC_0] <;> omega) (zse_at _ _ _ _) (Nat.le_of_ble_eq_true rfl) dX8_init_27 ?_
  refine zb_conv (S2 := (zse (SFC tc b) 0 (0) (.inr (8, [.ref (adC b 1 (0)), .ref (adC b 12 (0)), .null, .null])))) ?_ rfl (zse_twice _ _ _ _ _) rfl rfl
  refine zb_aload_n hC 0 rfl dX8_init_30 rfl ?_
  refine zb_new hC (ci := 5) rfl zwX5 tyX5 tyX5_ok (zin 593 (by decide +kernel) rfl) (zin 307 (by decide +kernel) rfl) (zin 23 (by decide +kernel) rfl) 12 (1) (okC_12 (by omega)) (by simp only [adC_12] <;> omega) (fs := [.null, .null, .null, .null, iv 0, iv 0]) (fun j hj => by rcases (show j = 0 ∨ j = 1 ∨ j = 2 ∨ j = 3 ∨ j = 4 ∨ j = 5 by omega) with rfl | rfl | rfl | rfl | rfl | rfl <;> rfl) ⟨by decide, by decide⟩ dX8_init_31 ?_
  refine zb_dup hC dX8_init_34 rfl ?_
  refine zb_aload_n hC 0 rfl dX8_init_35 rfl ?_
  refine zb_get hC zfX8_10 (fs := [.ref (adC b 1 (0)), .ref (adC b 12 (0)), .null, .null]) (v := .ref (adC b 1 (0))) (okC_0 (by omega)) (by simp only [adC_0] <;> omega) ((zse_f (by decide)).trans ((zse_at _ _ _ _))) rfl dX8_init_36 ?_
  refine zb_call hC hA zlX8_18 (k_X5_init l D tc b (zse (SFC tc b) 0 (0) (.inr (8, [.ref (adC b 1 (0)), .ref (adC b 12 (0)), .null, .null]))) 1 (b + (126 + 52 * 0) + 1) (by omega) (by omega) (fun f h i => zse_f h)) rfl rfl (Nat.le_of_ble_eq_true rfl) ⟨by decide, by decide⟩ ⟨by decide, by decide⟩ (by omega) dX8_init_39 ?_
  refine zb_putF hC hmn zhX8_25 (fs := [.ref (adC b 1 (0)), .ref (adC b 12 (0)), .null, .null]) (okC_0 (by omega)) (by simp only [adC_0] <;> omega) (zse_at _ _ _ _) (Nat.le_of_ble_eq_true rfl) dX8_init_42 ?_
  refine zb_conv (S2 := (zse (SFC tc b) 0 (0) (.inr (8, [.ref (adC b 1 (0)), .ref (adC b 12 (0)), .ref (adC b 12 (1)), .null])))) ?_ rfl (zse_twice _ _ _ _ _) rfl rfl
  refine zb_aload_n hC 0 rfl dX8_init_45 rfl ?_
  refine zb_new hC (ci := 4) rfl zwX4 tyX4 tyX4_ok (zin 690 (by decide +kernel) rfl) (zin 238 (by decide +kernel) rfl) (zin 22 (by decide +kernel) rfl) 9 (12) (okC_9 (by omega)) (by simp only [adC_9] <;> omega) (fs := [.null, .null]) (fun j hj => by rcases (show j = 0 ∨ j = 1 by omega) with rfl | rfl <;> rfl) ⟨by decide, by decide⟩ dX8_init_46 ?_
  refine zb_dup hC dX8_init_49 rfl ?_
  refine zb_callN hC hA zlX8_30 (k_X4_init l D tc b (zse (SFC tc b) 0 (0) (.inr (8, [.ref (adC b 1 (0)), .ref (adC b 12 (0)), .ref (adC b 12 (1)), .null]))) (12) (b + (126 + 52 * 1) + 1) (by omega) (by omega) (by exact ((zse_f (by decide)).trans ((show SFC tc b 9 (12) = (.inr (4, [.ref (adC b 10 (12)), .ref (adC b 11 (12))])) from rfl)))) (by exact ((zse_f (by decide)).trans ((show SFC tc b 10 (12) = (.inl (tc 0, 8, .inl (fun _ => 0))) from rfl)))) (by exact ((zse_f (by decide)).trans ((show SFC tc b 11 (12) = (.inl (tc 0, 8, .inl (fun _ => 0))) from rfl))))) rfl rfl (Nat.le_of_ble_eq_true rfl) ⟨by decide, by decide⟩ ⟨by decide, by decide⟩ (by omega) dX8_init_50 ?_
  refine zb_putF hC hmn zhX8_31 (fs := [.ref (adC b 1 (0)), .ref (adC b 12 (0)), .ref (adC b 12 (1)), .null]) (okC_0 (by omega)) (by simp only [adC_0] <;> omega) (zse_at _ _ _ _) (Nat.le_of_ble_eq_true rfl) dX8_init_53 ?_
  refine zb_conv (S2 := (zse (SFC tc b) 0 (0) (.inr (8, [.ref (adC b 1 (0)), .ref (adC b 12 (0)), .ref (adC b 12 (1)), .ref (adC b 9 (12))])))) ?_ rfl (zse_twice _ _ _ _ _) rfl rfl
  refine zb_conv (S2 := (SFC tc b)) ?_ rfl (zse_self (by exact ((show SFC tc b 0 (0) = (.inr (8, [.ref (adC b 1 (0)), .ref (adC b 12 (0)), .ref (adC b 12 (1)), .ref (adC b 9 (12))])) from rfl)))) rfl rfl
  exact zb_ret hC hret hlk ⟨by decide, by decide⟩ (by omega) (fun _ _ _ _ => rfl) dX8_init_56
