set_option maxHeartbeats 4000000 in
set_option maxRecDepth 100000 in
theorem w_build (l : Launch) (hlt : l.stackTraces = false) (D : va_G) (tc : Nat → ClassId) (tL : ClassId) (ad : Nat → Nat → Nat) (hI : zI ad okC) (o : Nat) (hoC : ∀ f i, okC f i → ad f i ≠ o) (M : zM) {T U : Int} (x y q : Int) (hW : WTC T U M) (hx : -2147483648 ≤ x ∧ x < 2147483648) (hy : -2147483648 ≤ y ∧ y < 2147483648) (hq : -2147483648 ≤ q ∧ q < 2147483648) : zWm l yL_build cL_build 6 [(0, 12, 15, 13), (0, 12, 19, 15)] 7 D tc tL ad o [.ref (ad 0 0), iv x, iv y, iv q] M (kBuild M x y q) (wcd 1 2 0 (kBuild M x y q)) (M 1 0 4) (addPlatformC M x y q) := by
  intro sz v
  refine z_ofWH (cc := cL_build) (maxL := 6) (ret := some .int) (plainFor_of_name (by decide)) rfl ?_
  intro p e s m args below meth c s₁ B hml htab hv
  obtain ⟨rfl, hsz, hw90, ho90, hKW, hN90, hX90, hNc⟩ := hv
  subst hsz
  have hts9 := atoms_spec B.pre
  have hown : s.vm.findClass "ZipCanopyLaw" = some m.cls := findClass_of_methodNamed B.named
  have hts : ∀ x ∈ zbig, x.before _ s = true := fun x h => hts9 x (List.mem_cons_of_mem _ h)
  have hC : zC p s m _ c D (tysC tc) ad okC (zWF ad o s.heap.size) s.heap cL_build 6 "ZipCanopyLaw" := ⟨⟨B.exec, B.bytes, hml, hown, hts⟩, tysW_C hKW, hI, fun f i h => Or.inl ⟨f, i, h, rfl⟩, fun q h => Or.inr (Or.inr h), hN90⟩
  have hkb : (kBuild M x y q) ≤ 3 ∧ (kBuild M x y q) ≠ 3 := by unfold kBuild; (repeat' split) <;> simp
  rw [lg_entry_eq]
  have hl90 := lv_entry ([.ref (ad 0 0), iv x, iv y, iv q] ++ [.ref o]) (n := 6) (Nat.le_of_ble_eq_true rfl)
  generalize (lg_sl ([.ref (ad 0 0), iv x, iv y, iv q] ++ [.ref o]) ++ List.replicate (6 - (lg_sl ([.ref (ad 0 0), iv x, iv y, iv q] ++ [.ref o])).length) Slot.unset).toArray = ls at hl90 ⊢
  have hl90 : lv_has ls 6 [(0, .ref (ad 0 0)), (1, iv x), (2, iv y), (3, iv q), (4, .ref o)] := hl90
  refine lv_aload B.exec B.bytes dL_build_0 (lv_at hl90 4 rfl) ?_
  refine lv_iconst B.exec B.bytes dL_build_2 rfl ?_
  refine lv_aload_n B.exec B.bytes dL_build_3 rfl (lv_at hl90 0 rfl) ?_
  refine lv_iload_n B.exec B.bytes dL_build_4 rfl (lv_at hl90 1 rfl) ?_
  refine lv_iload_n B.exec B.bytes dL_build_5 rfl (lv_at hl90 2 rfl) ?_
  refine lv_iload_n B.exec B.bytes dL_build_6 rfl (lv_at hl90 3 rfl) ?_
  have hcat : (kBuild M x y q) ≠ 0 → zCat s ([.ref (ad 0 0), iv x, iv y, iv q] ++ [.ref o] : List Value).toArray c "ZipCanopyLaw" 7 (zEx (kBuild M x y q)) (if (kBuild M x y q) = 1 then 15 else if (kBuild M x y q) = 2 then 19 else 0) := by
    intro hk0
    have htab : c.exceptionTable.toList = [⟨0, 12, 15, 13⟩, ⟨0, 12, 19, 15⟩] := htab
    generalize (kBuild M x y q) = k9 at hkb hk0 ⊢
    rcases (show k9 = 1 ∨ k9 = 2 by omega) with rfl | rfl
    · exact ⟨[], ⟨0, 12, 15, 13⟩, [⟨0, 12, 19, 15⟩], "java/lang/IllegalArgumentException", htab, (fun z hz => by cases hz), by decide, by decide, hts _ (zin 412 (by decide +kernel) rfl), znl_use hN90 _ (znin 421 (by decide +kernel) rfl), rfl⟩
    · exact ⟨[⟨0, 12, 15, 13⟩], ⟨0, 12, 19, 15⟩, [], "java/lang/IllegalStateException", htab, (fun z hz => by
        rcases List.mem_cons.mp hz with rfl | hz
        · exact Or.inr ⟨by decide, "java/lang/IllegalArgumentException", hts _ (zin 412 (by decide +kernel) rfl), hNc 2 1 (by decide) (by decide) (by decide) (by decide) (by decide)⟩
        · cases hz), by decide, by decide, hts _ (zin 413 (by decide +kernel) rfl), znl_use hN90 _ (znin 493 (by decide +kernel) rfl), rfl⟩
  refine zw_call (As := [iv x, iv y, iv q]) (rest := [iv 0, .ref o]) hC hX90 zlL_7 (tmC_0 ad tc _) rfl (k_X8_build l hlt D tc ad hI M x y q hW hx hy hq) rfl (Nat.le_of_ble_eq_true rfl) ⟨by decide, by decide⟩ ⟨by decide, by decide⟩ dL_build_7 hw90 hl90.1 hcat ?_ ?_
  · intro hk H1 locs1 hw1 hkeep hS1
    exact zw_end0 hC hKW B.returns B.notSynchronized hw1 ho90 hoC hkeep hS1 hk (by rw [hk]; rfl) 23 dL_build_10 dL_build_11 dL_build_12 (by decide) dL_build_23 dL_build_24
  · intro hk H1 locs1 q99 hw1 hkeep hS1
    rcases (show (kBuild M x y q) = 1 ∨ (kBuild M x y q) = 2 by omega) with hk9 | hk9
    · rw [show (if (kBuild M x y q) = 1 then 15 else if (kBuild M x y q) = 2 then 19 else 0) = 15 by rw [hk9]; rfl]
      exact zw_endx hC B.returns B.notSynchronized hw1 ho90 hoC hkeep hS1 hk hl90 (i := 5) (n9 := 1) (by rw [hk9]; rfl) (by rfl) (by decide) (fun h => lv_astore B.exec B.bytes dL_build_15 hl90 (by decide) rfl (fun ls2 _ => h ls2)) dL_build_17 dL_build_18
    · rw [show (if (kBuild M x y q) = 1 then 15 else if (kBuild M x y q) = 2 then 19 else 0) = 19 by rw [hk9]; rfl]
      exact zw_endx hC B.returns B.notSynchronized hw1 ho90 hoC hkeep hS1 hk hl90 (i := 5) (n9 := 2) (by rw [hk9]; rfl) (by rfl) (by decide) (fun h => lv_astore B.exec B.bytes dL_build_19 hl90 (by decide) rfl (fun ls2 _ => h ls2)) dL_build_21 dL_build_22
set_option maxHeartbeats 4000000 in
set_option maxRecDepth 100000 in
theorem w_span (l : Launch) (hlt : l.stackTraces = false) (D : va_G) (tc : Nat → ClassId) (tL : ClassId) (ad : Nat → Nat → Nat) (hI : zI ad okC) (o : Nat) (hoC : ∀ f i, okC f i → ad f i ≠ o) (M : zM) {T U : Int} (t b mo tr : Int) (hW : WTC T U M) (ht : -2147483648 ≤ t ∧ t < 2147483648) (hb : -2147483648 ≤ b ∧ b < 2147483648) (hmo : -2147483648 ≤ mo ∧ mo < 2147483648) (htr : -2147483648 ≤ tr ∧ tr < 2147483648) : zWm l yL_span cL_span 7 [(0, 14, 17, 21), (0, 14, 21, 13), (0, 14, 25, 15)] 7 D tc tL ad o [.ref (ad 0 0), iv t, iv b, iv mo, iv tr] M (kSpan M t b mo tr) (wcd 3 1 2 (kSpan M t b mo tr)) (M 1 0 5) (addTC (addLineC M t b mo) 0 (M 1 0 5) tr) := by
  intro sz v
  refine z_ofWH (cc := cL_span) (maxL := 7) (ret := some .int) (plainFor_of_name (by decide)) rfl ?_
  intro p e s m args below meth c s₁ B hml htab hv
  obtain ⟨rfl, hsz, hw90, ho90, hKW, hN90, hX90, hNc⟩ := hv
  subst hsz
  have hts9 := atoms_spec B.pre
  have hown : s.vm.findClass "ZipCanopyLaw" = some m.cls := findClass_of_methodNamed B.named
  have hts : ∀ x ∈ zbig, x.before _ s = true := fun x h => hts9 x (List.mem_cons_of_mem _ h)
  have hC : zC p s m _ c D (tysC tc) ad okC (zWF ad o s.heap.size) s.heap cL_span 7 "ZipCanopyLaw" := ⟨⟨B.exec, B.bytes, hml, hown, hts⟩, tysW_C hKW, hI, fun f i h => Or.inl ⟨f, i, h, rfl⟩, fun q h => Or.inr (Or.inr h), hN90⟩
  have hkb : (kSpan M t b mo tr) ≤ 3 := by unfold kSpan; (repeat' split) <;> simp
  rw [lg_entry_eq]
  have hl90 := lv_entry ([.ref (ad 0 0), iv t, iv b, iv mo, iv tr] ++ [.ref o]) (n := 7) (Nat.le_of_ble_eq_true rfl)
  generalize (lg_sl ([.ref (ad 0 0), iv t, iv b, iv mo, iv tr] ++ [.ref o]) ++ List.replicate (7 - (lg_sl ([.ref (ad 0 0), iv t, iv b, iv mo, iv tr] ++ [.ref o])).length) Slot.unset).toArray = ls at hl90 ⊢
  have hl90 : lv_has ls 7 [(0, .ref (ad 0 0)), (1, iv t), (2, iv b), (3, iv mo), (4, iv tr), (5, .ref o)] := hl90
  refine lv_aload B.exec B.bytes dL_span_0 (lv_at hl90 5 rfl) ?_
  refine lv_iconst B.exec B.bytes dL_span_2 rfl ?_
  refine lv_aload_n B.exec B.bytes dL_span_3 rfl (lv_at hl90 0 rfl) ?_
  refine lv_iload_n B.exec B.bytes dL_span_4 rfl (lv_at hl90 1 rfl) ?_
  refine lv_iload_n B.exec B.bytes dL_span_5 rfl (lv_at hl90 2 rfl) ?_
  refine lv_iload_n B.exec B.bytes dL_span_6 rfl (lv_at hl90 3 rfl) ?_
  refine lv_iload B.exec B.bytes dL_span_7 (lv_at hl90 4 rfl) ?_
  have hcat : (kSpan M t b mo tr) ≠ 0 → zCat s ([.ref (ad 0 0), iv t, iv b, iv mo, iv tr] ++ [.ref o] : List Value).toArray c "ZipCanopyLaw" 9 (zEx (kSpan M t b mo tr)) (if (kSpan M t b mo tr) = 3 then 17 else if (kSpan M t b mo tr) = 1 then 21 else if (kSpan M t b mo tr) = 2 then 25 else 0) := by
    intro hk0
    have htab : c.exceptionTable.toList = [⟨0, 14, 17, 21⟩, ⟨0, 14, 21, 13⟩, ⟨0, 14, 25, 15⟩] := htab
    generalize (kSpan M t b mo tr) = k9 at hkb hk0 ⊢
    rcases (show k9 = 3 ∨ k9 = 1 ∨ k9 = 2 by omega) with rfl | rfl | rfl
    · exact ⟨[], ⟨0, 14, 17, 21⟩, [⟨0, 14, 21, 13⟩, ⟨0, 14, 25, 15⟩], "java/lang/IndexOutOfBoundsException", htab, (fun z hz => by cases hz), by decide, by decide, hts _ (zin 514 (by decide +kernel) rfl), znl_use hN90 _ (znin 525 (by decide +kernel) rfl), rfl⟩
    · exact ⟨[⟨0, 14, 17, 21⟩], ⟨0, 14, 21, 13⟩, [⟨0, 14, 25, 15⟩], "java/lang/IllegalArgumentException", htab, (fun z hz => by
        rcases List.mem_cons.mp hz with rfl | hz
        · exact Or.inr ⟨by decide, "java/lang/IndexOutOfBoundsException", hts _ (zin 514 (by decide +kernel) rfl), hNc 1 3 (by decide) (by decide) (by decide) (by decide) (by decide)⟩
        · cases hz), by decide, by decide, hts _ (zin 412 (by decide +kernel) rfl), znl_use hN90 _ (znin 421 (by decide +kernel) rfl), rfl⟩
    · exact ⟨[⟨0, 14, 17, 21⟩, ⟨0, 14, 21, 13⟩], ⟨0, 14, 25, 15⟩, [], "java/lang/IllegalStateException", htab, (fun z hz => by
        rcases List.mem_cons.mp hz with rfl | hz
        · exact Or.inr ⟨by decide, "java/lang/IndexOutOfBoundsException", hts _ (zin 514 (by decide +kernel) rfl), hNc 2 3 (by decide) (by decide) (by decide) (by decide) (by decide)⟩
        · rcases List.mem_cons.mp hz with rfl | hz
          · exact Or.inr ⟨by decide, "java/lang/IllegalArgumentException", hts _ (zin 412 (by decide +kernel) rfl), hNc 2 1 (by decide) (by decide) (by decide) (by decide) (by decide)⟩
          · cases hz), by decide, by decide, hts _ (zin 413 (by decide +kernel) rfl), znl_use hN90 _ (znin 493 (by decide +kernel) rfl), rfl⟩
  refine zw_call (As := [iv t, iv b, iv mo, iv tr]) (rest := [iv 0, .ref o]) hC hX90 zlL_17 (tmC_0 ad tc _) rfl (k_X8_span l hlt D tc ad hI M t b mo tr hW ht hb hmo htr) rfl (Nat.le_of_ble_eq_true rfl) ⟨by decide, by decide⟩ ⟨by decide, by decide⟩ dL_span_9 hw90 hl90.1 hcat ?_ ?_
  · intro hk H1 locs1 hw1 hkeep hS1
    exact zw_end0 hC hKW B.returns B.notSynchronized hw1 ho90 hoC hkeep hS1 hk (by rw [hk]; rfl) 29 dL_span_12 dL_span_13 dL_span_14 (by decide) dL_span_29 dL_span_30
  · intro hk H1 locs1 q99 hw1 hkeep hS1
    rcases (show (kSpan M t b mo tr) = 3 ∨ (kSpan M t b mo tr) = 1 ∨ (kSpan M t b mo tr) = 2 by omega) with hk9 | hk9 | hk9
    · rw [show (if (kSpan M t b mo tr) = 3 then 17 else if (kSpan M t b mo tr) = 1 then 21 else if (kSpan M t b mo tr) = 2 then 25 else 0) = 17 by rw [hk9]; rfl]
      exact zw_endx hC B.returns B.notSynchronized hw1 ho90 hoC hkeep hS1 hk hl90 (i := 6) (n9 := 1) (by rw [hk9]; rfl) (by rfl) (by decide) (fun h => lv_astore B.exec B.bytes dL_span_17 hl90 (by decide) rfl (fun ls2 _ => h ls2)) dL_span_19 dL_span_20
    · rw [show (if (kSpan M t b mo tr) = 3 then 17 else if (kSpan M t b mo tr) = 1 then 21 else if (kSpan M t b mo tr) = 2 then 25 else 0) = 21 by rw [hk9]; rfl]
      exact zw_endx hC B.returns B.notSynchronized hw1 ho90 hoC hkeep hS1 hk hl90 (i := 6) (n9 := 2) (by rw [hk9]; rfl) (by rfl) (by decide) (fun h => lv_astore B.exec B.bytes dL_span_21 hl90 (by decide) rfl (fun ls2 _ => h ls2)) dL_span_23 dL_span_24
    · rw [show (if (kSpan M t b mo tr) = 3 then 17 else if (kSpan M t b mo tr) = 1 then 21 else if (kSpan M t b mo tr) = 2 then 25 else 0) = 25 by rw [hk9]; rfl]
      exact zw_endx hC B.returns B.notSynchronized hw1 ho90 hoC hkeep hS1 hk hl90 (i := 6) (n9 := 3) (by rw [hk9]; rfl) (by rfl) (by decide) (fun h => lv_astore B.exec B.bytes dL_span_25 hl90 (by decide) rfl (fun ls2 _ => h ls2)) dL_span_27 dL_span_28
set_option maxHeartbeats 4000000 in
set_option maxRecDepth 100000 in
theorem w_add (l : Launch) (hlt : l.stackTraces = false) (D : va_G) (tc : Nat → ClassId) (tL : ClassId) (ad : Nat → Nat → Nat) (hI : zI ad okC) (o : Nat) (hoC : ∀ f i, okC f i → ad f i ≠ o) (M : zM) {T U : Int} (n : Int) (hW : WTC T U M) (hn : -2147483648 ≤ n ∧ n < 2147483648) : zWm l yL_add cL_add 4 [(0, 9, 12, 21), (0, 9, 15, 15)] 7 D tc tL ad o [.ref (ad 0 0), iv n] M (kAdd M n) (wcd 3 2 0 (kAdd M n)) ((addTC M 0 n 1) 17 (12 * 0 + n.toNat) 0 + (addTC M 0 n 1) 17 (12 * 0 + n.toNat) 1) (addTC M 0 n 1) := by
  intro sz v
  refine z_ofWH (cc := cL_add) (maxL := 4) (ret := some .int) (plainFor_of_name (by decide)) rfl ?_
  intro p e s m args below meth c s₁ B hml htab hv
  obtain ⟨rfl, hsz, hw90, ho90, hKW, hN90, hX90, hNc⟩ := hv
  subst hsz
  have hts9 := atoms_spec B.pre
  have hown : s.vm.findClass "ZipCanopyLaw" = some m.cls := findClass_of_methodNamed B.named
  have hts : ∀ x ∈ zbig, x.before _ s = true := fun x h => hts9 x (List.mem_cons_of_mem _ h)
  have hC : zC p s m _ c D (tysC tc) ad okC (zWF ad o s.heap.size) s.heap cL_add 4 "ZipCanopyLaw" := ⟨⟨B.exec, B.bytes, hml, hown, hts⟩, tysW_C hKW, hI, fun f i h => Or.inl ⟨f, i, h, rfl⟩, fun q h => Or.inr (Or.inr h), hN90⟩
  have hkb : (kAdd M n) ≤ 3 ∧ (kAdd M n) ≠ 1 := by unfold kAdd; (repeat' split) <;> simp
  rw [lg_entry_eq]
  have hl90 := lv_entry ([.ref (ad 0 0), iv n] ++ [.ref o]) (n := 4) (Nat.le_of_ble_eq_true rfl)
  generalize (lg_sl ([.ref (ad 0 0), iv n] ++ [.ref o]) ++ List.replicate (4 - (lg_sl ([.ref (ad 0 0), iv n] ++ [.ref o])).length) Slot.unset).toArray = ls at hl90 ⊢
  have hl90 : lv_has ls 4 [(0, .ref (ad 0 0)), (1, iv n), (2, .ref o)] := hl90
  refine lv_aload_n B.exec B.bytes dL_add_0 rfl (lv_at hl90 2 rfl) ?_
  refine lv_iconst B.exec B.bytes dL_add_1 rfl ?_
  refine lv_aload_n B.exec B.bytes dL_add_2 rfl (lv_at hl90 0 rfl) ?_
  refine lv_iload_n B.exec B.bytes dL_add_3 rfl (lv_at hl90 1 rfl) ?_
  have hcat : (kAdd M n) ≠ 0 → zCat s ([.ref (ad 0 0), iv n] ++ [.ref o] : List Value).toArray c "ZipCanopyLaw" 4 (zEx (kAdd M n)) (if (kAdd M n) = 3 then 12 else if (kAdd M n) = 2 then 15 else 0) := by
    intro hk0
    have htab : c.exceptionTable.toList = [⟨0, 9, 12, 21⟩, ⟨0, 9, 15, 15⟩] := htab
    generalize (kAdd M n) = k9 at hkb hk0 ⊢
    rcases (show k9 = 3 ∨ k9 = 2 by omega) with rfl | rfl
    · exact ⟨[], ⟨0, 9, 12, 21⟩, [⟨0, 9, 15, 15⟩], "java/lang/IndexOutOfBoundsException", htab, (fun z hz => by cases hz), by decide, by decide, hts _ (zin 514 (by decide +kernel) rfl), znl_use hN90 _ (znin 525 (by decide +kernel) rfl), rfl⟩
    · exact ⟨[⟨0, 9, 12, 21⟩], ⟨0, 9, 15, 15⟩, [], "java/lang/IllegalStateException", htab, (fun z hz => by
        rcases List.mem_cons.mp hz with rfl | hz
        · exact Or.inr ⟨by decide, "java/lang/IndexOutOfBoundsException", hts _ (zin 514 (by decide +kernel) rfl), hNc 2 3 (by decide) (by decide) (by decide) (by decide) (by decide)⟩
        · cases hz), by decide, by decide, hts _ (zin 413 (by decide +kernel) rfl), znl_use hN90 _ (znin 493 (by decide +kernel) rfl), rfl⟩
  refine zw_call (As := [iv n]) (rest := [iv 0, .ref o]) hC hX90 zlL_23 (tmC_0 ad tc _) rfl (k_X8_add l hlt D tc ad hI M n hW hn) rfl (Nat.le_of_ble_eq_true rfl) ⟨by decide, by decide⟩ ⟨by decide, by decide⟩ dL_add_4 hw90 hl90.1 hcat ?_ ?_
  · intro hk H1 locs1 hw1 hkeep hS1
    exact zw_end0 hC hKW B.returns B.notSynchronized hw1 ho90 hoC hkeep hS1 hk (by rw [hk]; rfl) 18 dL_add_7 dL_add_8 dL_add_9 (by decide) dL_add_18 dL_add_19
  · intro hk H1 locs1 q99 hw1 hkeep hS1
    rcases (show (kAdd M n) = 3 ∨ (kAdd M n) = 2 by omega) with hk9 | hk9
    · rw [show (if (kAdd M n) = 3 then 12 else if (kAdd M n) = 2 then 15 else 0) = 12 by rw [hk9]; rfl]
      exact zw_endx hC B.returns B.notSynchronized hw1 ho90 hoC hkeep hS1 hk hl90 (i := 3) (n9 := 1) (by rw [hk9]; rfl) (by rfl) (by decide) (fun h => lv_astore_n B.exec B.bytes dL_add_12 rfl hl90 (by decide) rfl (fun ls2 _ => h ls2)) dL_add_13 dL_add_14
    · rw [show (if (kAdd M n) = 3 then 12 else if (kAdd M n) = 2 then 15 else 0) = 15 by rw [hk9]; rfl]
      exact zw_endx hC B.returns B.notSynchronized hw1 ho90 hoC hkeep hS1 hk hl90 (i := 3) (n9 := 2) (by rw [hk9]; rfl) (by rfl) (by decide) (fun h => lv_astore_n B.exec B.bytes dL_add_15 rfl hl90 (by decide) rfl (fun ls2 _ => h ls2)) dL_add_16 dL_add_17
set_option maxHeartbeats 4000000 in
set_option maxRecDepth 100000 in
theorem w_setWind (l : Launch) (hlt : l.stackTraces = false) (D : va_G) (tc : Nat → ClassId) (tL : ClassId) (ad : Nat → Nat → Nat) (hI : zI ad okC) (o : Nat) (hoC : ∀ f i, okC f i → ad f i ≠ o) (M : zM) {T U : Int} (mi w : Int) (hW : WTC T U M) (hmi : -2147483648 ≤ mi ∧ mi < 2147483648) (hw : -2147483648 ≤ w ∧ w < 2147483648) : zWm l yL_setWind cL_setWind 5 [(0, 10, 13, 21), (0, 10, 17, 13)] 7 D tc tL ad o [.ref (ad 0 0), iv mi, iv w] M (kWind mi w) (wcd 3 1 0 (kWind mi w)) (M 5 0 mi.toNat) (zup M 5 0 mi.toNat w) := by
  intro sz v
  refine z_ofWH (cc := cL_setWind) (maxL := 5) (ret := some .int) (plainFor_of_name (by decide)) rfl ?_
  intro p e s m args below meth c s₁ B hml htab hv
  obtain ⟨rfl, hsz, hw90, ho90, hKW, hN90, hX90, hNc⟩ := hv
  subst hsz
  have hts9 := atoms_spec B.pre
  have hown : s.vm.findClass "ZipCanopyLaw" = some m.cls := findClass_of_methodNamed B.named
  have hts : ∀ x ∈ zbig, x.before _ s = true := fun x h => hts9 x (List.mem_cons_of_mem _ h)
  have hC : zC p s m _ c D (tysC tc) ad okC (zWF ad o s.heap.size) s.heap cL_setWind 5 "ZipCanopyLaw" := ⟨⟨B.exec, B.bytes, hml, hown, hts⟩, tysW_C hKW, hI, fun f i h => Or.inl ⟨f, i, h, rfl⟩, fun q h => Or.inr (Or.inr h), hN90⟩
  have hkb : (kWind mi w) ≤ 3 ∧ (kWind mi w) ≠ 2 := by unfold kWind; (repeat' split) <;> simp
  rw [lg_entry_eq]
  have hl90 := lv_entry ([.ref (ad 0 0), iv mi, iv w] ++ [.ref o]) (n := 5) (Nat.le_of_ble_eq_true rfl)
  generalize (lg_sl ([.ref (ad 0 0), iv mi, iv w] ++ [.ref o]) ++ List.replicate (5 - (lg_sl ([.ref (ad 0 0), iv mi, iv w] ++ [.ref o])).length) Slot.unset).toArray = ls at hl90 ⊢
  have hl90 : lv_has ls 5 [(0, .ref (ad 0 0)), (1, iv mi), (2, iv w), (3, .ref o)] := hl90
  refine lv_aload_n B.exec B.bytes dL_setWind_0 rfl (lv_at hl90 3 rfl) ?_
  refine lv_iconst B.exec B.bytes dL_setWind_1 rfl ?_
  refine lv_aload_n B.exec B.bytes dL_setWind_2 rfl (lv_at hl90 0 rfl) ?_
  refine lv_iload_n B.exec B.bytes dL_setWind_3 rfl (lv_at hl90 1 rfl) ?_
  refine lv_iload_n B.exec B.bytes dL_setWind_4 rfl (lv_at hl90 2 rfl) ?_
  have hcat : (kWind mi w) ≠ 0 → zCat s ([.ref (ad 0 0), iv mi, iv w] ++ [.ref o] : List Value).toArray c "ZipCanopyLaw" 5 (zEx (kWind mi w)) (if (kWind mi w) = 3 then 13 else if (kWind mi w) = 1 then 17 else 0) := by
    intro hk0
    have htab : c.exceptionTable.toList = [⟨0, 10, 13, 21⟩, ⟨0, 10, 17, 13⟩] := htab
    generalize (kWind mi w) = k9 at hkb hk0 ⊢
    rcases (show k9 = 3 ∨ k9 = 1 by omega) with rfl | rfl
    · exact ⟨[], ⟨0, 10, 13, 21⟩, [⟨0, 10, 17, 13⟩], "java/lang/IndexOutOfBoundsException", htab, (fun z hz => by cases hz), by decide, by decide, hts _ (zin 514 (by decide +kernel) rfl), znl_use hN90 _ (znin 525 (by decide +kernel) rfl), rfl⟩
    · exact ⟨[⟨0, 10, 13, 21⟩], ⟨0, 10, 17, 13⟩, [], "java/lang/IllegalArgumentException", htab, (fun z hz => by
        rcases List.mem_cons.mp hz with rfl | hz
        · exact Or.inr ⟨by decide, "java/lang/IndexOutOfBoundsException", hts _ (zin 514 (by decide +kernel) rfl), hNc 1 3 (by decide) (by decide) (by decide) (by decide) (by decide)⟩
        · cases hz), by decide, by decide, hts _ (zin 412 (by decide +kernel) rfl), znl_use hN90 _ (znin 421 (by decide +kernel) rfl), rfl⟩
  refine zw_call (As := [iv mi, iv w]) (rest := [iv 0, .ref o]) hC hX90 zlL_27 (tmC_0 ad tc _) rfl (k_X8_setWind l hlt D tc ad hI M mi w hW hmi hw) rfl (Nat.le_of_ble_eq_true rfl) ⟨by decide, by decide⟩ ⟨by decide, by decide⟩ dL_setWind_5 hw90 hl90.1 hcat ?_ ?_
  · intro hk H1 locs1 hw1 hkeep hS1
    exact zw_end0 hC hKW B.returns B.notSynchronized hw1 ho90 hoC hkeep hS1 hk (by rw [hk]; rfl) 21 dL_setWind_8 dL_setWind_9 dL_setWind_10 (by decide) dL_setWind_21 dL_setWind_22
  · intro hk H1 locs1 q99 hw1 hkeep hS1
    rcases (show (kWind mi w) = 3 ∨ (kWind mi w) = 1 by omega) with hk9 | hk9
    · rw [show (if (kWind mi w) = 3 then 13 else if (kWind mi w) = 1 then 17 else 0) = 13 by rw [hk9]; rfl]
      exact zw_endx hC B.returns B.notSynchronized hw1 ho90 hoC hkeep hS1 hk hl90 (i := 4) (n9 := 1) (by rw [hk9]; rfl) (by rfl) (by decide) (fun h => lv_astore B.exec B.bytes dL_setWind_13 hl90 (by decide) rfl (fun ls2 _ => h ls2)) dL_setWind_15 dL_setWind_16
    · rw [show (if (kWind mi w) = 3 then 13 else if (kWind mi w) = 1 then 17 else 0) = 17 by rw [hk9]; rfl]
      exact zw_endx hC B.returns B.notSynchronized hw1 ho90 hoC hkeep hS1 hk hl90 (i := 4) (n9 := 2) (by rw [hk9]; rfl) (by rfl) (by decide) (fun h => lv_astore B.exec B.bytes dL_setWind_17 hl90 (by decide) rfl (fun ls2 _ => h ls2)) dL_setWind_19 dL_setWind_20
set_option maxHeartbeats 4000000 in
set_option maxRecDepth 100000 in
theorem w_platform (l : Launch) (hlt : l.stackTraces = false) (D : va_G) (tc : Nat → ClassId) (tL : ClassId) (ad : Nat → Nat → Nat) (hI : zI ad okC) (o : Nat) (hoC : ∀ f i, okC f i → ad f i ≠ o) (M : zM) {T U : Int} (n w : Int) (hW : WTC T U M) (hn : -2147483648 ≤ n ∧ n < 2147483648) (hw : -2147483648 ≤ w ∧ w < 2147483648) : zWm l yL_platform cL_platform 5 [(0, 10, 13, 21)] 7 D tc tL ad o [.ref (ad 0 0), iv n, iv w] M (kPlat M n w) (wcd 3 0 0 (kPlat M n w)) (platFactC M n w) M := by
  intro sz v
  refine z_ofWH (cc := cL_platform) (maxL := 5) (ret := some .int) (plainFor_of_name (by decide)) rfl ?_
  intro p e s m args below meth c s₁ B hml htab hv
  obtain ⟨rfl, hsz, hw90, ho90, hKW, hN90, hX90, hNc⟩ := hv
  subst hsz
  have hts9 := atoms_spec B.pre
  have hown : s.vm.findClass "ZipCanopyLaw" = some m.cls := findClass_of_methodNamed B.named
  have hts : ∀ x ∈ zbig, x.before _ s = true := fun x h => hts9 x (List.mem_cons_of_mem _ h)
  have hC : zC p s m _ c D (tysC tc) ad okC (zWF ad o s.heap.size) s.heap cL_platform 5 "ZipCanopyLaw" := ⟨⟨B.exec, B.bytes, hml, hown, hts⟩, tysW_C hKW, hI, fun f i h => Or.inl ⟨f, i, h, rfl⟩, fun q h => Or.inr (Or.inr h), hN90⟩
  have hkb : (kPlat M n w) ≤ 3 ∧ (kPlat M n w) ≠ 1 ∧ (kPlat M n w) ≠ 2 := by unfold kPlat; (repeat' split) <;> simp
  rw [lg_entry_eq]
  have hl90 := lv_entry ([.ref (ad 0 0), iv n, iv w] ++ [.ref o]) (n := 5) (Nat.le_of_ble_eq_true rfl)
  generalize (lg_sl ([.ref (ad 0 0), iv n, iv w] ++ [.ref o]) ++ List.replicate (5 - (lg_sl ([.ref (ad 0 0), iv n, iv w] ++ [.ref o])).length) Slot.unset).toArray = ls at hl90 ⊢
  have hl90 : lv_has ls 5 [(0, .ref (ad 0 0)), (1, iv n), (2, iv w), (3, .ref o)] := hl90
  refine lv_aload_n B.exec B.bytes dL_platform_0 rfl (lv_at hl90 3 rfl) ?_
  refine lv_iconst B.exec B.bytes dL_platform_1 rfl ?_
  refine lv_aload_n B.exec B.bytes dL_platform_2 rfl (lv_at hl90 0 rfl) ?_
  refine lv_iload_n B.exec B.bytes dL_platform_3 rfl (lv_at hl90 1 rfl) ?_
  refine lv_iload_n B.exec B.bytes dL_platform_4 rfl (lv_at hl90 2 rfl) ?_
  have hcat : (kPlat M n w) ≠ 0 → zCat s ([.ref (ad 0 0), iv n, iv w] ++ [.ref o] : List Value).toArray c "ZipCanopyLaw" 5 (zEx (kPlat M n w)) (if (kPlat M n w) = 3 then 13 else 0) := by
    intro hk0
    have htab : c.exceptionTable.toList = [⟨0, 10, 13, 21⟩] := htab
    generalize (kPlat M n w) = k9 at hkb hk0 ⊢
    rcases (show k9 = 3 by omega) with rfl
    · exact ⟨[], ⟨0, 10, 13, 21⟩, [], "java/lang/IndexOutOfBoundsException", htab, (fun z hz => by cases hz), by decide, by decide, hts _ (zin 514 (by decide +kernel) rfl), znl_use hN90 _ (znin 525 (by decide +kernel) rfl), rfl⟩
  refine zw_call (As := [iv n, iv w]) (rest := [iv 0, .ref o]) hC hX90 zlL_31 (tmC_0 ad tc _) rfl (k_X8_platform l hlt D tc ad hI M n w hW hn hw) rfl (Nat.le_of_ble_eq_true rfl) ⟨by decide, by decide⟩ ⟨by decide, by decide⟩ dL_platform_5 hw90 hl90.1 hcat ?_ ?_
  · intro hk H1 locs1 hw1 hkeep hS1
    exact zw_end0 hC hKW B.returns B.notSynchronized hw1 ho90 hoC hkeep hS1 hk (by rw [hk]; rfl) 17 dL_platform_8 dL_platform_9 dL_platform_10 (by decide) dL_platform_17 dL_platform_18
  · intro hk H1 locs1 q99 hw1 hkeep hS1
    rcases (show (kPlat M n w) = 3 by omega) with hk9
    · rw [show (if (kPlat M n w) = 3 then 13 else 0) = 13 by rw [hk9]; rfl]
      exact zw_endx hC B.returns B.notSynchronized hw1 ho90 hoC hkeep hS1 hk hl90 (i := 4) (n9 := 1) (by rw [hk9]; rfl) (by rfl) (by decide) (fun h => lv_astore B.exec B.bytes dL_platform_13 hl90 (by decide) rfl (fun ls2 _ => h ls2)) dL_platform_15 dL_platform_16
set_option maxHeartbeats 4000000 in
set_option maxRecDepth 100000 in
theorem w_line (l : Launch) (hlt : l.stackTraces = false) (D : va_G) (tc : Nat → ClassId) (tL : ClassId) (ad : Nat → Nat → Nat) (hI : zI ad okC) (o : Nat) (hoC : ∀ f i, okC f i → ad f i ≠ o) (M : zM) {T U : Int} (n w : Int) (hW : WTC T U M) (hn : -2147483648 ≤ n ∧ n < 2147483648) (hw : -2147483648 ≤ w ∧ w < 2147483648) : zWm l yL_line cL_line 5 [(0, 10, 13, 21)] 7 D tc tL ad o [.ref (ad 0 0), iv n, iv w] M (kLine M n w) (wcd 3 0 0 (kLine M n w)) (lineFactC M n w) M := by
  intro sz v
  refine z_ofWH (cc := cL_line) (maxL := 5) (ret := some .int) (plainFor_of_name (by decide)) rfl ?_
  intro p e s m args below meth c s₁ B hml htab hv
  obtain ⟨rfl, hsz, hw90, ho90, hKW, hN90, hX90, hNc⟩ := hv
  subst hsz
  have hts9 := atoms_spec B.pre
  have hown : s.vm.findClass "ZipCanopyLaw" = some m.cls := findClass_of_methodNamed B.named
  have hts : ∀ x ∈ zbig, x.before _ s = true := fun x h => hts9 x (List.mem_cons_of_mem _ h)
  have hC : zC p s m _ c D (tysC tc) ad okC (zWF ad o s.heap.size) s.heap cL_line 5 "ZipCanopyLaw" := ⟨⟨B.exec, B.bytes, hml, hown, hts⟩, tysW_C hKW, hI, fun f i h => Or.inl ⟨f, i, h, rfl⟩, fun q h => Or.inr (Or.inr h), hN90⟩
  have hkb : (kLine M n w) ≤ 3 ∧ (kLine M n w) ≠ 1 ∧ (kLine M n w) ≠ 2 := by unfold kLine; (repeat' split) <;> simp
  rw [lg_entry_eq]
  have hl90 := lv_entry ([.ref (ad 0 0), iv n, iv w] ++ [.ref o]) (n := 5) (Nat.le_of_ble_eq_true rfl)
  generalize (lg_sl ([.ref (ad 0 0), iv n, iv w] ++ [.ref o]) ++ List.replicate (5 - (lg_sl ([.ref (ad 0 0), iv n, iv w] ++ [.ref o])).length) Slot.unset).toArray = ls at hl90 ⊢
  have hl90 : lv_has ls 5 [(0, .ref (ad 0 0)), (1, iv n), (2, iv w), (3, .ref o)] := hl90
  refine lv_aload_n B.exec B.bytes dL_line_0 rfl (lv_at hl90 3 rfl) ?_
  refine lv_iconst B.exec B.bytes dL_line_1 rfl ?_
  refine lv_aload_n B.exec B.bytes dL_line_2 rfl (lv_at hl90 0 rfl) ?_
  refine lv_iload_n B.exec B.bytes dL_line_3 rfl (lv_at hl90 1 rfl) ?_
  refine lv_iload_n B.exec B.bytes dL_line_4 rfl (lv_at hl90 2 rfl) ?_
  have hcat : (kLine M n w) ≠ 0 → zCat s ([.ref (ad 0 0), iv n, iv w] ++ [.ref o] : List Value).toArray c "ZipCanopyLaw" 5 (zEx (kLine M n w)) (if (kLine M n w) = 3 then 13 else 0) := by
    intro hk0
    have htab : c.exceptionTable.toList = [⟨0, 10, 13, 21⟩] := htab
    generalize (kLine M n w) = k9 at hkb hk0 ⊢
    rcases (show k9 = 3 by omega) with rfl
    · exact ⟨[], ⟨0, 10, 13, 21⟩, [], "java/lang/IndexOutOfBoundsException", htab, (fun z hz => by cases hz), by decide, by decide, hts _ (zin 514 (by decide +kernel) rfl), znl_use hN90 _ (znin 525 (by decide +kernel) rfl), rfl⟩
  refine zw_call (As := [iv n, iv w]) (rest := [iv 0, .ref o]) hC hX90 zlL_34 (tmC_0 ad tc _) rfl (k_X8_line l hlt D tc ad hI M n w hW hn hw) rfl (Nat.le_of_ble_eq_true rfl) ⟨by decide, by decide⟩ ⟨by decide, by decide⟩ dL_line_5 hw90 hl90.1 hcat ?_ ?_
  · intro hk H1 locs1 hw1 hkeep hS1
    exact zw_end0 hC hKW B.returns B.notSynchronized hw1 ho90 hoC hkeep hS1 hk (by rw [hk]; rfl) 17 dL_line_8 dL_line_9 dL_line_10 (by decide) dL_line_17 dL_line_18
  · intro hk H1 locs1 q99 hw1 hkeep hS1
    rcases (show (kLine M n w) = 3 by omega) with hk9
    · rw [show (if (kLine M n w) = 3 then 13 else 0) = 13 by rw [hk9]; rfl]
      exact zw_endx hC B.returns B.notSynchronized hw1 ho90 hoC hkeep hS1 hk hl90 (i := 4) (n9 := 1) (by rw [hk9]; rfl) (by rfl) (by decide) (fun h => lv_astore B.exec B.bytes dL_line_13 hl90 (by decide) rfl (fun ls2 _ => h ls2)) dL_line_15 dL_line_16
set_option maxHeartbeats 4000000 in
set_option maxRecDepth 100000 in
theorem w_ride (l : Launch) (hlt : l.stackTraces = false) (D : va_G) (tc : Nat → ClassId) (tL : ClassId) (ad : Nat → Nat → Nat) (hI : zI ad okC) (o : Nat) (hoC : ∀ f i, okC f i → ad f i ≠ o) (M : zM) {T U : Int} (n w : Int) (hW : WTC T U M) (hn : -2147483648 ≤ n ∧ n < 2147483648) (hw : -2147483648 ≤ w ∧ w < 2147483648) : zWm l yL_ride cL_ride 5 [(0, 10, 13, 21), (0, 10, 17, 13)] 7 D tc tL ad o [.ref (ad 0 0), iv n, iv w] M (kRide M n w) (wcd 3 1 0 (kRide M n w)) (rideR M n w) M := by
  intro sz v
  refine z_ofWH (cc := cL_ride) (maxL := 5) (ret := some .int) (plainFor_of_name (by decide)) rfl ?_
  intro p e s m args below meth c s₁ B hml htab hv
  obtain ⟨rfl, hsz, hw90, ho90, hKW, hN90, hX90, hNc⟩ := hv
  subst hsz
  have hts9 := atoms_spec B.pre
  have hown : s.vm.findClass "ZipCanopyLaw" = some m.cls := findClass_of_methodNamed B.named
  have hts : ∀ x ∈ zbig, x.before _ s = true := fun x h => hts9 x (List.mem_cons_of_mem _ h)
  have hC : zC p s m _ c D (tysC tc) ad okC (zWF ad o s.heap.size) s.heap cL_ride 5 "ZipCanopyLaw" := ⟨⟨B.exec, B.bytes, hml, hown, hts⟩, tysW_C hKW, hI, fun f i h => Or.inl ⟨f, i, h, rfl⟩, fun q h => Or.inr (Or.inr h), hN90⟩
  have hkb : (kRide M n w) ≤ 3 ∧ (kRide M n w) ≠ 2 := by unfold kRide; (repeat' split) <;> simp
  rw [lg_entry_eq]
  have hl90 := lv_entry ([.ref (ad 0 0), iv n, iv w] ++ [.ref o]) (n := 5) (Nat.le_of_ble_eq_true rfl)
  generalize (lg_sl ([.ref (ad 0 0), iv n, iv w] ++ [.ref o]) ++ List.replicate (5 - (lg_sl ([.ref (ad 0 0), iv n, iv w] ++ [.ref o])).length) Slot.unset).toArray = ls at hl90 ⊢
  have hl90 : lv_has ls 5 [(0, .ref (ad 0 0)), (1, iv n), (2, iv w), (3, .ref o)] := hl90
  refine lv_aload_n B.exec B.bytes dL_ride_0 rfl (lv_at hl90 3 rfl) ?_
  refine lv_iconst B.exec B.bytes dL_ride_1 rfl ?_
  refine lv_aload_n B.exec B.bytes dL_ride_2 rfl (lv_at hl90 0 rfl) ?_
  refine lv_iload_n B.exec B.bytes dL_ride_3 rfl (lv_at hl90 1 rfl) ?_
  refine lv_iload_n B.exec B.bytes dL_ride_4 rfl (lv_at hl90 2 rfl) ?_
  have hcat : (kRide M n w) ≠ 0 → zCat s ([.ref (ad 0 0), iv n, iv w] ++ [.ref o] : List Value).toArray c "ZipCanopyLaw" 5 (zEx (kRide M n w)) (if (kRide M n w) = 3 then 13 else if (kRide M n w) = 1 then 17 else 0) := by
    intro hk0
    have htab : c.exceptionTable.toList = [⟨0, 10, 13, 21⟩, ⟨0, 10, 17, 13⟩] := htab
    generalize (kRide M n w) = k9 at hkb hk0 ⊢
    rcases (show k9 = 3 ∨ k9 = 1 by omega) with rfl | rfl
    · exact ⟨[], ⟨0, 10, 13, 21⟩, [⟨0, 10, 17, 13⟩], "java/lang/IndexOutOfBoundsException", htab, (fun z hz => by cases hz), by decide, by decide, hts _ (zin 514 (by decide +kernel) rfl), znl_use hN90 _ (znin 525 (by decide +kernel) rfl), rfl⟩
    · exact ⟨[⟨0, 10, 13, 21⟩], ⟨0, 10, 17, 13⟩, [], "java/lang/IllegalArgumentException", htab, (fun z hz => by
        rcases List.mem_cons.mp hz with rfl | hz
        · exact Or.inr ⟨by decide, "java/lang/IndexOutOfBoundsException", hts _ (zin 514 (by decide +kernel) rfl), hNc 1 3 (by decide) (by decide) (by decide) (by decide) (by decide)⟩
        · cases hz), by decide, by decide, hts _ (zin 412 (by decide +kernel) rfl), znl_use hN90 _ (znin 421 (by decide +kernel) rfl), rfl⟩
  refine zw_call (As := [iv n, iv w]) (rest := [iv 0, .ref o]) hC hX90 zlL_37 (tmC_0 ad tc _) rfl (k_X8_ride l hlt D tc ad hI M n w hW hn hw) rfl (Nat.le_of_ble_eq_true rfl) ⟨by decide, by decide⟩ ⟨by decide, by decide⟩ dL_ride_5 hw90 hl90.1 hcat ?_ ?_
  · intro hk H1 locs1 hw1 hkeep hS1
    exact zw_end0 hC hKW B.returns B.notSynchronized hw1 ho90 hoC hkeep hS1 hk (by rw [hk]; rfl) 21 dL_ride_8 dL_ride_9 dL_ride_10 (by decide) dL_ride_21 dL_ride_22
  · intro hk H1 locs1 q99 hw1 hkeep hS1
    rcases (show (kRide M n w) = 3 ∨ (kRide M n w) = 1 by omega) with hk9 | hk9
    · rw [show (if (kRide M n w) = 3 then 13 else if (kRide M n w) = 1 then 17 else 0) = 13 by rw [hk9]; rfl]
      exact zw_endx hC B.returns B.notSynchronized hw1 ho90 hoC hkeep hS1 hk hl90 (i := 4) (n9 := 1) (by rw [hk9]; rfl) (by rfl) (by decide) (fun h => lv_astore B.exec B.bytes dL_ride_13 hl90 (by decide) rfl (fun ls2 _ => h ls2)) dL_ride_15 dL_ride_16
    · rw [show (if (kRide M n w) = 3 then 13 else if (kRide M n w) = 1 then 17 else 0) = 17 by rw [hk9]; rfl]
      exact zw_endx hC B.returns B.notSynchronized hw1 ho90 hoC hkeep hS1 hk hl90 (i := 4) (n9 := 2) (by rw [hk9]; rfl) (by rfl) (by decide) (fun h => lv_astore B.exec B.bytes dL_ride_17 hl90 (by decide) rfl (fun ls2 _ => h ls2)) dL_ride_19 dL_ride_20
set_option maxHeartbeats 4000000 in
set_option maxRecDepth 100000 in
theorem w_come (l : Launch) (hlt : l.stackTraces = false) (D : va_G) (tc : Nat → ClassId) (tL : ClassId) (ad : Nat → Nat → Nat) (hI : zI ad okC) (o : Nat) (hoC : ∀ f i, okC f i → ad f i ≠ o) (M : zM) {T U : Int} (q g w pa : Int) (hW : WTC T U M) (hq : -2147483648 ≤ q ∧ q < 2147483648) (hg : -2147483648 ≤ g ∧ g < 2147483648) (hw : -2147483648 ≤ w ∧ w < 2147483648) (hpa : -2147483648 ≤ pa ∧ pa < 2147483648) : zWm l yL_come cL_come 7 [(0, 14, 17, 21), (0, 14, 21, 13), (0, 14, 25, 15)] 7 D tc tL ad o [.ref (ad 0 0), iv q, iv g, iv w, iv pa] M (kCome M q g w pa) (wcd 3 1 2 (kCome M q g w pa)) (M 1 0 6) (reachC (addRiderC M g w pa) 0 (M 1 0 6) q) := by
  intro sz v
  refine z_ofWH (cc := cL_come) (maxL := 7) (ret := some .int) (plainFor_of_name (by decide)) rfl ?_
  intro p e s m args below meth c s₁ B hml htab hv
  obtain ⟨rfl, hsz, hw90, ho90, hKW, hN90, hX90, hNc⟩ := hv
  subst hsz
  have hts9 := atoms_spec B.pre
  have hown : s.vm.findClass "ZipCanopyLaw" = some m.cls := findClass_of_methodNamed B.named
  have hts : ∀ x ∈ zbig, x.before _ s = true := fun x h => hts9 x (List.mem_cons_of_mem _ h)
  have hC : zC p s m _ c D (tysC tc) ad okC (zWF ad o s.heap.size) s.heap cL_come 7 "ZipCanopyLaw" := ⟨⟨B.exec, B.bytes, hml, hown, hts⟩, tysW_C hKW, hI, fun f i h => Or.inl ⟨f, i, h, rfl⟩, fun q h => Or.inr (Or.inr h), hN90⟩
  have hkb : (kCome M q g w pa) ≤ 3 := by unfold kCome; (repeat' split) <;> simp
  rw [lg_entry_eq]
  have hl90 := lv_entry ([.ref (ad 0 0), iv q, iv g, iv w, iv pa] ++ [.ref o]) (n := 7) (Nat.le_of_ble_eq_true rfl)
  generalize (lg_sl ([.ref (ad 0 0), iv q, iv g, iv w, iv pa] ++ [.ref o]) ++ List.replicate (7 - (lg_sl ([.ref (ad 0 0), iv q, iv g, iv w, iv pa] ++ [.ref o])).length) Slot.unset).toArray = ls at hl90 ⊢
  have hl90 : lv_has ls 7 [(0, .ref (ad 0 0)), (1, iv q), (2, iv g), (3, iv w), (4, iv pa), (5, .ref o)] := hl90
  refine lv_aload B.exec B.bytes dL_come_0 (lv_at hl90 5 rfl) ?_
  refine lv_iconst B.exec B.bytes dL_come_2 rfl ?_
  refine lv_aload_n B.exec B.bytes dL_come_3 rfl (lv_at hl90 0 rfl) ?_
  refine lv_iload_n B.exec B.bytes dL_come_4 rfl (lv_at hl90 1 rfl) ?_
  refine lv_iload_n B.exec B.bytes dL_come_5 rfl (lv_at hl90 2 rfl) ?_
  refine lv_iload_n B.exec B.bytes dL_come_6 rfl (lv_at hl90 3 rfl) ?_
  refine lv_iload B.exec B.bytes dL_come_7 (lv_at hl90 4 rfl) ?_
  have hcat : (kCome M q g w pa) ≠ 0 → zCat s ([.ref (ad 0 0), iv q, iv g, iv w, iv pa] ++ [.ref o] : List Value).toArray c "ZipCanopyLaw" 9 (zEx (kCome M q g w pa)) (if (kCome M q g w pa) = 3 then 17 else if (kCome M q g w pa) = 1 then 21 else if (kCome M q g w pa) = 2 then 25 else 0) := by
    intro hk0
    have htab : c.exceptionTable.toList = [⟨0, 14, 17, 21⟩, ⟨0, 14, 21, 13⟩, ⟨0, 14, 25, 15⟩] := htab
    generalize (kCome M q g w pa) = k9 at hkb hk0 ⊢
    rcases (show k9 = 3 ∨ k9 = 1 ∨ k9 = 2 by omega) with rfl | rfl | rfl
    · exact ⟨[], ⟨0, 14, 17, 21⟩, [⟨0, 14, 21, 13⟩, ⟨0, 14, 25, 15⟩], "java/lang/IndexOutOfBoundsException", htab, (fun z hz => by cases hz), by decide, by decide, hts _ (zin 514 (by decide +kernel) rfl), znl_use hN90 _ (znin 525 (by decide +kernel) rfl), rfl⟩
    · exact ⟨[⟨0, 14, 17, 21⟩], ⟨0, 14, 21, 13⟩, [⟨0, 14, 25, 15⟩], "java/lang/IllegalArgumentException", htab, (fun z hz => by
        rcases List.mem_cons.mp hz with rfl | hz
        · exact Or.inr ⟨by decide, "java/lang/IndexOutOfBoundsException", hts _ (zin 514 (by decide +kernel) rfl), hNc 1 3 (by decide) (by decide) (by decide) (by decide) (by decide)⟩
        · cases hz), by decide, by decide, hts _ (zin 412 (by decide +kernel) rfl), znl_use hN90 _ (znin 421 (by decide +kernel) rfl), rfl⟩
    · exact ⟨[⟨0, 14, 17, 21⟩, ⟨0, 14, 21, 13⟩], ⟨0, 14, 25, 15⟩, [], "java/lang/IllegalStateException", htab, (fun z hz => by
        rcases List.mem_cons.mp hz with rfl | hz
        · exact Or.inr ⟨by decide, "java/lang/IndexOutOfBoundsException", hts _ (zin 514 (by decide +kernel) rfl), hNc 2 3 (by decide) (by decide) (by decide) (by decide) (by decide)⟩
        · rcases List.mem_cons.mp hz with rfl | hz
          · exact Or.inr ⟨by decide, "java/lang/IllegalArgumentException", hts _ (zin 412 (by decide +kernel) rfl), hNc 2 1 (by decide) (by decide) (by decide) (by decide) (by decide)⟩
          · cases hz), by decide, by decide, hts _ (zin 413 (by decide +kernel) rfl), znl_use hN90 _ (znin 493 (by decide +kernel) rfl), rfl⟩
  refine zw_call (As := [iv q, iv g, iv w, iv pa]) (rest := [iv 0, .ref o]) hC hX90 zlL_40 (tmC_0 ad tc _) rfl (k_X8_come l hlt D tc ad hI M q g w pa hW hq hg hw hpa) rfl (Nat.le_of_ble_eq_true rfl) ⟨by decide, by decide⟩ ⟨by decide, by decide⟩ dL_come_9 hw90 hl90.1 hcat ?_ ?_
  · intro hk H1 locs1 hw1 hkeep hS1
    exact zw_end0 hC hKW B.returns B.notSynchronized hw1 ho90 hoC hkeep hS1 hk (by rw [hk]; rfl) 29 dL_come_12 dL_come_13 dL_come_14 (by decide) dL_come_29 dL_come_30
  · intro hk H1 locs1 q99 hw1 hkeep hS1
    rcases (show (kCome M q g w pa) = 3 ∨ (kCome M q g w pa) = 1 ∨ (kCome M q g w pa) = 2 by omega) with hk9 | hk9 | hk9
    · rw [show (if (kCome M q g w pa) = 3 then 17 else if (kCome M q g w pa) = 1 then 21 else if (kCome M q g w pa) = 2 then 25 else 0) = 17 by rw [hk9]; rfl]
      exact zw_endx hC B.returns B.notSynchronized hw1 ho90 hoC hkeep hS1 hk hl90 (i := 6) (n9 := 1) (by rw [hk9]; rfl) (by rfl) (by decide) (fun h => lv_astore B.exec B.bytes dL_come_17 hl90 (by decide) rfl (fun ls2 _ => h ls2)) dL_come_19 dL_come_20
    · rw [show (if (kCome M q g w pa) = 3 then 17 else if (kCome M q g w pa) = 1 then 21 else if (kCome M q g w pa) = 2 then 25 else 0) = 21 by rw [hk9]; rfl]
      exact zw_endx hC B.returns B.notSynchronized hw1 ho90 hoC hkeep hS1 hk hl90 (i := 6) (n9 := 2) (by rw [hk9]; rfl) (by rfl) (by decide) (fun h => lv_astore B.exec B.bytes dL_come_21 hl90 (by decide) rfl (fun ls2 _ => h ls2)) dL_come_23 dL_come_24
    · rw [show (if (kCome M q g w pa) = 3 then 17 else if (kCome M q g w pa) = 1 then 21 else if (kCome M q g w pa) = 2 then 25 else 0) = 25 by rw [hk9]; rfl]
      exact zw_endx hC B.returns B.notSynchronized hw1 ho90 hoC hkeep hS1 hk hl90 (i := 6) (n9 := 3) (by rw [hk9]; rfl) (by rfl) (by decide) (fun h => lv_astore B.exec B.bytes dL_come_25 hl90 (by decide) rfl (fun ls2 _ => h ls2)) dL_come_27 dL_come_28
set_option maxHeartbeats 4000000 in
set_option maxRecDepth 100000 in
theorem w_rider (l : Launch) (hlt : l.stackTraces = false) (D : va_G) (tc : Nat → ClassId) (tL : ClassId) (ad : Nat → Nat → Nat) (hI : zI ad okC) (o : Nat) (hoC : ∀ f i, okC f i → ad f i ≠ o) (M : zM) {T U : Int} (n w : Int) (hW : WTC T U M) (hn : -2147483648 ≤ n ∧ n < 2147483648) (hw : -2147483648 ≤ w ∧ w < 2147483648) : zWm l yL_rider cL_rider 5 [(0, 10, 13, 21)] 7 D tc tL ad o [.ref (ad 0 0), iv n, iv w] M (kRider M n w) (wcd 3 0 0 (kRider M n w)) (riderFactC M n w) M := by
  intro sz v
  refine z_ofWH (cc := cL_rider) (maxL := 5) (ret := some .int) (plainFor_of_name (by decide)) rfl ?_
  intro p e s m args below meth c s₁ B hml htab hv
  obtain ⟨rfl, hsz, hw90, ho90, hKW, hN90, hX90, hNc⟩ := hv
  subst hsz
  have hts9 := atoms_spec B.pre
  have hown : s.vm.findClass "ZipCanopyLaw" = some m.cls := findClass_of_methodNamed B.named
  have hts : ∀ x ∈ zbig, x.before _ s = true := fun x h => hts9 x (List.mem_cons_of_mem _ h)
  have hC : zC p s m _ c D (tysC tc) ad okC (zWF ad o s.heap.size) s.heap cL_rider 5 "ZipCanopyLaw" := ⟨⟨B.exec, B.bytes, hml, hown, hts⟩, tysW_C hKW, hI, fun f i h => Or.inl ⟨f, i, h, rfl⟩, fun q h => Or.inr (Or.inr h), hN90⟩
  have hkb : (kRider M n w) ≤ 3 ∧ (kRider M n w) ≠ 1 ∧ (kRider M n w) ≠ 2 := by unfold kRider; (repeat' split) <;> simp
  rw [lg_entry_eq]
  have hl90 := lv_entry ([.ref (ad 0 0), iv n, iv w] ++ [.ref o]) (n := 5) (Nat.le_of_ble_eq_true rfl)
  generalize (lg_sl ([.ref (ad 0 0), iv n, iv w] ++ [.ref o]) ++ List.replicate (5 - (lg_sl ([.ref (ad 0 0), iv n, iv w] ++ [.ref o])).length) Slot.unset).toArray = ls at hl90 ⊢
  have hl90 : lv_has ls 5 [(0, .ref (ad 0 0)), (1, iv n), (2, iv w), (3, .ref o)] := hl90
  refine lv_aload_n B.exec B.bytes dL_rider_0 rfl (lv_at hl90 3 rfl) ?_
  refine lv_iconst B.exec B.bytes dL_rider_1 rfl ?_
  refine lv_aload_n B.exec B.bytes dL_rider_2 rfl (lv_at hl90 0 rfl) ?_
  refine lv_iload_n B.exec B.bytes dL_rider_3 rfl (lv_at hl90 1 rfl) ?_
  refine lv_iload_n B.exec B.bytes dL_rider_4 rfl (lv_at hl90 2 rfl) ?_
  have hcat : (kRider M n w) ≠ 0 → zCat s ([.ref (ad 0 0), iv n, iv w] ++ [.ref o] : List Value).toArray c "ZipCanopyLaw" 5 (zEx (kRider M n w)) (if (kRider M n w) = 3 then 13 else 0) := by
    intro hk0
    have htab : c.exceptionTable.toList = [⟨0, 10, 13, 21⟩] := htab
    generalize (kRider M n w) = k9 at hkb hk0 ⊢
    rcases (show k9 = 3 by omega) with rfl
    · exact ⟨[], ⟨0, 10, 13, 21⟩, [], "java/lang/IndexOutOfBoundsException", htab, (fun z hz => by cases hz), by decide, by decide, hts _ (zin 514 (by decide +kernel) rfl), znl_use hN90 _ (znin 525 (by decide +kernel) rfl), rfl⟩
  refine zw_call (As := [iv n, iv w]) (rest := [iv 0, .ref o]) hC hX90 zlL_43 (tmC_0 ad tc _) rfl (k_X8_rider l hlt D tc ad hI M n w hW hn hw) rfl (Nat.le_of_ble_eq_true rfl) ⟨by decide, by decide⟩ ⟨by decide, by decide⟩ dL_rider_5 hw90 hl90.1 hcat ?_ ?_
  · intro hk H1 locs1 hw1 hkeep hS1
    exact zw_end0 hC hKW B.returns B.notSynchronized hw1 ho90 hoC hkeep hS1 hk (by rw [hk]; rfl) 17 dL_rider_8 dL_rider_9 dL_rider_10 (by decide) dL_rider_17 dL_rider_18
  · intro hk H1 locs1 q99 hw1 hkeep hS1
    rcases (show (kRider M n w) = 3 by omega) with hk9
    · rw [show (if (kRider M n w) = 3 then 13 else 0) = 13 by rw [hk9]; rfl]
      exact zw_endx hC B.returns B.notSynchronized hw1 ho90 hoC hkeep hS1 hk hl90 (i := 4) (n9 := 1) (by rw [hk9]; rfl) (by rfl) (by decide) (fun h => lv_astore B.exec B.bytes dL_rider_13 hl90 (by decide) rfl (fun ls2 _ => h ls2)) dL_rider_15 dL_rider_16
set_option maxHeartbeats 4000000 in
set_option maxRecDepth 100000 in
theorem w_queue (l : Launch) (hlt : l.stackTraces = false) (D : va_G) (tc : Nat → ClassId) (tL : ClassId) (ad : Nat → Nat → Nat) (hI : zI ad okC) (o : Nat) (hoC : ∀ f i, okC f i → ad f i ≠ o) (M : zM) {T U : Int} (n ix : Int) (hW : WTC T U M) (hn : -2147483648 ≤ n ∧ n < 2147483648) (hix : -2147483648 ≤ ix ∧ ix < 2147483648) : zWm l yL_queue cL_queue 5 [(0, 10, 13, 21)] 7 D tc tL ad o [.ref (ad 0 0), iv n, iv ix] M (kQueue M n ix) (wcd 3 0 0 (kQueue M n ix)) (qAt M 0 n ix) M := by
  intro sz v
  refine z_ofWH (cc := cL_queue) (maxL := 5) (ret := some .int) (plainFor_of_name (by decide)) rfl ?_
  intro p e s m args below meth c s₁ B hml htab hv
  obtain ⟨rfl, hsz, hw90, ho90, hKW, hN90, hX90, hNc⟩ := hv
  subst hsz
  have hts9 := atoms_spec B.pre
  have hown : s.vm.findClass "ZipCanopyLaw" = some m.cls := findClass_of_methodNamed B.named
  have hts : ∀ x ∈ zbig, x.before _ s = true := fun x h => hts9 x (List.mem_cons_of_mem _ h)
  have hC : zC p s m _ c D (tysC tc) ad okC (zWF ad o s.heap.size) s.heap cL_queue 5 "ZipCanopyLaw" := ⟨⟨B.exec, B.bytes, hml, hown, hts⟩, tysW_C hKW, hI, fun f i h => Or.inl ⟨f, i, h, rfl⟩, fun q h => Or.inr (Or.inr h), hN90⟩
  have hkb : (kQueue M n ix) ≤ 3 ∧ (kQueue M n ix) ≠ 1 ∧ (kQueue M n ix) ≠ 2 := by unfold kQueue; (repeat' split) <;> simp
  rw [lg_entry_eq]
  have hl90 := lv_entry ([.ref (ad 0 0), iv n, iv ix] ++ [.ref o]) (n := 5) (Nat.le_of_ble_eq_true rfl)
  generalize (lg_sl ([.ref (ad 0 0), iv n, iv ix] ++ [.ref o]) ++ List.replicate (5 - (lg_sl ([.ref (ad 0 0), iv n, iv ix] ++ [.ref o])).length) Slot.unset).toArray = ls at hl90 ⊢
  have hl90 : lv_has ls 5 [(0, .ref (ad 0 0)), (1, iv n), (2, iv ix), (3, .ref o)] := hl90
  refine lv_aload_n B.exec B.bytes dL_queue_0 rfl (lv_at hl90 3 rfl) ?_
  refine lv_iconst B.exec B.bytes dL_queue_1 rfl ?_
  refine lv_aload_n B.exec B.bytes dL_queue_2 rfl (lv_at hl90 0 rfl) ?_
  refine lv_iload_n B.exec B.bytes dL_queue_3 rfl (lv_at hl90 1 rfl) ?_
  refine lv_iload_n B.exec B.bytes dL_queue_4 rfl (lv_at hl90 2 rfl) ?_
  have hcat : (kQueue M n ix) ≠ 0 → zCat s ([.ref (ad 0 0), iv n, iv ix] ++ [.ref o] : List Value).toArray c "ZipCanopyLaw" 5 (zEx (kQueue M n ix)) (if (kQueue M n ix) = 3 then 13 else 0) := by
    intro hk0
    have htab : c.exceptionTable.toList = [⟨0, 10, 13, 21⟩] := htab
    generalize (kQueue M n ix) = k9 at hkb hk0 ⊢
    rcases (show k9 = 3 by omega) with rfl
    · exact ⟨[], ⟨0, 10, 13, 21⟩, [], "java/lang/IndexOutOfBoundsException", htab, (fun z hz => by cases hz), by decide, by decide, hts _ (zin 514 (by decide +kernel) rfl), znl_use hN90 _ (znin 525 (by decide +kernel) rfl), rfl⟩
  refine zw_call (As := [iv n, iv ix]) (rest := [iv 0, .ref o]) hC hX90 zlL_46 (tmC_0 ad tc _) rfl (k_X8_queue l hlt D tc ad hI M n ix hW hn hix) rfl (Nat.le_of_ble_eq_true rfl) ⟨by decide, by decide⟩ ⟨by decide, by decide⟩ dL_queue_5 hw90 hl90.1 hcat ?_ ?_
  · intro hk H1 locs1 hw1 hkeep hS1
    exact zw_end0 hC hKW B.returns B.notSynchronized hw1 ho90 hoC hkeep hS1 hk (by rw [hk]; rfl) 17 dL_queue_8 dL_queue_9 dL_queue_10 (by decide) dL_queue_17 dL_queue_18
  · intro hk H1 locs1 q99 hw1 hkeep hS1
    rcases (show (kQueue M n ix) = 3 by omega) with hk9
    · rw [show (if (kQueue M n ix) = 3 then 13 else 0) = 13 by rw [hk9]; rfl]
      exact zw_endx hC B.returns B.notSynchronized hw1 ho90 hoC hkeep hS1 hk hl90 (i := 4) (n9 := 1) (by rw [hk9]; rfl) (by rfl) (by decide) (fun h => lv_astore B.exec B.bytes dL_queue_13 hl90 (by decide) rfl (fun ls2 _ => h ls2)) dL_queue_15 dL_queue_16
set_option maxHeartbeats 4000000 in
set_option maxRecDepth 100000 in
theorem w_pass (l : Launch) (hlt : l.stackTraces = false) (D : va_G) (tc : Nat → ClassId) (tL : ClassId) (ad : Nat → Nat → Nat) (hI : zI ad okC) (o : Nat) (hoC : ∀ f i, okC f i → ad f i ≠ o) (M : zM) {T U : Int} (n : Int) (hW : WTC T U M) (hn : -2147483648 ≤ n ∧ n < 2147483648) (hT : T + 100 ≤ 1000000) (hU : U + 4800 ≤ 100000000) : zWm l yL_pass cL_pass 4 [(0, 9, 12, 13)] 7 D tc tL ad o [.ref (ad 0 0), iv n] M (kPass n) (wcd 1 0 0 (kPass n)) (ridersC (passN M 0 n.toNat) 0 2 - ridersC M 0 2) (passN M 0 n.toNat) := by
  intro sz v
  refine z_ofWH (cc := cL_pass) (maxL := 4) (ret := some .int) (plainFor_of_name (by decide)) rfl ?_
  intro p e s m args below meth c s₁ B hml htab hv
  obtain ⟨rfl, hsz, hw90, ho90, hKW, hN90, hX90, hNc⟩ := hv
  subst hsz
  have hts9 := atoms_spec B.pre
  have hown : s.vm.findClass "ZipCanopyLaw" = some m.cls := findClass_of_methodNamed B.named
  have hts : ∀ x ∈ zbig, x.before _ s = true := fun x h => hts9 x (List.mem_cons_of_mem _ h)
  have hC : zC p s m _ c D (tysC tc) ad okC (zWF ad o s.heap.size) s.heap cL_pass 4 "ZipCanopyLaw" := ⟨⟨B.exec, B.bytes, hml, hown, hts⟩, tysW_C hKW, hI, fun f i h => Or.inl ⟨f, i, h, rfl⟩, fun q h => Or.inr (Or.inr h), hN90⟩
  have hkb : (kPass n) ≤ 3 ∧ (kPass n) ≠ 2 ∧ (kPass n) ≠ 3 := by unfold kPass; (repeat' split) <;> simp
  rw [lg_entry_eq]
  have hl90 := lv_entry ([.ref (ad 0 0), iv n] ++ [.ref o]) (n := 4) (Nat.le_of_ble_eq_true rfl)
  generalize (lg_sl ([.ref (ad 0 0), iv n] ++ [.ref o]) ++ List.replicate (4 - (lg_sl ([.ref (ad 0 0), iv n] ++ [.ref o])).length) Slot.unset).toArray = ls at hl90 ⊢
  have hl90 : lv_has ls 4 [(0, .ref (ad 0 0)), (1, iv n), (2, .ref o)] := hl90
  refine lv_aload_n B.exec B.bytes dL_pass_0 rfl (lv_at hl90 2 rfl) ?_
  refine lv_iconst B.exec B.bytes dL_pass_1 rfl ?_
  refine lv_aload_n B.exec B.bytes dL_pass_2 rfl (lv_at hl90 0 rfl) ?_
  refine lv_iload_n B.exec B.bytes dL_pass_3 rfl (lv_at hl90 1 rfl) ?_
  have hcat : (kPass n) ≠ 0 → zCat s ([.ref (ad 0 0), iv n] ++ [.ref o] : List Value).toArray c "ZipCanopyLaw" 4 (zEx (kPass n)) (if (kPass n) = 1 then 12 else 0) := by
    intro hk0
    have htab : c.exceptionTable.toList = [⟨0, 9, 12, 13⟩] := htab
    generalize (kPass n) = k9 at hkb hk0 ⊢
    rcases (show k9 = 1 by omega) with rfl
    · exact ⟨[], ⟨0, 9, 12, 13⟩, [], "java/lang/IllegalArgumentException", htab, (fun z hz => by cases hz), by decide, by decide, hts _ (zin 412 (by decide +kernel) rfl), znl_use hN90 _ (znin 421 (by decide +kernel) rfl), rfl⟩
  refine zw_call (As := [iv n]) (rest := [iv 0, .ref o]) hC hX90 zlL_49 (tmC_0 ad tc _) rfl (k_X8_pass l hlt D tc ad hI M n hW hn hT hU) rfl (Nat.le_of_ble_eq_true rfl) ⟨by decide, by decide⟩ ⟨by decide, by decide⟩ dL_pass_4 hw90 hl90.1 hcat ?_ ?_
  · intro hk H1 locs1 hw1 hkeep hS1
    exact zw_end0 hC hKW B.returns B.notSynchronized hw1 ho90 hoC hkeep hS1 hk (by rw [hk]; rfl) 15 dL_pass_7 dL_pass_8 dL_pass_9 (by decide) dL_pass_15 dL_pass_16
  · intro hk H1 locs1 q99 hw1 hkeep hS1
    rcases (show (kPass n) = 1 by omega) with hk9
    · rw [show (if (kPass n) = 1 then 12 else 0) = 12 by rw [hk9]; rfl]
      exact zw_endx hC B.returns B.notSynchronized hw1 ho90 hoC hkeep hS1 hk hl90 (i := 3) (n9 := 1) (by rw [hk9]; rfl) (by rfl) (by decide) (fun h => lv_astore_n B.exec B.bytes dL_pass_12 rfl hl90 (by decide) rfl (fun ls2 _ => h ls2)) dL_pass_13 dL_pass_14
set_option maxHeartbeats 4000000 in
set_option maxRecDepth 100000 in
theorem w_count (l : Launch) (hlt : l.stackTraces = false) (D : va_G) (tc : Nat → ClassId) (tL : ClassId) (ad : Nat → Nat → Nat) (hI : zI ad okC) (o : Nat) (hoC : ∀ f i, okC f i → ad f i ≠ o) (M : zM) {T U : Int} (w : Int) (hW : WTC T U M) (hw : -2147483648 ≤ w ∧ w < 2147483648) : zWm l yL_count cL_count 4 [(0, 9, 12, 21)] 7 D tc tL ad o [.ref (ad 0 0), iv w] M (kCount w) (wcd 3 0 0 (kCount w)) (countFactC M w) M := by
  intro sz v
  refine z_ofWH (cc := cL_count) (maxL := 4) (ret := some .int) (plainFor_of_name (by decide)) rfl ?_
  intro p e s m args below meth c s₁ B hml htab hv
  obtain ⟨rfl, hsz, hw90, ho90, hKW, hN90, hX90, hNc⟩ := hv
  subst hsz
  have hts9 := atoms_spec B.pre
  have hown : s.vm.findClass "ZipCanopyLaw" = some m.cls := findClass_of_methodNamed B.named
  have hts : ∀ x ∈ zbig, x.before _ s = true := fun x h => hts9 x (List.mem_cons_of_mem _ h)
  have hC : zC p s m _ c D (tysC tc) ad okC (zWF ad o s.heap.size) s.heap cL_count 4 "ZipCanopyLaw" := ⟨⟨B.exec, B.bytes, hml, hown, hts⟩, tysW_C hKW, hI, fun f i h => Or.inl ⟨f, i, h, rfl⟩, fun q h => Or.inr (Or.inr h), hN90⟩
  have hkb : (kCount w) ≤ 3 ∧ (kCount w) ≠ 1 ∧ (kCount w) ≠ 2 := by unfold kCount; (repeat' split) <;> simp
  rw [lg_entry_eq]
  have hl90 := lv_entry ([.ref (ad 0 0), iv w] ++ [.ref o]) (n := 4) (Nat.le_of_ble_eq_true rfl)
  generalize (lg_sl ([.ref (ad 0 0), iv w] ++ [.ref o]) ++ List.replicate (4 - (lg_sl ([.ref (ad 0 0), iv w] ++ [.ref o])).length) Slot.unset).toArray = ls at hl90 ⊢
  have hl90 : lv_has ls 4 [(0, .ref (ad 0 0)), (1, iv w), (2, .ref o)] := hl90
  refine lv_aload_n B.exec B.bytes dL_count_0 rfl (lv_at hl90 2 rfl) ?_
  refine lv_iconst B.exec B.bytes dL_count_1 rfl ?_
  refine lv_aload_n B.exec B.bytes dL_count_2 rfl (lv_at hl90 0 rfl) ?_
  refine lv_iload_n B.exec B.bytes dL_count_3 rfl (lv_at hl90 1 rfl) ?_
  have hcat : (kCount w) ≠ 0 → zCat s ([.ref (ad 0 0), iv w] ++ [.ref o] : List Value).toArray c "ZipCanopyLaw" 4 (zEx (kCount w)) (if (kCount w) = 3 then 12 else 0) := by
    intro hk0
    have htab : c.exceptionTable.toList = [⟨0, 9, 12, 21⟩] := htab
    generalize (kCount w) = k9 at hkb hk0 ⊢
    rcases (show k9 = 3 by omega) with rfl
    · exact ⟨[], ⟨0, 9, 12, 21⟩, [], "java/lang/IndexOutOfBoundsException", htab, (fun z hz => by cases hz), by decide, by decide, hts _ (zin 514 (by decide +kernel) rfl), znl_use hN90 _ (znin 525 (by decide +kernel) rfl), rfl⟩
  refine zw_call (As := [iv w]) (rest := [iv 0, .ref o]) hC hX90 zlL_52 (tmC_0 ad tc _) rfl (k_X8_count l hlt D tc ad hI M w hW hw) rfl (Nat.le_of_ble_eq_true rfl) ⟨by decide, by decide⟩ ⟨by decide, by decide⟩ dL_count_4 hw90 hl90.1 hcat ?_ ?_
  · intro hk H1 locs1 hw1 hkeep hS1
    exact zw_end0 hC hKW B.returns B.notSynchronized hw1 ho90 hoC hkeep hS1 hk (by rw [hk]; rfl) 15 dL_count_7 dL_count_8 dL_count_9 (by decide) dL_count_15 dL_count_16
  · intro hk H1 locs1 q99 hw1 hkeep hS1
    rcases (show (kCount w) = 3 by omega) with hk9
    · rw [show (if (kCount w) = 3 then 12 else 0) = 12 by rw [hk9]; rfl]
      exact zw_endx hC B.returns B.notSynchronized hw1 ho90 hoC hkeep hS1 hk hl90 (i := 3) (n9 := 1) (by rw [hk9]; rfl) (by rfl) (by decide) (fun h => lv_astore_n B.exec B.bytes dL_count_12 rfl hl90 (by decide) rfl (fun ls2 _ => h ls2)) dL_count_13 dL_count_14
set_option maxHeartbeats 4000000 in
set_option maxRecDepth 100000 in
theorem w_way (l : Launch) (hlt : l.stackTraces = false) (D : va_G) (tc : Nat → ClassId) (tL : ClassId) (ad : Nat → Nat → Nat) (hI : zI ad okC) (o : Nat) (hoC : ∀ f i, okC f i → ad f i ≠ o) (M : zM) {T U : Int} (a b w : Int) (hW : WTC T U M) (ha : -2147483648 ≤ a ∧ a < 2147483648) (hb : -2147483648 ≤ b ∧ b < 2147483648) (hw : -2147483648 ≤ w ∧ w < 2147483648) : zWm l yL_way cL_way 6 [(0, 12, 15, 21), (0, 12, 19, 13)] 7 D tc tL ad o [.ref (ad 0 0), iv a, iv b, iv w] M (kWay M a b w) (wcd 3 1 0 (kWay M a b w)) (linesFromC (planC M 12 b w) 12 a) (planC M 12 b w) := by
  intro sz v
  refine z_ofWH (cc := cL_way) (maxL := 6) (ret := some .int) (plainFor_of_name (by decide)) rfl ?_
  intro p e s m args below meth c s₁ B hml htab hv
  obtain ⟨rfl, hsz, hw90, ho90, hKW, hN90, hX90, hNc⟩ := hv
  subst hsz
  have hts9 := atoms_spec B.pre
  have hown : s.vm.findClass "ZipCanopyLaw" = some m.cls := findClass_of_methodNamed B.named
  have hts : ∀ x ∈ zbig, x.before _ s = true := fun x h => hts9 x (List.mem_cons_of_mem _ h)
  have hC : zC p s m _ c D (tysC tc) ad okC (zWF ad o s.heap.size) s.heap cL_way 6 "ZipCanopyLaw" := ⟨⟨B.exec, B.bytes, hml, hown, hts⟩, tysW_C hKW, hI, fun f i h => Or.inl ⟨f, i, h, rfl⟩, fun q h => Or.inr (Or.inr h), hN90⟩
  have hkb : (kWay M a b w) ≤ 3 ∧ (kWay M a b w) ≠ 2 := by unfold kWay; (repeat' split) <;> simp
  rw [lg_entry_eq]
  have hl90 := lv_entry ([.ref (ad 0 0), iv a, iv b, iv w] ++ [.ref o]) (n := 6) (Nat.le_of_ble_eq_true rfl)
  generalize (lg_sl ([.ref (ad 0 0), iv a, iv b, iv w] ++ [.ref o]) ++ List.replicate (6 - (lg_sl ([.ref (ad 0 0), iv a, iv b, iv w] ++ [.ref o])).length) Slot.unset).toArray = ls at hl90 ⊢
  have hl90 : lv_has ls 6 [(0, .ref (ad 0 0)), (1, iv a), (2, iv b), (3, iv w), (4, .ref o)] := hl90
  refine lv_aload B.exec B.bytes dL_way_0 (lv_at hl90 4 rfl) ?_
  refine lv_iconst B.exec B.bytes dL_way_2 rfl ?_
  refine lv_aload_n B.exec B.bytes dL_way_3 rfl (lv_at hl90 0 rfl) ?_
  refine lv_iload_n B.exec B.bytes dL_way_4 rfl (lv_at hl90 1 rfl) ?_
  refine lv_iload_n B.exec B.bytes dL_way_5 rfl (lv_at hl90 2 rfl) ?_
  refine lv_iload_n B.exec B.bytes dL_way_6 rfl (lv_at hl90 3 rfl) ?_
  have hcat : (kWay M a b w) ≠ 0 → zCat s ([.ref (ad 0 0), iv a, iv b, iv w] ++ [.ref o] : List Value).toArray c "ZipCanopyLaw" 7 (zEx (kWay M a b w)) (if (kWay M a b w) = 3 then 15 else if (kWay M a b w) = 1 then 19 else 0) := by
    intro hk0
    have htab : c.exceptionTable.toList = [⟨0, 12, 15, 21⟩, ⟨0, 12, 19, 13⟩] := htab
    generalize (kWay M a b w) = k9 at hkb hk0 ⊢
    rcases (show k9 = 3 ∨ k9 = 1 by omega) with rfl | rfl
    · exact ⟨[], ⟨0, 12, 15, 21⟩, [⟨0, 12, 19, 13⟩], "java/lang/IndexOutOfBoundsException", htab, (fun z hz => by cases hz), by decide, by decide, hts _ (zin 514 (by decide +kernel) rfl), znl_use hN90 _ (znin 525 (by decide +kernel) rfl), rfl⟩
    · exact ⟨[⟨0, 12, 15, 21⟩], ⟨0, 12, 19, 13⟩, [], "java/lang/IllegalArgumentException", htab, (fun z hz => by
        rcases List.mem_cons.mp hz with rfl | hz
        · exact Or.inr ⟨by decide, "java/lang/IndexOutOfBoundsException", hts _ (zin 514 (by decide +kernel) rfl), hNc 1 3 (by decide) (by decide) (by decide) (by decide) (by decide)⟩
        · cases hz), by decide, by decide, hts _ (zin 412 (by decide +kernel) rfl), znl_use hN90 _ (znin 421 (by decide +kernel) rfl), rfl⟩
  refine zw_call (As := [iv a, iv b, iv w]) (rest := [iv 0, .ref o]) hC hX90 zlL_55 (tmC_0 ad tc _) rfl (k_X8_way l hlt D tc ad hI M a b w hW ha hb hw) rfl (Nat.le_of_ble_eq_true rfl) ⟨by decide, by decide⟩ ⟨by decide, by decide⟩ dL_way_7 hw90 hl90.1 hcat ?_ ?_
  · intro hk H1 locs1 hw1 hkeep hS1
    exact zw_end0 hC hKW B.returns B.notSynchronized hw1 ho90 hoC hkeep hS1 hk (by rw [hk]; rfl) 23 dL_way_10 dL_way_11 dL_way_12 (by decide) dL_way_23 dL_way_24
  · intro hk H1 locs1 q99 hw1 hkeep hS1
    rcases (show (kWay M a b w) = 3 ∨ (kWay M a b w) = 1 by omega) with hk9 | hk9
    · rw [show (if (kWay M a b w) = 3 then 15 else if (kWay M a b w) = 1 then 19 else 0) = 15 by rw [hk9]; rfl]
      exact zw_endx hC B.returns B.notSynchronized hw1 ho90 hoC hkeep hS1 hk hl90 (i := 5) (n9 := 1) (by rw [hk9]; rfl) (by rfl) (by decide) (fun h => lv_astore B.exec B.bytes dL_way_15 hl90 (by decide) rfl (fun ls2 _ => h ls2)) dL_way_17 dL_way_18
    · rw [show (if (kWay M a b w) = 3 then 15 else if (kWay M a b w) = 1 then 19 else 0) = 19 by rw [hk9]; rfl]
      exact zw_endx hC B.returns B.notSynchronized hw1 ho90 hoC hkeep hS1 hk hl90 (i := 5) (n9 := 2) (by rw [hk9]; rfl) (by rfl) (by decide) (fun h => lv_astore B.exec B.bytes dL_way_19 hl90 (by decide) rfl (fun ls2 _ => h ls2)) dL_way_21 dL_way_22
set_option maxHeartbeats 4000000 in
set_option maxRecDepth 100000 in
theorem w_arrives (l : Launch) (hlt : l.stackTraces = false) (D : va_G) (tc : Nat → ClassId) (tL : ClassId) (ad : Nat → Nat → Nat) (hI : zI ad okC) (o : Nat) (hoC : ∀ f i, okC f i → ad f i ≠ o) (M : zM) {T U : Int} (n : Int) (hW : WTC T U M) (hn : -2147483648 ≤ n ∧ n < 2147483648) (hT : T + 200 ≤ 1000000) (hU : U + 9600 ≤ 100000000) : zWm l yL_arrives cL_arrives 4 [(0, 9, 12, 21)] 7 D tc tL ad o [.ref (ad 0 0), iv n] M (kArr M n) (wcd 3 0 0 (kArr M n)) (arrN M n.toNat 200 16 (12 * 1 + n.toNat) 5) (arrN M n.toNat 200) := by
  intro sz v
  refine z_ofWH (cc := cL_arrives) (maxL := 4) (ret := some .int) (plainFor_of_name (by decide)) rfl ?_
  intro p e s m args below meth c s₁ B hml htab hv
  obtain ⟨rfl, hsz, hw90, ho90, hKW, hN90, hX90, hNc⟩ := hv
  subst hsz
  have hts9 := atoms_spec B.pre
  have hown : s.vm.findClass "ZipCanopyLaw" = some m.cls := findClass_of_methodNamed B.named
  have hts : ∀ x ∈ zbig, x.before _ s = true := fun x h => hts9 x (List.mem_cons_of_mem _ h)
  have hC : zC p s m _ c D (tysC tc) ad okC (zWF ad o s.heap.size) s.heap cL_arrives 4 "ZipCanopyLaw" := ⟨⟨B.exec, B.bytes, hml, hown, hts⟩, tysW_C hKW, hI, fun f i h => Or.inl ⟨f, i, h, rfl⟩, fun q h => Or.inr (Or.inr h), hN90⟩
  have hkb : (kArr M n) ≤ 3 ∧ (kArr M n) ≠ 1 ∧ (kArr M n) ≠ 2 := by unfold kArr; (repeat' split) <;> simp
  rw [lg_entry_eq]
  have hl90 := lv_entry ([.ref (ad 0 0), iv n] ++ [.ref o]) (n := 4) (Nat.le_of_ble_eq_true rfl)
  generalize (lg_sl ([.ref (ad 0 0), iv n] ++ [.ref o]) ++ List.replicate (4 - (lg_sl ([.ref (ad 0 0), iv n] ++ [.ref o])).length) Slot.unset).toArray = ls at hl90 ⊢
  have hl90 : lv_has ls 4 [(0, .ref (ad 0 0)), (1, iv n), (2, .ref o)] := hl90
  refine lv_aload_n B.exec B.bytes dL_arrives_0 rfl (lv_at hl90 2 rfl) ?_
  refine lv_iconst B.exec B.bytes dL_arrives_1 rfl ?_
  refine lv_aload_n B.exec B.bytes dL_arrives_2 rfl (lv_at hl90 0 rfl) ?_
  refine lv_iload_n B.exec B.bytes dL_arrives_3 rfl (lv_at hl90 1 rfl) ?_
  have hcat : (kArr M n) ≠ 0 → zCat s ([.ref (ad 0 0), iv n] ++ [.ref o] : List Value).toArray c "ZipCanopyLaw" 4 (zEx (kArr M n)) (if (kArr M n) = 3 then 12 else 0) := by
    intro hk0
    have htab : c.exceptionTable.toList = [⟨0, 9, 12, 21⟩] := htab
    generalize (kArr M n) = k9 at hkb hk0 ⊢
    rcases (show k9 = 3 by omega) with rfl
    · exact ⟨[], ⟨0, 9, 12, 21⟩, [], "java/lang/IndexOutOfBoundsException", htab, (fun z hz => by cases hz), by decide, by decide, hts _ (zin 514 (by decide +kernel) rfl), znl_use hN90 _ (znin 525 (by decide +kernel) rfl), rfl⟩
  refine zw_call (As := [iv n]) (rest := [iv 0, .ref o]) hC hX90 zlL_58 (tmC_0 ad tc _) rfl (k_X8_arrives l hlt D tc ad hI M n hW hn hT hU) rfl (Nat.le_of_ble_eq_true rfl) ⟨by decide, by decide⟩ ⟨by decide, by decide⟩ dL_arrives_4 hw90 hl90.1 hcat ?_ ?_
  · intro hk H1 locs1 hw1 hkeep hS1
    exact zw_end0 hC hKW B.returns B.notSynchronized hw1 ho90 hoC hkeep hS1 hk (by rw [hk]; rfl) 15 dL_arrives_7 dL_arrives_8 dL_arrives_9 (by decide) dL_arrives_15 dL_arrives_16
  · intro hk H1 locs1 q99 hw1 hkeep hS1
    rcases (show (kArr M n) = 3 by omega) with hk9
    · rw [show (if (kArr M n) = 3 then 12 else 0) = 12 by rw [hk9]; rfl]
      exact zw_endx hC B.returns B.notSynchronized hw1 ho90 hoC hkeep hS1 hk hl90 (i := 3) (n9 := 1) (by rw [hk9]; rfl) (by rfl) (by decide) (fun h => lv_astore_n B.exec B.bytes dL_arrives_12 rfl hl90 (by decide) rfl (fun ls2 _ => h ls2)) dL_arrives_13 dL_arrives_14
set_option maxHeartbeats 4000000 in
set_option maxRecDepth 100000 in
theorem w_advise (l : Launch) (hlt : l.stackTraces = false) (D : va_G) (tc : Nat → ClassId) (tL : ClassId) (ad : Nat → Nat → Nat) (hI : zI ad okC) (o : Nat) (hoC : ∀ f i, okC f i → ad f i ≠ o) (M : zM) {T U : Int} (n : Int) (hW : WTC T U M) (hn : -2147483648 ≤ n ∧ n < 2147483648) (hT : T + 400 ≤ 1000000) (hU : U + 20000 ≤ 100000000) : zWm l yL_advise cL_advise 4 [(0, 9, 12, 13)] 8 D tc tL ad o [.ref (ad 0 0), iv n] M (kAdv n) (wcd 1 0 0 (kAdv n)) ((advN M n (M 1 0 5).toNat).2.2) ((advN M n (M 1 0 5).toNat).1) := by
  intro sz v
  refine z_ofWH (cc := cL_advise) (maxL := 4) (ret := some .int) (plainFor_of_name (by decide)) rfl ?_
  intro p e s m args below meth c s₁ B hml htab hv
  obtain ⟨rfl, hsz, hw90, ho90, hKW, hN90, hX90, hNc⟩ := hv
  subst hsz
  have hts9 := atoms_spec B.pre
  have hown : s.vm.findClass "ZipCanopyLaw" = some m.cls := findClass_of_methodNamed B.named
  have hts : ∀ x ∈ zbig, x.before _ s = true := fun x h => hts9 x (List.mem_cons_of_mem _ h)
  have hC : zC p s m _ c D (tysC tc) ad okC (zWF ad o s.heap.size) s.heap cL_advise 4 "ZipCanopyLaw" := ⟨⟨B.exec, B.bytes, hml, hown, hts⟩, tysW_C hKW, hI, fun f i h => Or.inl ⟨f, i, h, rfl⟩, fun q h => Or.inr (Or.inr h), hN90⟩
  have hkb : (kAdv n) ≤ 3 ∧ (kAdv n) ≠ 2 ∧ (kAdv n) ≠ 3 := by unfold kAdv; (repeat' split) <;> simp
  rw [lg_entry_eq]
  have hl90 := lv_entry ([.ref (ad 0 0), iv n] ++ [.ref o]) (n := 4) (Nat.le_of_ble_eq_true rfl)
  generalize (lg_sl ([.ref (ad 0 0), iv n] ++ [.ref o]) ++ List.replicate (4 - (lg_sl ([.ref (ad 0 0), iv n] ++ [.ref o])).length) Slot.unset).toArray = ls at hl90 ⊢
  have hl90 : lv_has ls 4 [(0, .ref (ad 0 0)), (1, iv n), (2, .ref o)] := hl90
  refine lv_aload_n B.exec B.bytes dL_advise_0 rfl (lv_at hl90 2 rfl) ?_
  refine lv_iconst B.exec B.bytes dL_advise_1 rfl ?_
  refine lv_aload_n B.exec B.bytes dL_advise_2 rfl (lv_at hl90 0 rfl) ?_
  refine lv_iload_n B.exec B.bytes dL_advise_3 rfl (lv_at hl90 1 rfl) ?_
  have hcat : (kAdv n) ≠ 0 → zCat s ([.ref (ad 0 0), iv n] ++ [.ref o] : List Value).toArray c "ZipCanopyLaw" 4 (zEx (kAdv n)) (if (kAdv n) = 1 then 12 else 0) := by
    intro hk0
    have htab : c.exceptionTable.toList = [⟨0, 9, 12, 13⟩] := htab
    generalize (kAdv n) = k9 at hkb hk0 ⊢
    rcases (show k9 = 1 by omega) with rfl
    · exact ⟨[], ⟨0, 9, 12, 13⟩, [], "java/lang/IllegalArgumentException", htab, (fun z hz => by cases hz), by decide, by decide, hts _ (zin 412 (by decide +kernel) rfl), znl_use hN90 _ (znin 421 (by decide +kernel) rfl), rfl⟩
  refine zw_call (As := [iv n]) (rest := [iv 0, .ref o]) hC hX90 zlL_61 (tmC_0 ad tc _) rfl (k_X8_advise l hlt D tc ad hI M n hW hn hT hU) rfl (Nat.le_of_ble_eq_true rfl) ⟨by decide, by decide⟩ ⟨by decide, by decide⟩ dL_advise_4 hw90 hl90.1 hcat ?_ ?_
  · intro hk H1 locs1 hw1 hkeep hS1
    exact zw_end0 hC hKW B.returns B.notSynchronized hw1 ho90 hoC hkeep hS1 hk (by rw [hk]; rfl) 15 dL_advise_7 dL_advise_8 dL_advise_9 (by decide) dL_advise_15 dL_advise_16
  · intro hk H1 locs1 q99 hw1 hkeep hS1
    rcases (show (kAdv n) = 1 by omega) with hk9
    · rw [show (if (kAdv n) = 1 then 12 else 0) = 12 by rw [hk9]; rfl]
      exact zw_endx hC B.returns B.notSynchronized hw1 ho90 hoC hkeep hS1 hk hl90 (i := 3) (n9 := 1) (by rw [hk9]; rfl) (by rfl) (by decide) (fun h => lv_astore_n B.exec B.bytes dL_advise_12 rfl hl90 (by decide) rfl (fun ls2 _ => h ls2)) dL_advise_13 dL_advise_14
