/-! THE CLAIM OUT OF ONE WALK OF THE LAW'S BODY. Your part is whole_start (and what it stands on); all else here is the same for every law, but numbers. -/
def lw_P (b : Addr) (xs : List Int32) (args : Array Value) (s : State) : Prop := args = #[.ref b] ∧ s.IntsAt b xs ∧ xs.length ≤ 260 ∧ (Jvm.Cond.and given_1 narrow_1).before args s = true
def lw_Q (_ : Array Value) (s : State) (o : Outcome) (t : State) : Prop := o = .returned (some (.int 1)) ∧ Framed s o t [] 602799 7293227
def lw_Z (below : List Frame) (a : Array Value) (s : State) : State → Prop := fun t => ∃ o, t.status = .running ∧ Ended t below o ∧ lw_Q a s o t
/-- the law's own end, with 1 on the stack, nothing written that was there before, its room as the claim has it -/
theorem lw_ret {p : Program} {l : Launch} {e : Env} {s : State} {m : MethodId} {below : List Frame} {meth : Method} {c : Code} {b : Nat} (hx : p.tables.exec = Jvm.exec) (hb : c.code = code) (hr : meth.sig.returnType = ret) (hlocks : meth.locks = false) {pc : Nat} {H : Heap} {ls : Array Slot} (hdg : decode code pc = .ok (.ireturn, 1)) : W p l e room_1 s m #[Value.ref b] below meth c H [] 602799 7293227 (lw_Z below #[Value.ref b] s) (F0 m pc ls [.int 1]) := by
  intro T hT X
  obtain ⟨fs, hret, hrun, hended, hW, hframe⟩ := X.leave (v := some (.int 1)) (hlocks := hlocks) (fun h => by rw [hr] at h; cases h)
  have hmeth' : T.vm.method? m = some meth := X.method'
  refine ⟨T.setFrames fs, ?_, .returned (some (.int 1)), hrun, hended, rfl, ⟨_, rfl⟩, hW, hframe⟩
  jvm_step X.here [X.here.top, hx, hb, hdg, hmeth', hr, ret, narrow_b1]
  (try refine ⟨rfl, ?_⟩); (try refine ⟨rfl, ?_⟩)
  first | (intro acts; rw [hret _ acts rfl rfl rfl]) | rw [hret _ _ rfl rfl rfl]
  exact Steps.refl _
/-- what holds at the law's entry: the machine, the code, the tables' words (any of lw_tbl by 'hts w (by decide +kernel)'), the script of L ints xs at the cell b, what the Statement gives of the start (any of its parts by flat_of_before) -/
def lw_At (p : Program) (s : State) (m : MethodId) (meth : Method) (c : Code) (b L : Nat) (xs : Nat → Int32) : Prop :=
  p.tables.exec = Jvm.exec ∧ c.code = code ∧ meth.sig.returnType = ret ∧ c.maxLocals = 23 ∧ s.vm.findClass R_law = some m.cls ∧ (∀ w ∈ lw_tbl, w.before #[Value.ref b] s = true) ∧ va_X b L xs s s.heap ∧ b < s.heap.size ∧ meth.locks = false ∧ (Jvm.Cond.and given_1 narrow_1).before #[Value.ref b] s = true
/-! the law: its loop, its start -/
set_option maxHeartbeats 4000000 in
set_option maxRecDepth 100000 in
theorem law_loop {p : Program} {l : Launch} {e : Env} {s : State} {m : MethodId} {args : Array Value} {below : List Frame} {meth : Method} {c : Code} {Q : State → Prop} {D : va_G} {tc : Nat → ClassId} {b : Nat} {A : Nat → Prop} {H0 : Heap} {sb Ls : Nat} {xs : Nat → Int32} (hlt : l.stackTraces = false) (hK : zLK p s m args c D tc b A H0 cL_law 23 sb Ls xs) (hA : ∀ q, b ≤ q → A q) {P : Int} (hP : 2 ≤ P ∧ P ≤ 8) (hend : ∀ (C : zM) (t : Nat), zQ p l e room_1 s m args below meth c Q D tc b A H0 23 (602799) (7293227) C [] [(0, .ref sb), (1, .ref (adC b 0 0)), (2, iv P), (3, iv ((t : Nat) : Int))] 959 []) : ∀ (d t : Nat) (C : zM), 45 - t = d → t ≤ 45 → GS (40 + 7 * t) C → C 1 0 4 = P → 1 ≤ C 1 0 5 → zQ p l e room_1 s m args below meth c Q D tc b A H0 23 (1000 + 2000 * t) (10000 + 20000 * t) C [] [(0, .ref sb), (1, .ref (adC b 0 0)), (2, iv P), (3, iv ((t : Nat) : Int))] 14 [] := by
  have hC := hK.1
  intro d
  induction d using Nat.strongRecOn with
  | _ d ih =>
    intro t C hd ht hG h4 h5
    refine zq_iload_n hC 3 rfl dL_law_14 rfl ?_
    refine zq_bipush hC dL_law_15 (by decide) ?_
    refine zq_icmp_ge hC 959 dL_law_17 (by decide) (by omega) (by omega) (fun c17 => ?_) (fun c17 => ?_)
    · refine zq_widen (k := 602799) (n := 7293227) (by omega) (by omega) ?_
      exact hend C t
    · refine law_A hlt hK hA (by omega) (by omega) hP hG (by omega) h4 h5 (by omega) (fun C1 x G1 a1 b1 => ?_)
      refine law_B hlt hK hA (by omega) (by omega) hP G1 (by omega) a1 b1 (fun C2 G2 a2 b2 => ?_)
      refine law_B2 hlt hK hA (by omega) (by omega) hP G2 (by omega) a2 b2 (fun C3 G3 a3 b3 => ?_)
      refine law_C1 hlt hK hA (by omega) (by omega) hP G3 (by omega) a3 b3 (by omega) (fun C4 G4 a4 b4 r4 d4 => ?_)
      refine law_C2 hlt hK hA (by omega) (by omega) hP G4 (by omega) a4 b4 r4 d4 (fun C5 G5 a5 b5 r5 d5 => ?_)
      refine law_C3 hlt hK hA (by omega) (by omega) hP G5 (by omega) a5 b5 r5 d5 (fun C6 G6 a6 b6 r6 => ?_)
      refine law_D hlt hK hA (by omega) (by omega) hP G6 (by omega) a6 b6 r6 (fun w1 w2 f1 f2 hne hf1 hf2 => ?_)
      refine law_E hlt hK hA (by omega) (by omega) hP G6 (by omega) a6 b6 (fun C7 G7 M7 p7 => ?_)
      have r7 : C7 1 0 6 = C3 1 0 6 := by rw [p7]; exact r6
      have a7 : C7 1 0 4 = P := by rw [p7]; exact a6
      have b7 : 1 ≤ C7 1 0 5 := by rw [p7]; exact b6
      refine law_F hlt hK hA (by omega) (by omega) G7 (by omega) r7 (fun k hk => ?_) ?_
      · have e1 := hf1 k hk
        have e2 := hf2 k hk
        obtain ⟨m1, m2⟩ := M7 k (by rw [r6]; exact hk)
        obtain ⟨s0, s2, sn2, s00, s1, s4, s5⟩ := gs_rider G6 (by omega) (r := k) (by rw [r6]; exact hk)
        rw [e1, e2]
        exact ⟨m1, m2, s0.1, s0.2, s4.1⟩
      refine law_G hlt hK hA (by omega) (by omega) hP G7 (by omega) a7 r7 ?_
      refine law_H hlt hK hA (by omega) (by omega) G7 (by omega) ?_
      refine law_I hlt hK hA (by omega) (by omega) G7 (by omega) r7 rfl rfl rfl rfl rfl rfl rfl rfl ?_
      have G8 : GS (40 + 7 * (t + 1)) C7 := by
        rw [show 40 + 7 * (t + 1) = 40 + 7 * t + 1 + 1 + 1 + 1 + 1 + 1 + 1 by omega]
        exact G7
      refine zq_widen (k := 1000 + 2000 * (t + 1)) (n := 10000 + 20000 * (t + 1)) (by omega) (by omega) ?_
      exact ih _ (by omega) (t + 1) C7 rfl (by omega) G8 a7 b7
theorem z_arr_prim {s : State} {args : Array Value} {ty : FieldType} (h : (Cond.arrayClass ty).before args s = true) : ∃ c, ArrOfT s c ty ∧ s.vm.findClass ("[" ++ ty.toString) = some c ∧ ∀ t, t = ty → True := by
  obtain ⟨c, k, comp, h1, h2, h3⟩ := Cond.arrayClass_spec h
  exact ⟨c, fun n z => ⟨fun k h => (by cases h), k, h2, comp, h3⟩, h1, fun _ _ => trivial⟩
theorem z_arr_obj {s : State} {args : Array Value} {C : String} (h : (Cond.arrayOver (.object C)).before args s = true) : ∃ c, ArrOfT s c (.object C) ∧ va_RA s c (.object C) := by
  obtain ⟨comp, c, k, h1, h2, h3, h4, h5⟩ := Cond.arrayOver_spec h
  exact ⟨c, fun n z => ⟨fun k h => (by cases h), k, h3, comp, h4⟩, k, comp, h3, h4, h1, h5⟩
theorem z_K {s : State} {args : Array Value} (h : ∀ w ∈ lw_tbl, w.before args s = true) : ∃ (D : va_G) (tc : Nat → ClassId), va_K D vwCl (tysC tc) s := by
  have hz : ∀ w ∈ zbig, w.before args s = true := fun w hw => h w (List.mem_filter.mp hw).1
  obtain ⟨c0, i0, k0⟩ := u_known (ws := zbig) hz zwX0 (hz (.instantiable RX0 7) (zin 453 (by decide +kernel) rfl))
  obtain ⟨c1, i1, k1⟩ := u_known (ws := zbig) hz zwX1 (hz (.instantiable RX1 5) (zin 485 (by decide +kernel) rfl))
  obtain ⟨c2, i2, k2⟩ := u_known (ws := zbig) hz zwX2 (hz (.instantiable RX2 3) (zin 464 (by decide +kernel) rfl))
  obtain ⟨c3, i3, k3⟩ := u_known (ws := zbig) hz zwX3 (hz (.instantiable RX3 4) (zin 517 (by decide +kernel) rfl))
  obtain ⟨c4, i4, k4⟩ := u_known (ws := zbig) hz zwX4 (hz (.instantiable RX4 2) (zin 238 (by decide +kernel) rfl))
  obtain ⟨c5, i5, k5⟩ := u_known (ws := zbig) hz zwX5 (hz (.instantiable RX5 6) (zin 307 (by decide +kernel) rfl))
  obtain ⟨c6, i6, k6⟩ := u_known (ws := zbig) hz zwX6 (hz (.instantiable RX6 6) (zin 602 (by decide +kernel) rfl))
  obtain ⟨c7, i7, k7⟩ := u_known (ws := zbig) hz zwX7 (hz (.instantiable RX7 6) (zin 635 (by decide +kernel) rfl))
  obtain ⟨c8, i8, k8⟩ := u_known (ws := zbig) hz zwX8 (hz (.instantiable RX8 4) (zin 40 (by decide +kernel) rfl))
  obtain ⟨t0, a0, r0, -⟩ := z_arr_prim (ty := .int) (hz _ zwint)
  obtain ⟨t1, a1, r1⟩ := z_arr_obj (C := "ZipCanopy$Platform") (h _ (List.mem_of_getElem? (i := 459) (by decide +kernel)))
  obtain ⟨t2, a2, r2⟩ := z_arr_obj (C := "ZipCanopy$Line") (h _ (List.mem_of_getElem? (i := 461) (by decide +kernel)))
  obtain ⟨t3, a3, r3⟩ := z_arr_obj (C := "ZipCanopy$Rider") (h _ (List.mem_of_getElem? (i := 463) (by decide +kernel)))
  obtain ⟨t4, a4, r4⟩ := z_arr_obj (C := "ZipCanopy$Trip") (h _ (List.mem_of_getElem? (i := 599) (by decide +kernel)))
  obtain ⟨t5, a5, r5⟩ := z_arr_obj (C := "ZipCanopy$Trolleys") (h _ (List.mem_of_getElem? (i := 601) (by decide +kernel)))
  refine ⟨(fun c => match c with | 0 => c0 | 1 => c1 | 2 => c2 | 3 => c3 | 4 => c4 | 5 => c5 | 6 => c6 | 7 => c7 | _ => c8, fun c => match c with | 0 => i0 | 1 => i1 | 2 => i2 | 3 => i3 | 4 => i4 | 5 => i5 | 6 => i6 | 7 => i7 | _ => i8), fun t => match t with | 0 => t0 | 1 => t1 | 2 => t2 | 3 => t3 | 4 => t4 | _ => t5, ?_, ?_⟩
  · intro c q hq
    match c, hq with
    | 0, hq => cases hq; exact k0
    | 1, hq => cases hq; exact k1
    | 2, hq => cases hq; exact k2
    | 3, hq => cases hq; exact k3
    | 4, hq => cases hq; exact k4
    | 5, hq => cases hq; exact k5
    | 6, hq => cases hq; exact k6
    | 7, hq => cases hq; exact k7
    | 8, hq => cases hq; exact k8
    | c + 9, hq => simp at hq
  · intro t q hq
    have hq : ([(t0, FieldType.int), (t1, .object "ZipCanopy$Platform"), (t2, .object "ZipCanopy$Line"), (t3, .object "ZipCanopy$Rider"), (t4, .object "ZipCanopy$Trip"), (t5, .object "ZipCanopy$Trolleys")] : List (ClassId × FieldType))[t]? = some q := hq
    match t, hq with
    | 0, hq => cases hq; exact ⟨a0, r0⟩
    | 1, hq => cases hq; exact ⟨a1, r1⟩
    | 2, hq => cases hq; exact ⟨a2, r2⟩
    | 3, hq => cases hq; exact ⟨a3, r3⟩
    | 4, hq => cases hq; exact ⟨a4, r4⟩
    | 5, hq => cases hq; exact ⟨a5, r5⟩
    | t + 6, hq => simp at hq
theorem z_AO {s : State} {args : Array Value} (h : ∀ w ∈ lw_tbl, w.before args s = true) : zAO s := by
  intro C hC
  rcases List.mem_cons.mp hC with rfl | hC
  · exact va_AO.of (h _ (List.mem_of_getElem? (i := 459) (by decide +kernel)))
  rcases List.mem_cons.mp hC with rfl | hC
  · exact va_AO.of (h _ (List.mem_of_getElem? (i := 461) (by decide +kernel)))
  rcases List.mem_cons.mp hC with rfl | hC
  · exact va_AO.of (h _ (List.mem_of_getElem? (i := 463) (by decide +kernel)))
  rcases List.mem_cons.mp hC with rfl | hC
  · exact va_AO.of (h _ (List.mem_of_getElem? (i := 599) (by decide +kernel)))
  rcases List.mem_cons.mp hC with rfl | hC
  · exact va_AO.of (h _ (List.mem_of_getElem? (i := 601) (by decide +kernel)))
  cases hC
theorem z_str {s : State} {args : Array Value} (h : ∀ w ∈ lw_tbl, w.before args s = true) : zStr s := by
  have hc : ∀ q ∈ zXs, Cond.stringRef "ZipCanopy" q.1 q.2 ∈ lw_tbl := by decide +kernel
  have hi : (Cond.instantiable RX8 4).before args s = true := h _ (List.mem_of_getElem? (i := 40) (by decide +kernel))
  obtain ⟨cC, kC, hfc, hk, hkind, -⟩ := Cond.instantiable_spec hi
  intro q hq
  have h1 := h _ (hc q hq)
  obtain ⟨k, cf, i, a, g1, g2, g3, g4, g5, g6⟩ := Cond.stringRef_spec hfc h1
  exact ⟨a, vk_R.of h1 g6⟩
theorem z_xf {s : State} {args : Array Value} (h : ∀ w ∈ lw_tbl, w.before args s = true) (hg : (Jvm.Cond.and given_1 narrow_1).before args s = true) {A : Nat → Prop} (hA : ∀ a : Nat, a < s.heap.size → ¬ A a) : zXf A s s.heap := by
  have hs := flat_of_before _ hg
  exact ⟨z_str h, vx_Zqof (h _ (List.mem_of_getElem? (i := 74) (by decide +kernel))) (h _ (List.mem_of_getElem? (i := 26) (by decide +kernel))) (hs _ (by decide +kernel)) hA, vx_Zqof (h _ (List.mem_of_getElem? (i := 76) (by decide +kernel))) (h _ (List.mem_of_getElem? (i := 26) (by decide +kernel))) (hs _ (by decide +kernel)) hA⟩
set_option maxHeartbeats 4000000 in
set_option maxRecDepth 100000 in
theorem law_start {p : Program} {e : Env} {s : State} {m : MethodId} {below : List Frame} {meth : Method} {c : Code} (l : Launch) (hflags : l.flags = flags0) {sb Ls : Nat} {xs : Nat → Int32} (hL : Ls ≤ 260) (C0 : lw_At p s m meth c sb Ls xs) : W p l e room_1 s m #[Value.ref sb] below meth c s.heap [] 0 0 (lw_Z below #[Value.ref sb] s) (entryFrame m ([Value.ref sb] : List Value).toArray 23) := by
  obtain ⟨hx, hb, hr, hml, hown, hts, hXs, hbl, hlk, hgv⟩ := C0
  have hlt : l.stackTraces = false := by unfold Launch.stackTraces; rw [hflags]; decide
  obtain ⟨D, tc, hKn⟩ := z_K hts
  have hz : ∀ w ∈ zbig, w.before #[Value.ref sb] s = true := fun w hw => hts w (List.mem_filter.mp hw).1
  have hN := znl_start hts
  have hA9 : ∀ a : Nat, a < s.heap.size → ¬ (s.heap.size ≤ a) := fun a h1 h2 => by omega
  have hX := z_xf hts hgv (A := fun q => s.heap.size ≤ q) hA9
  have hAO := z_AO hts
  obtain ⟨b, hbE⟩ : ∃ b, b = s.heap.size := ⟨_, rfl⟩
  rw [← hbE] at hX
  have hown9 : s.vm.findClass RL = some m.cls := hown
  have hC : zC p s m #[Value.ref sb] c D (tysC tc) (adC b) okC (fun q => b ≤ q) s.heap cL_law 23 RL := ⟨⟨hx, hb, hml, hown9, hz⟩, hKn, zI_adC b, fun f i _ => adC_ge b f i, fun q h => by show b ≤ q; omega, hN⟩
  have hK : zLK p s m #[Value.ref sb] c D tc b (fun q => b ≤ q) s.heap cL_law 23 sb Ls xs := ⟨hC, hX, hXs, hbl, fun z => by have z9 : b ≤ sb := z; omega, by omega, hL⟩
  rw [lg_entry_eq]
  have hl := lv_entry ([.ref sb]) (n := 23) (Nat.le_of_ble_eq_true rfl)
  generalize (lg_sl ([.ref sb]) ++ List.replicate (23 - (lg_sl ([.ref sb])).length) Slot.unset).toArray = ls at hl ⊢
  have hl : lv_has ls 23 [(0, .ref sb)] := hl
  refine lv_aload_n hx hb dL_law_0 rfl (lv_at hl 0 rfl) ?_
  refine lv_iconst hx hb dL_law_1 (v := Int32.ofInt 1) rfl ?_
  have cw : CallB room_1 s #[Value.ref sb] RL 36 yL_canopy cL_canopy 8 (some (.object "ZipCanopy")) (zws yL_canopy cL_canopy 8 (some (.object "ZipCanopy"))) (zrm 7 300 1500) 300 1500 2 ∧ (Cond.static yL_canopy).before #[Value.ref sb] s = true := ⟨z_callB hC (fun w h => zlL_36.1 w (by simp only [List.mem_cons, List.not_mem_nil, or_false] at h ⊢; rcases h with h | h | h <;> simp [h])) zlL_36.2 ⟨by decide, by decide⟩, hz _ (zlL_36.1 _ (by simp))⟩
  refine va_callr (va_runS (As := [Value.ref sb, iv 1]) (rest := []) hC.1 (k_L_canopy l hlt D tc b sb Ls xs hL) cw ⟨zPreK_blind, fun U hU hW2 => ⟨rfl, by rw [hU]; exact hbE.symm, va_K.moved hW2.alike hKn, znl_moved hW2 hN, by rw [hU]; exact hX.warm hW2, zAO.moved hW2.alike hAO, by rw [hU]; exact va_X.moved hW2.alike hXs, by omega⟩⟩ rfl rfl hl.1 rfl (lv_room (Nat.le_of_ble_eq_true rfl)) dL_law_2 ⟨by decide, by decide⟩) va_S.rf (fun q _ h => h) (fun q h => h) (fun u ra t H1 locs1 ht1 hvm hp hB hz1 hk1 hS1 => ?_)
  obtain ⟨hra, C, hG, h4, h5, hw⟩ := hB
  rw [ht1] at hw
  rw [hra]
  refine lv_astore_n hx hb dL_law_5 rfl hl (by decide) rfl (fun ls hl => ?_)
  have hW := hG.wt (show 40 ≤ 512 by omega)
  have hb4 : 0 ≤ C 1 0 4 ∧ C 1 0 4 ≤ 8 := hW.1 1 0 4
  have hgo : zQ p l e room_1 s m #[Value.ref sb] below meth c (lw_Z below #[Value.ref sb] s) D tc b (fun q => b ≤ q) s.heap 23 (300) (1500) C [] [(1, .ref (adC b 0 0)), (0, .ref sb)] 6 [] := by
    refine zq_aload_n hC 0 rfl dL_law_6 rfl ?_
    refine zq_iconst hC dL_law_7 ?_
    refine zq_call hC hX zlL_40 rfl (k_X8_count l hlt D tc (adC b) (zI_adC b) C 1 hW ⟨by decide, by decide⟩) (by decide) (r2 := (C 1 0 4)) (by rfl) rfl rfl (Nat.le_of_ble_eq_true rfl) ⟨by decide, by decide⟩ ⟨by show _ ≤ 602799; omega, by show _ ≤ 7293227; omega⟩ dL_law_8 ?_
    refine zq_istore_n hC (L' := [(2, iv (C 1 0 4)), (1, .ref (adC b 0 0)), (0, .ref sb)]) dL_law_11 rfl (by decide) rfl ?_
    refine zq_iconst hC dL_law_12 ?_
    refine zq_istore_n hC (L' := [(3, iv 0), (2, iv (C 1 0 4)), (1, .ref (adC b 0 0)), (0, .ref sb)]) dL_law_13 rfl (by decide) rfl ?_
    refine zq_perm [3, 2, 1, 0] (L' := [(0, .ref sb), (1, .ref (adC b 0 0)), (2, iv (C 1 0 4)), (3, iv 0)]) rfl ?_
    refine zq_widen (k := 1000 + 2000 * 0) (n := 10000 + 20000 * 0) (by omega) (by omega) ?_
    refine zq_conv (law_loop (e := e) (below := below) (meth := meth) (Q := lw_Z below #[Value.ref sb] s) hlt hK (fun q h => h) (P := C 1 0 4) ⟨h4, hb4.2⟩ (fun C9 t9 => ?_) 45 0 C rfl (by omega) hG rfl h5) rfl rfl rfl rfl
    intro H locs ls hw hS hl
    refine lv_iconst hx hb dL_law_959 (v := 1) rfl ?_
    refine va_forget (fun q hq => by have h9 : b ≤ q.base := hS.2.2 q hq; omega) ?_
    exact lw_ret hx hb hr hlk dL_law_960
  exact hgo H1 locs1 ls ⟨hw, fun x hx => absurd hx List.not_mem_nil⟩ hS1 hl
