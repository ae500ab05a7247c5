/-! THE CLAIM OUT OF ONE WALK OF THE LAW'S BODY. Your part is whole_start (and what it stands on); all else here is the same for every law, but numbers. -/
def lw_P (b : Addr) (xs : List Int32) (args : Array Value) (s : State) : Prop := args = #[.ref b] ∧ s.IntsAt b xs ∧ xs.length ≤ 2560 ∧ (Jvm.Cond.and given_1 narrow_1).before args s = true
/-- what a walk over the start with the record d0 says of its end, said of the start itself -/
theorem lw_closed {s t : State} {o : Outcome} {d0 : Drawn} {L : List Loc} {k n : Nat} (hd0 : s.drawn.sameBut d0 lw_cs) (hv : ∃ v, o = .returned v) (hW : (s.setDrawn d0).WarmedH t.vm) (hs : (s.setDrawn d0).sameButNew ({ t with vm := s.vm } : State) L k n) : State.butDraws s t lw_cs (fun t1 => Framed s o t1 L k n) := by
  have h2 : t.drawn = d0 := congrArg State.drawn hs.1
  refine ⟨⟨hv, hW, State.sameButNew.setDrawn hs s.drawn⟩, ?_, by decide⟩
  rw [h2]
  exact hd0
def lw_Q (_ : Array Value) (s : State) (o : Outcome) (t : State) : Prop := o = .returned (some (.int 1)) ∧ State.butDraws s t lw_cs (fun t1 => Framed s o t1 [] 601024 7293034)
def lw_Z (below : List Frame) (a : Array Value) (s : State) : State → Prop := fun t => ∃ o, t.status = .running ∧ Ended t below o ∧ lw_Q a s o t
/-- the law's own end, with 1 on the stack, nothing written that was there before, its room as the claim has it; d0: the record of draws at this point (at the entry s.drawn: begin with 'refine W.base ?_' and 'have hd0 := Drawn.sameBut.refl s.drawn lw_cs') -/
theorem lw_ret {p : Program} {l : Launch} {e : Env} {s : State} {m : MethodId} {below : List Frame} {meth : Method} {c : Code} {b : Nat} {d0 : Drawn} (hd0 : s.drawn.sameBut d0 lw_cs) (hx : p.tables.exec = Jvm.exec) (hb : c.code = code) (hr : meth.sig.returnType = ret) (hlocks : meth.locks = false) {pc : Nat} {H : Heap} {ls : Array Slot} (hdg : decode code pc = .ok (.ireturn, 1)) : W p l e room_1 (s.setDrawn d0) m #[Value.ref b] below meth c H [] 601024 7293034 (lw_Z below #[Value.ref b] s) (F0 m pc ls [.int 1]) := by
  intro T hT X
  obtain ⟨fs, hret, hrun, hended, hW, hframe⟩ := X.leave (v := some (.int 1)) (hlocks := hlocks) (fun h => by rw [hr] at h; cases h)
  have hmeth' : T.vm.method? m = some meth := X.method'
  refine ⟨T.setFrames fs, ?_, .returned (some (.int 1)), hrun, hended, rfl, lw_closed hd0 ⟨_, rfl⟩ hW hframe⟩
  jvm_step X.here [X.here.top, hx, hb, hdg, hmeth', hr, ret, narrow_b1]
  (try refine ⟨rfl, ?_⟩); (try refine ⟨rfl, ?_⟩)
  first | (intro acts; rw [hret _ acts rfl rfl rfl]) | rw [hret _ _ rfl rfl rfl]
  exact Steps.refl _
/-- what holds at the law's entry: the machine, the code, the tables' words (any of lw_tbl by 'hts w (by decide +kernel)'), the script of L ints xs at the cell b, what the Statement gives of the start (any of its parts by flat_of_before) -/
def lw_At (p : Program) (s : State) (m : MethodId) (meth : Method) (c : Code) (b L : Nat) (xs : Nat → Int32) : Prop :=
  p.tables.exec = Jvm.exec ∧ c.code = code ∧ meth.sig.returnType = ret ∧ c.maxLocals = 9 ∧ s.vm.findClass R_law = some m.cls ∧ (∀ w ∈ lw_tbl, w.before #[Value.ref b] s = true) ∧ va_X b L xs s s.heap ∧ b < s.heap.size ∧ meth.locks = false ∧ (Jvm.Cond.and given_1 narrow_1).before #[Value.ref b] s = true

/-! the law's start: the tables' classes, the two worlds made, the row of one long -/
theorem z_arr_prim {s : State} {args : Array Value} {ty : FieldType} (h : (Cond.arrayClass ty).before args s = true) : ∃ c, ArrOfT s c ty ∧ s.vm.findClass ("[" ++ ty.toString) = some c ∧ ∀ t, t = ty → True := by
  obtain ⟨c, k, comp, h1, h2, h3⟩ := Cond.arrayClass_spec h
  exact ⟨c, fun n z => ⟨fun k h => (by cases h), k, h2, comp, h3⟩, h1, fun _ _ => trivial⟩
theorem z_arr_obj {s : State} {args : Array Value} {C : String} (h : (Cond.arrayOver (.object C)).before args s = true) : ∃ c, ArrOfT s c (.object C) ∧ va_RA s c (.object C) := by
  obtain ⟨comp, c, k, h1, h2, h3, h4, h5⟩ := Cond.arrayOver_spec h
  exact ⟨c, fun n z => ⟨fun k h => (by cases h), k, h3, comp, h4⟩, k, comp, h3, h4, h1, h5⟩
theorem z_K {s : State} {args : Array Value} (h : ∀ w ∈ lw_tbl, w.before args s = true) : ∃ (D : va_G) (tc : Nat → ClassId) (tL : ClassId), va_K D vwCl (tysW tc tL) s := by
  have hz : ∀ w ∈ zbig, w.before args s = true := fun w hw => h w (List.mem_filter.mp hw).1
  obtain ⟨c0, i0, k0⟩ := u_known (ws := zbig) hz zwX0 (hz (.instantiable RX0 7) (zin 63 (by decide +kernel) rfl))
  obtain ⟨c1, i1, k1⟩ := u_known (ws := zbig) hz zwX1 (hz (.instantiable RX1 5) (zin 95 (by decide +kernel) rfl))
  obtain ⟨c2, i2, k2⟩ := u_known (ws := zbig) hz zwX2 (hz (.instantiable RX2 3) (zin 74 (by decide +kernel) rfl))
  obtain ⟨c3, i3, k3⟩ := u_known (ws := zbig) hz zwX3 (hz (.instantiable RX3 4) (zin 127 (by decide +kernel) rfl))
  obtain ⟨c4, i4, k4⟩ := u_known (ws := zbig) hz zwX4 (hz (.instantiable RX4 2) (zin 133 (by decide +kernel) rfl))
  obtain ⟨c5, i5, k5⟩ := u_known (ws := zbig) hz zwX5 (hz (.instantiable RX5 6) (zin 205 (by decide +kernel) rfl))
  obtain ⟨c6, i6, k6⟩ := u_known (ws := zbig) hz zwX6 (hz (.instantiable RX6 6) (zin 214 (by decide +kernel) rfl))
  obtain ⟨c7, i7, k7⟩ := u_known (ws := zbig) hz zwX7 (hz (.instantiable RX7 6) (zin 247 (by decide +kernel) rfl))
  obtain ⟨c8, i8, k8⟩ := u_known (ws := zbig) hz zwX8 (hz (.instantiable RX8 4) (zin 55 (by decide +kernel) rfl))
  obtain ⟨c9, i9, k9⟩ := u_known (ws := zbig) hz zwX9 (hz (.instantiable RX9 15) (zin 816 (by decide +kernel) rfl))
  obtain ⟨c10, i10, k10⟩ := u_known (ws := zbig) hz zwX10 (hz (.instantiable RX10 16) (zin 810 (by decide +kernel) rfl))
  obtain ⟨t0, a0, r0, -⟩ := z_arr_prim (ty := .int) (hz _ zwint)
  obtain ⟨tL, aL, rL, -⟩ := z_arr_prim (ty := .long) (hz _ (zin 1121 (by decide +kernel) rfl))
  obtain ⟨t1, a1, r1⟩ := z_arr_obj (C := "ZipCanopy$Platform") (h _ (List.mem_of_getElem? (i := 69) (by decide +kernel)))
  obtain ⟨t2, a2, r2⟩ := z_arr_obj (C := "ZipCanopy$Line") (h _ (List.mem_of_getElem? (i := 71) (by decide +kernel)))
  obtain ⟨t3, a3, r3⟩ := z_arr_obj (C := "ZipCanopy$Rider") (h _ (List.mem_of_getElem? (i := 73) (by decide +kernel)))
  obtain ⟨t4, a4, r4⟩ := z_arr_obj (C := "ZipCanopy$Trip") (h _ (List.mem_of_getElem? (i := 211) (by decide +kernel)))
  obtain ⟨t5, a5, r5⟩ := z_arr_obj (C := "ZipCanopy$Trolleys") (h _ (List.mem_of_getElem? (i := 213) (by decide +kernel)))
  refine ⟨(fun c => match c with | 0 => c0 | 1 => c1 | 2 => c2 | 3 => c3 | 4 => c4 | 5 => c5 | 6 => c6 | 7 => c7 | 8 => c8 | 9 => c9 | _ => c10, fun c => match c with | 0 => i0 | 1 => i1 | 2 => i2 | 3 => i3 | 4 => i4 | 5 => i5 | 6 => i6 | 7 => i7 | 8 => i8 | 9 => i9 | _ => i10), fun t => match t with | 0 => t0 | 1 => t1 | 2 => t2 | 3 => t3 | 4 => t4 | _ => t5, tL, ?_, ?_⟩
  · intro c q hq
    match c, hq with
    | 0, hq => cases hq; exact k0
    | 1, hq => cases hq; exact k1
    | 2, hq => cases hq; exact k2
    | 3, hq => cases hq; exact k3
    | 4, hq => cases hq; exact k4
    | 5, hq => cases hq; exact k5
    | 6, hq => cases hq; exact k6
    | 7, hq => cases hq; exact k7
    | 8, hq => cases hq; exact k8
    | 9, hq => cases hq; exact k9
    | 10, hq => cases hq; exact k10
    | c + 11, hq => simp at hq
  · intro t q hq
    have hq : ([(t0, FieldType.int), (t1, .object "ZipCanopy$Platform"), (t2, .object "ZipCanopy$Line"), (t3, .object "ZipCanopy$Rider"), (t4, .object "ZipCanopy$Trip"), (t5, .object "ZipCanopy$Trolleys"), (tL, .long)] : List (ClassId × FieldType))[t]? = some q := hq
    match t, hq with
    | 0, hq => cases hq; exact ⟨a0, r0⟩
    | 1, hq => cases hq; exact ⟨a1, r1⟩
    | 2, hq => cases hq; exact ⟨a2, r2⟩
    | 3, hq => cases hq; exact ⟨a3, r3⟩
    | 4, hq => cases hq; exact ⟨a4, r4⟩
    | 5, hq => cases hq; exact ⟨a5, r5⟩
    | 6, hq => cases hq; exact ⟨aL, rL⟩
    | t + 7, hq => simp at hq
theorem z_AO {s : State} {args : Array Value} (h : ∀ w ∈ lw_tbl, w.before args s = true) : zAO s := by
  intro C hC
  rcases List.mem_cons.mp hC with rfl | hC
  · exact va_AO.of (h _ (List.mem_of_getElem? (i := 69) (by decide +kernel)))
  rcases List.mem_cons.mp hC with rfl | hC
  · exact va_AO.of (h _ (List.mem_of_getElem? (i := 71) (by decide +kernel)))
  rcases List.mem_cons.mp hC with rfl | hC
  · exact va_AO.of (h _ (List.mem_of_getElem? (i := 73) (by decide +kernel)))
  rcases List.mem_cons.mp hC with rfl | hC
  · exact va_AO.of (h _ (List.mem_of_getElem? (i := 211) (by decide +kernel)))
  rcases List.mem_cons.mp hC with rfl | hC
  · exact va_AO.of (h _ (List.mem_of_getElem? (i := 213) (by decide +kernel)))
  cases hC
theorem z_str {s : State} {args : Array Value} (h : ∀ w ∈ lw_tbl, w.before args s = true) : zStr s := by
  have hc : ∀ q ∈ zXs, Cond.stringRef "ZipCanopy" q.1 q.2 ∈ lw_tbl := by decide +kernel
  have hi : (Cond.instantiable RX8 4).before args s = true := h _ (List.mem_of_getElem? (i := 55) (by decide +kernel))
  obtain ⟨cC, kC, hfc, hk, hkind, -⟩ := Cond.instantiable_spec hi
  intro q hq
  have h1 := h _ (hc q hq)
  obtain ⟨k, cf, i, a, g1, g2, g3, g4, g5, g6⟩ := Cond.stringRef_spec hfc h1
  exact ⟨a, vk_R.of h1 g6⟩
theorem z_ncs {s : State} {args : Array Value} (h : (Jvm.Cond.and given_1 narrow_1).before args s = true) : zNcs s := by
  have hs := flat_of_before _ h
  have n12 : va_Nc (zEx 1) (zEx 2) s := va_Nc.of (hs (Cond.not (.castable "java/lang/IllegalArgumentException" "java/lang/IllegalStateException")) (by decide +kernel))
  have n13 : va_Nc (zEx 1) (zEx 3) s := va_Nc.of (hs (Cond.not (.castable "java/lang/IllegalArgumentException" "java/lang/IndexOutOfBoundsException")) (by decide +kernel))
  have n21 : va_Nc (zEx 2) (zEx 1) s := va_Nc.of (hs (Cond.not (.castable "java/lang/IllegalStateException" "java/lang/IllegalArgumentException")) (by decide +kernel))
  have n23 : va_Nc (zEx 2) (zEx 3) s := va_Nc.of (hs (Cond.not (.castable "java/lang/IllegalStateException" "java/lang/IndexOutOfBoundsException")) (by decide +kernel))
  have n31 : va_Nc (zEx 3) (zEx 1) s := va_Nc.of (hs (Cond.not (.castable "java/lang/IndexOutOfBoundsException" "java/lang/IllegalArgumentException")) (by decide +kernel))
  have n32 : va_Nc (zEx 3) (zEx 2) s := va_Nc.of (hs (Cond.not (.castable "java/lang/IndexOutOfBoundsException" "java/lang/IllegalStateException")) (by decide +kernel))
  intro a b h1 h2 h3 h4 h5
  rcases (show (a = 1 ∧ b = 2) ∨ (a = 1 ∧ b = 3) ∨ (a = 2 ∧ b = 1) ∨ (a = 2 ∧ b = 3) ∨ (a = 3 ∧ b = 1) ∨ (a = 3 ∧ b = 2) by omega) with ⟨rfl, rfl⟩ | ⟨rfl, rfl⟩ | ⟨rfl, rfl⟩ | ⟨rfl, rfl⟩ | ⟨rfl, rfl⟩ | ⟨rfl, rfl⟩
  · exact n12
  · exact n13
  · exact n21
  · exact n23
  · exact n31
  · exact n32
theorem z_xf {s : State} {args : Array Value} (h : ∀ w ∈ lw_tbl, w.before args s = true) (hg : (Jvm.Cond.and given_1 narrow_1).before args s = true) {A : Nat → Prop} (hA : ∀ a : Nat, a < s.heap.size → ¬ A a) : zXf A s s.heap := by
  have hs := flat_of_before _ hg
  exact ⟨z_str h, vx_Zqof (h _ (List.mem_of_getElem? (i := 446) (by decide +kernel))) (h _ (List.mem_of_getElem? (i := 46) (by decide +kernel))) (hs _ (by decide +kernel)) hA, vx_Zqof (h _ (List.mem_of_getElem? (i := 448) (by decide +kernel))) (h _ (List.mem_of_getElem? (i := 46) (by decide +kernel))) (hs _ (by decide +kernel)) hA⟩
set_option maxHeartbeats 4000000 in
set_option maxRecDepth 100000 in
theorem law_start (Rel : Nat → zM → zM → Prop) (hst : zSteps Rel) (h0 : Rel 0 M0C M0M) (hF : zNoNaN) {p : Program} {e : Env} {s : State} {m : MethodId} {below : List Frame} {meth : Method} {c : Code} (l : Launch) (hflags : l.flags = flags0) {sb Ls : Nat} {xs : Nat → Int32} (hL : Ls ≤ 2560) (C0 : lw_At p s m meth c sb Ls xs) : W p l e room_1 s m #[Value.ref sb] below meth c s.heap [] 0 0 (lw_Z below #[Value.ref sb] s) (entryFrame m ([Value.ref sb] : List Value).toArray 9) := by
  obtain ⟨hx, hb, hr, hml, hown, hts, hXs, hbl, hlk, hgv⟩ := C0
  have hlt : l.stackTraces = false := by unfold Launch.stackTraces; rw [hflags]; decide
  obtain ⟨D, tc, tL, hK⟩ := z_K hts
  have hz : ∀ w ∈ zbig, w.before #[Value.ref sb] s = true := fun w hw => hts w (List.mem_filter.mp hw).1
  have hN := znl_start hts
  have hA9 : ∀ a : Nat, a < s.heap.size → ¬ (s.heap.size ≤ a) := fun a h1 h2 => by omega
  have hX := z_xf hts hgv (A := fun q => s.heap.size ≤ q) hA9
  have hNc := z_ncs hgv
  have hAO := z_AO hts
  obtain ⟨b, hbE⟩ : ∃ b, b = s.heap.size := ⟨_, rfl⟩
  rw [← hbE] at hX
  have hown9 : s.vm.findClass RL = some m.cls := hown
  have hCW : zC p s m #[Value.ref sb] c D (tysW tc tL) (adC b) okC (fun q => b ≤ q) s.heap cL_law 9 RL := ⟨⟨hx, hb, hml, hown9, hz⟩, hK, zI_adC b, fun f i _ => adC_ge b f i, fun q h => by show b ≤ q; omega, hN⟩
  have hCC : zC p s m #[Value.ref sb] c D (tysC tc) (adC b) okC (fun q => b ≤ q) s.heap cL_law 9 RL := ⟨⟨hx, hb, hml, hown9, hz⟩, tysW_C hK, zI_adC b, fun f i _ => adC_ge b f i, fun q h => by show b ≤ q; omega, hN⟩
  have hCM : zC p s m #[Value.ref sb] c D (tysM tc) (adM (b + 181)) okM (fun q => b ≤ q) s.heap cL_law 9 RL := ⟨⟨hx, hb, hml, hown9, hz⟩, tysW_M hK, zI_adM (b + 181), fun f i _ => by have := adM_ge (b + 181) f i; show b ≤ _; omega, fun q h => by show b ≤ q; omega, hN⟩
  have hctx : zLC p l s m #[Value.ref sb] c D tc tL b (fun q => b ≤ q) sb Ls xs := ⟨hCW, hCM, hCC, hX, hNc, fun q => Iff.rfl, hbE.symm, hXs, hbl, fun z => by omega, hL, hlt⟩
  rw [lg_entry_eq]
  have hl := lv_entry ([.ref sb]) (n := 9) (Nat.le_of_ble_eq_true rfl)
  generalize (lg_sl ([.ref sb]) ++ List.replicate (9 - (lg_sl ([.ref sb])).length) Slot.unset).toArray = ls at hl ⊢
  have hl : lv_has ls 9 [(0, .ref sb)] := hl
  have P1 : zB p l e room_1 s m #[Value.ref sb] below meth c (lw_Z below #[Value.ref sb] s) D (adC b) okC (fun q => b ≤ q) s.heap 9 0 0 b (SFC tc b) [(0, .ref sb)] 0 [] := by
    refine zb_new hCC (ci := 8) rfl zwX8 tyX8 tyX8_ok (zin 54 (by decide +kernel) rfl) (zin 55 (by decide +kernel) rfl) (zin 35 (by decide +kernel) rfl) 0 0 (okC_0 (by omega)) rfl (fs := [.null, .null, .null, .null]) (fun j hj => by rcases (show j = 0 ∨ j = 1 ∨ j = 2 ∨ j = 3 by omega) with rfl | rfl | rfl | rfl <;> rfl) ⟨by decide, by decide⟩ dL_law_0 ?_
    refine zb_dup hCC dL_law_3 rfl ?_
    refine zb_call hCC hAO zlL_64 (k_X8_init l D tc b) rfl rfl (Nat.le_of_ble_eq_true rfl) ⟨by decide, by decide⟩ ⟨by decide, by decide⟩ (by omega) dL_law_4 ?_
    intro H locs ls hw hS hl
    have hwC : zH D (adC b) okC (tmC (adC b) tc) M0C H := fun f i ho => hw.2 f i ho (adC_lt ho)
    refine lv_astore_n hx hb dL_law_7 rfl hl (by decide) rfl (fun ls hl => ?_)
    have hc10 : vwCl[10]? = some (RX10, TX10, 16) := rfl
    have hKn := hK.1 10 _ hc10
    refine W.newcK hx hb hown9 (hz (.classLink RL 65 RX10) (zin 809 (by decide +kernel) rfl)) (hz (.instantiable RX10 16) (zin 810 (by decide +kernel) rfl)) (hz (.initialized RX10) (zin 44 (by decide +kernel) rfl)) rfl dL_law_8 (by decide) (by decide) hKn.2.1 (h := b + 181) hw.1 fun H1 kC hkC e1 z1 o1 => ?_
    have hwC1 : zH D (adC b) okC (tmC (adC b) tc) M0C H1 := hwC.kept (fun f i ho => o1 _ (adC_lt ho))
    have hwM1 : zHB D (adM (b + 181)) okM (b + 181 + 1) (zse (SFM tc (b + 181)) 0 0 (.inr (10, [iv 0, iv 0, .null, .null, .null, iv 0, .null, .null, .null, .null, iv 0, .null, .null, .null, .null, .null]))) H1 := by
      refine ⟨z1, fun f i ho hlt9 => ?_⟩
      have h9 := adM_ge (b + 181) f i
      have e9 : adM (b + 181) f i = adM (b + 181) 0 0 := by show _ = b + 181 + 0; omega
      obtain ⟨rfl, rfl⟩ := zI_adM (b + 181) f i 0 0 ho (okM_0 (by omega)) e9
      rw [zse_at]
      exact ⟨_, hc10, (u_born tyX10 hz zwX10 hKn hkC e1 tyX10_ok).to (fun j hj => by rcases (show j = 0 ∨ j = 1 ∨ j = 2 ∨ j = 3 ∨ j = 4 ∨ j = 5 ∨ j = 6 ∨ j = 7 ∨ j = 8 ∨ j = 9 ∨ j = 10 ∨ j = 11 ∨ j = 12 ∨ j = 13 ∨ j = 14 ∨ j = 15 by omega) with rfl | rfl | rfl | rfl | rfl | rfl | rfl | rfl | rfl | rfl | rfl | rfl | rfl | rfl | rfl | rfl <;> rfl)⟩
    have hS1 : va_S (fun q => b ≤ q) s.heap H1 locs := ⟨by have := hS.1; have := hw.1; omega, fun x h1 h2 => (o1 x (by have := hS.1; have := hw.1; omega)).trans (hS.2.1 x h1 h2), hS.2.2⟩
    refine W.eq (g2 := F0 m 11 ls [.ref (b + 181)]) rfl ?_
    refine lv_dup hx hb dL_law_11 rfl ?_
    have cw : CallB room_1 s #[Value.ref sb] RL 67 yX10_init cX10_init 1 none (zws yX10_init cX10_init 1 none) (zrm 2 38 706) 38 706 0 ∧ yX10_init.name = "<init>" ∧ (Cond.instanceMethod yX10_init).before #[Value.ref sb] s = true := ⟨z_callB hCM (fun w h => zlL_67.1 w (by simp only [List.mem_cons, List.not_mem_nil, or_false] at h ⊢; rcases h with h | h | h <;> simp [h])) zlL_67.2.2 ⟨by decide, by decide⟩, zlL_67.2.1, hz _ (zlL_67.1 _ (by simp))⟩
    refine va_callv (va_runI (As := []) (rest := [.ref (b + 181)]) hCM.1 (k_X10_init l D tc (b + 181)) cw ⟨zPreB_blind, fun U hU hW2 => ⟨rfl, by rw [hU]; exact hwM1, va_K.moved hW2.alike hCM.2.1, znl_moved hW2 hN, zAO.moved hW2.alike hAO⟩⟩ rfl rfl hl.1 rfl (lv_room (Nat.le_of_ble_eq_true rfl)) dL_law_12 ⟨by decide, by decide⟩) hS1 (fun q _ h => by have h9 : b + 181 ≤ q := h; show b ≤ q; omega) (fun q h => by have h9 : b + 181 ≤ q := h; show b ≤ q; omega) (fun u t H2 locs2 ht1 hvm hr9 hB hz1 hk1 hS2 => ?_)
    rw [ht1] at hB
    have hwC2 : zH D (adC b) okC (tmC (adC b) tc) M0C H2 := hwC1.kept (fun f i ho => by have h8 := adC_lt (b := b) ho; exact hk1 _ (by omega) (fun h9 => by have h7 : b + 181 ≤ adC b f i := h9; omega))
    have hwM2 : zH D (adM (b + 181)) okM (tmM (adM (b + 181)) tc) M0M H2 := fun f i ho => hB.2 f i ho (by have h8 := adM_lt (b := b + 181) ho; omega)
    refine lv_astore_n hx hb dL_law_15 rfl hl (by decide) rfl (fun ls hl => ?_)
    refine lv_iconst hx hb dL_law_16 (v := 1) rfl ?_
    refine va_newaK (atype := .long) hx hb (hz _ (zin 1121 (by decide +kernel) rfl)) rfl dL_law_17 rfl (by decide) (N := 1) (by decide) (by decide) (by decide) (by decide) (h := b + 220) (by have := hB.1; omega) fun H3 cA e3 z3 o3 hAr hNm => ?_
    have hcA : cA = tL := Option.some.inj (hNm.symm.trans (hK.2 6 (tL, .long) rfl).2)
    subst hcA
    have hwC3 : zH D (adC b) okC (tmC (adC b) tc) M0C H3 := hwC2.kept (fun f i ho => by have h8 := adC_lt (b := b) ho; exact o3 _ (by omega))
    have hwM3 : zH D (adM (b + 181)) okM (tmM (adM (b + 181)) tc) M0M H3 := hwM2.kept (fun f i ho => by have h8 := adM_lt (b := b + 181) ho; exact o3 _ (by omega))
    have ho3 : outAt cA (b + 220) 0 H3 := by
      unfold outAt
      rw [e3, vp_cell_l]
      rfl
    have hS3 : va_S (fun q => b ≤ q) s.heap H3 locs2 := ⟨by have := hS2.1; have := hB.1; omega, fun x h1 h2 => (o3 x (by have := hS2.1; have := hB.1; omega)).trans (hS2.2.1 x h1 h2), hS2.2.2⟩
    refine W.eq (g2 := F0 m 19 ls [.ref (b + 220)]) rfl ?_
    refine lv_astore_n hx hb dL_law_19 rfl hl (by decide) rfl (fun ls hl => ?_)
    refine lv_iconst hx hb dL_law_20 (v := Int32.ofInt 0) rfl ?_
    refine lv_istore hx hb dL_law_21 hl (by decide) rfl (fun ls hl => ?_)
    have hgo := law_loop (e := e) (below := below) (meth := meth) (Q := lw_Z below #[Value.ref sb] s) hctx Rel hst hF (fun C9 M9 v9 L9 => by
      intro H locs ls hw hS hl
      refine lv_iconst hx hb dL_law_1213 (v := 1) rfl ?_
      refine va_forget (fun q hq => by have h9 : b ≤ q.base := hS.2.2 q hq; omega) ?_
      exact lw_ret (Drawn.sameBut.refl s.drawn lw_cs) hx hb hr hlk dL_law_1214) (Ls + 5 - 5 * 0) 0 M0C M0M 0 h0 rfl (by omega)
    refine W.widen (k := 300 + 300 * 0) (n := 3000 + 3000 * 0) (by decide) (by decide) ?_
    exact hgo H3 locs2 ls ⟨hwC3, hwM3, ho3⟩ hS3 (lv_sub hl [4, 3, 2, 1, 0] rfl)
  exact P1 s.heap [] ls ⟨hbE.symm, fun f i ho hl9 => by have := adC_ge b f i; omega⟩ va_S.rf hl
