/-! contracts over the layer, calls, ends -/
abbrev zws (y : MethodName) (bytes : ByteArray) (maxL : Nat) (ret : Option FieldType) : List Cond := .code y bytes maxL ret :: zbig
abbrev zrm (d mc ms : Nat) : Room := { frames := d, cells := mc, slots := ms, locals := 40 * d }
abbrev zPre (D : va_G) (tys : List (ClassId × FieldType)) (ad : Nat → Nat → Nat) (ok : Nat → Nat → Prop) (tm : Nat → Nat → zT) (av : List Value) (M : zM) (sz : Nat) : Array Value → State → Prop := va_Pc av (fun U => U.heap.size = sz ∧ zH D ad ok tm M U.heap ∧ va_K D vwCl tys U ∧ ∀ w ∈ znl, va_Nw w U)
abbrev zQi (D : va_G) (ad : Nat → Nat → Nat) (ok : Nat → Nat → Prop) (tm : Nat → Nat → zT) (r : Int) (M' : zM) (A : Nat → Prop) : Array Value → State → Outcome → State → Prop := va_Qi (fun (x : Int32) (_ : Unit) => x = Int32.ofInt r) (fun _ t => zH D ad ok tm M' t.heap) A
abbrev zQl (D : va_G) (ad : Nat → Nat → Nat) (ok : Nat → Nat → Prop) (tm : Nat → Nat → zT) (r : Int64) (M' : zM) (A : Nat → Prop) : Array Value → State → Outcome → State → Prop := va_Ql (fun (x : Int64) (_ : Unit) => x = r) (fun _ t => zH D ad ok tm M' t.heap) A
abbrev zQd (D : va_G) (ad : Nat → Nat → Nat) (ok : Nat → Nat → Prop) (tm : Nat → Nat → zT) (r : UInt64) (M' : zM) (A : Nat → Prop) : Array Value → State → Outcome → State → Prop := va_Qd (fun (x : UInt64) (_ : Unit) => x = r) (fun _ t => zH D ad ok tm M' t.heap) A
abbrev zQv (D : va_G) (ad : Nat → Nat → Nat) (ok : Nat → Nat → Prop) (tm : Nat → Nat → zT) (M' : zM) (A : Nat → Prop) : Array Value → State → Outcome → State → Prop := va_Qv (fun (_ : Unit) => True) (fun _ t => zH D ad ok tm M' t.heap) A
/-- from the memory M the method answers r and leaves M' -/
def zMi (l : Launch) (y : MethodName) (bytes : ByteArray) (maxL : Nat) (ret : Option FieldType) (d : Nat) (D : va_G) (tys : List (ClassId × FieldType)) (ad : Nat → Nat → Nat) (ok : Nat → Nat → Prop) (tm : Nat → Nat → zT) (av : List Value) (M : zM) (r : Int) (M' : zM) (mc ms : Nat) : Prop :=
  ∀ sz : Nat, Met l y (zws y bytes maxL ret) (zrm d mc ms) (zPre D tys ad ok tm av M sz) (zQi D ad ok tm r M' (zA ad ok sz)) mc ms (zA ad ok sz)
def zMl (l : Launch) (y : MethodName) (bytes : ByteArray) (maxL : Nat) (ret : Option FieldType) (d : Nat) (D : va_G) (tys : List (ClassId × FieldType)) (ad : Nat → Nat → Nat) (ok : Nat → Nat → Prop) (tm : Nat → Nat → zT) (av : List Value) (M : zM) (r : Int64) (M' : zM) (mc ms : Nat) : Prop :=
  ∀ sz : Nat, Met l y (zws y bytes maxL ret) (zrm d mc ms) (zPre D tys ad ok tm av M sz) (zQl D ad ok tm r M' (zA ad ok sz)) mc ms (zA ad ok sz)
def zMd (l : Launch) (y : MethodName) (bytes : ByteArray) (maxL : Nat) (ret : Option FieldType) (d : Nat) (D : va_G) (tys : List (ClassId × FieldType)) (ad : Nat → Nat → Nat) (ok : Nat → Nat → Prop) (tm : Nat → Nat → zT) (av : List Value) (M : zM) (r : UInt64) (M' : zM) (mc ms : Nat) : Prop :=
  ∀ sz : Nat, Met l y (zws y bytes maxL ret) (zrm d mc ms) (zPre D tys ad ok tm av M sz) (zQd D ad ok tm r M' (zA ad ok sz)) mc ms (zA ad ok sz)
def zMv (l : Launch) (y : MethodName) (bytes : ByteArray) (maxL : Nat) (ret : Option FieldType) (d : Nat) (D : va_G) (tys : List (ClassId × FieldType)) (ad : Nat → Nat → Nat) (ok : Nat → Nat → Prop) (tm : Nat → Nat → zT) (av : List Value) (M : zM) (M' : zM) (mc ms : Nat) : Prop :=
  ∀ sz : Nat, Met l y (zws y bytes maxL ret) (zrm d mc ms) (zPre D tys ad ok tm av M sz) (zQv D ad ok tm M' (zA ad ok sz)) mc ms (zA ad ok sz)
theorem zPre_blind {D : va_G} {tys : List (ClassId × FieldType)} {ad : Nat → Nat → Nat} {ok : Nat → Nat → Prop} {tm : Nat → Nat → zT} {av : List Value} {M : zM} {sz : Nat} : FrameBlind (zPre D tys ad ok tm av M sz) := fun a U g mk q => by
  obtain ⟨q0, q1, qP, qK, qN⟩ := q
  exact ⟨q0, q1, qP, va_K.moved (u := U) (U := U.calling g mk a) (Vm.Alike.refl U.vm) qK, znl_same (u := U) (U := U.calling g mk a) rfl qN⟩
theorem z_ofW {l : Launch} {y : MethodName} {ws ws' : List Cond} {rm : Room} {Pc : Array Value → State → Prop} {Qc : Array Value → State → Outcome → State → Prop} {mc ms : Nat} {free : Addr → Prop} {cc : ByteArray} {maxL : Nat} {ret : Option FieldType}
    (hy : plainFor y = true) (hw : ws = Cond.code y cc maxL ret :: ws')
    (body : ∀ p e s m args below meth c s₁, BodyLoose p l y (headSpec ws rm) cc maxL ret e s m args below meth c s₁ → c.maxLocals = maxL → Pc args s →
      W p l e (headSpec ws rm).room s m args below meth c s.heap [] 0 0 (MQ below Qc args s mc ms free) (entryFrame m args maxL)) : Met l y ws rm Pc Qc mc ms free := by
  refine MetFree.of_bodySF (code := cc) (maxLocals := maxL) (ret := ret) hy ?_ ?_
  · intro args s m h hn
    obtain ⟨meth, c, h1, h2, h3, h4, h5, h6, -, -⟩ := Cond.code_spec hn (atoms_spec (ws := ws) h _ (by rw [hw]; exact List.mem_cons_self))
    exact ⟨meth, c, h1, h2, h3, h4, h5, h6⟩
  · intro p e s m args below meth c s₁ B hml hP _
    have hh0 : s₁.heap = s.heap := by rw [B.state]; rfl
    obtain ⟨t, a1, o, b1, b2, b3⟩ := body p e s m args below meth c s₁ B hml hP s₁ hh0 (Stand.of_body B)
    exact ⟨t, o, a1, b1, b2, ⟨b3.1, b3.2⟩⟩
section ZMET
variable {l : Launch} {y : MethodName} {bytes : ByteArray} {maxL : Nat} {ret : Option FieldType} {d : Nat} {D : va_G} {tys : List (ClassId × FieldType)} {ad : Nat → Nat → Nat} {ok : Nat → Nat → Prop} {tm : Nat → Nat → zT} {av : List Value} {M : zM} {M' : zM} {mc ms : Nat}
theorem z_met {Qc : Nat → Array Value → State → Outcome → State → Prop} (hI : zI ad ok) (hy : plainFor y = true) (hav : (lg_sl av).length ≤ maxL)
    (body : ∀ (p : Program) (e : Env) (s : State) (m : MethodId) (args : Array Value) (below : List Frame) (meth : Method) (c : Code), zC p s m args c D tys ad ok (zA ad ok s.heap.size) s.heap bytes maxL y.cls → meth.sig.returnType = ret → meth.locks = false →
      zV p l e (zrm d mc ms) s m args below meth c (MQ below (Qc s.heap.size) args s mc ms (zA ad ok s.heap.size)) D ad ok tm (zA ad ok s.heap.size) s.heap maxL 0 0 M (lv_args 0 av) 0 []) (sz : Nat) : Met l y (zws y bytes maxL ret) (zrm d mc ms) (zPre D tys ad ok tm av M sz) (Qc sz) mc ms (zA ad ok sz) := by
  refine z_ofW (cc := bytes) (maxL := maxL) (ret := ret) hy rfl ?_
  intro p e s m args below meth c s₁ B hml hv
  obtain ⟨rfl, hsz, hP, hK, hN⟩ := hv
  subst hsz
  have hts := atoms_spec (ws := zws y bytes maxL ret) B.pre
  have hown : s.vm.findClass y.cls = some m.cls := findClass_of_methodNamed B.named
  rw [lg_entry_eq]
  refine body p e s m av.toArray below meth c ⟨⟨B.exec, B.bytes, hml, hown, fun x h => hts x (List.mem_cons_of_mem _ h)⟩, hK, hI, fun f i h => Or.inl ⟨f, i, h, rfl⟩, fun q h => Or.inr h, hN⟩ B.returns B.notSynchronized s.heap [] _ hP va_S.rf (lv_entry av hav)
end ZMET
section ZCALL
variable {p : Program} {l : Launch} {e : Env} {R : Room} {s : State} {m : MethodId} {args : Array Value} {below : List Frame} {meth : Method} {c : Code} {Q : State → Prop} {D : va_G} {tys : List (ClassId × FieldType)} {ad : Nat → Nat → Nat} {ok : Nat → Nat → Prop} {tm : Nat → Nat → zT} {A : Nat → Prop} {H0 : Heap} {nL : Nat} {cells slots : Nat} {M M' : zM} {L : List (Nat × Value)} {pc : Nat} {St rest : List Value} {cc : ByteArray} {own : String}
variable {y : MethodName} {bytes : ByteArray} {maxL index n d mc ms : Nat} {ret : Option FieldType} {As : List Value}
theorem z_callB (hC : zC p s m args c D tys ad ok A H0 cc nL own) (h : ∀ w ∈ ([.methodLink own index y, .initialized y.cls, .code y bytes maxL ret] : List Cond), w ∈ zbig) (hd : y.cls ≠ "java/lang/invoke/MethodHandle" ∧ y.cls ≠ "java/lang/invoke/VarHandle" ∧ (parseMethodDescriptor y.desc).map (fun d => d.parameters.length) = some n) (hR : d + 1 ≤ R.frames ∧ 8 + (maxL + 11) + 40 * d ≤ R.locals) : CallB R s args own index y bytes maxL ret (zws y bytes maxL ret) (zrm d mc ms) mc ms n := by
  have hts := hC.1.2.2.2.2
  refine callB_of n hts (zbig_good ?_) rfl rfl rfl (hts _ (h _ (by simp))) (hts _ (h _ (by simp))) hd hR
  intro w hw
  rcases List.mem_cons.mp hw with rfl | hw
  · exact h _ (by simp)
  · exact hw
theorem z_free (hC : zC p s m args c D tys ad ok A H0 cc nL own) {H : Heap} {locs : List Loc} (hS : va_S A H0 H locs) : ∀ q, zA ad ok H.size q → A q := by
  intro q h
  rcases h with ⟨f, i, h, rfl⟩ | h
  · exact hC.2.2.2.1 f i h
  · exact hC.2.2.2.2.1 q (Nat.le_trans hS.1 h)
theorem z_recv (hC : zC p s m args c D tys ad ok A H0 cc nL own) {H : Heap} (hw : zH D ad ok tm M H) {f0 i0 ci : Nat} {lt : List (Option Value)} {Cn : String} {T : u_T} {N : Nat} (ht : tm f0 i0 = .inl (ci, lt)) (hci : vwCl[ci]? = some (Cn, T, N)) (ho : ok f0 i0) : ∃ cell : Cell, H[ad f0 i0]? = some cell ∧ cell.vm.isStatics = false ∧ s.vm.findClass Cn = some cell.cls := by
  have hP := hw.one ho
  rw [ht] at hP
  exact va_recv (q0 := 0) hC.2.1 hP hci rfl
theorem z_runV (hC : zC p s m args c D tys ad ok A H0 cc nL own) (hL : zLV own index y bytes maxL ret n) {f0 i0 ci : Nat} {lt : List (Option Value)} {T : u_T} {N : Nat} {Qc : Array Value → State → Outcome → State → Prop} {H : Heap} {locs : List Loc} {ls : Array Slot} (hM : Met l y (zws y bytes maxL ret) (zrm d mc ms) (zPre D tys ad ok tm (.ref (ad f0 i0) :: As) M H.size) Qc mc ms (zA ad ok H.size)) (ht : tm f0 i0 = .inl (ci, lt)) (hci : vwCl[ci]? = some (y.cls, T, N)) (ho : ok f0 i0) (hn : As.length = n) (hW : (rest.map fun v => v.category).sum ≤ 8) (hR : d + 1 ≤ R.frames ∧ 8 + (maxL + 11) + 40 * d ≤ R.locals) (hf : cells + mc ≤ R.cells ∧ slots + ms ≤ R.slots) (hdg : decode cc pc = .ok (.invokevirtual index, 3)) (hw : zH D ad ok tm M H) (hl : ls.size = nL) :
    va_Run p l e R s m args below meth c H locs cells slots mc ms (F0 m pc ls (As.reverse ++ .ref (ad f0 i0) :: rest)) rest (Qc (Value.ref (ad f0 i0) :: As).toArray) (zA ad ok H.size) := by
  have hts := hC.1.2.2.2.2
  have cw : CallW R s args own y.cls index y bytes maxL ret (zws y bytes maxL ret) (zrm d mc ms) mc ms n := ⟨z_callB hC (fun w h => hL.1 w (by simp only [List.mem_cons, List.not_mem_nil, or_false] at h ⊢; rcases h with h | h | h <;> simp [h])) hL.2 hR, hts _ (hL.1 _ (by simp)), hts _ (hL.1 _ (by simp))⟩
  exact va_runV (As := As) (rest := rest) hC.1 hM cw ⟨zPre_blind, z_recv hC hw ht hci ho, fun U hU hW2 => ⟨rfl, by rw [hU], by rw [hU]; exact hw, va_K.moved hW2.alike hC.2.1, znl_moved hW2 hC.2.2.2.2.2⟩⟩ rfl hn hl rfl (lv_room hW) hdg hf
theorem z_runS (hC : zC p s m args c D tys ad ok A H0 cc nL own) (hL : zLS own index y bytes maxL ret n) {Qc : Array Value → State → Outcome → State → Prop} {H : Heap} {locs : List Loc} {ls : Array Slot} (hM : Met l y (zws y bytes maxL ret) (zrm d mc ms) (zPre D tys ad ok tm As M H.size) Qc mc ms (zA ad ok H.size)) (hn : As.length = n) (hW : (rest.map fun v => v.category).sum ≤ 8) (hR : d + 1 ≤ R.frames ∧ 8 + (maxL + 11) + 40 * d ≤ R.locals) (hf : cells + mc ≤ R.cells ∧ slots + ms ≤ R.slots) (hdg : decode cc pc = .ok (.invokestatic index, 3)) (hw : zH D ad ok tm M H) (hl : ls.size = nL) :
    va_Run p l e R s m args below meth c H locs cells slots mc ms (F0 m pc ls (As.reverse ++ rest)) rest (Qc As.toArray) (zA ad ok H.size) := by
  have hts := hC.1.2.2.2.2
  have cw : CallB R s args own index y bytes maxL ret (zws y bytes maxL ret) (zrm d mc ms) mc ms n ∧ (Cond.static y).before args s = true := ⟨z_callB hC (fun w h => hL.1 w (by simp only [List.mem_cons, List.not_mem_nil, or_false] at h ⊢; rcases h with h | h | h <;> simp [h])) hL.2 hR, hts _ (hL.1 _ (by simp))⟩
  exact va_runS (As := As) (rest := rest) hC.1 hM cw ⟨zPre_blind, fun U hU hW2 => ⟨rfl, by rw [hU], by rw [hU]; exact hw, va_K.moved hW2.alike hC.2.1, znl_moved hW2 hC.2.2.2.2.2⟩⟩ rfl hn hl rfl (lv_room hW) hdg hf
theorem z_gw (h : Cond.code y bytes maxL ret ∈ zbig) : GoodIn zbig (zws y bytes maxL ret) := zbig_good (fun w hw => (List.mem_cons.mp hw).elim (fun e => e ▸ h) id)
theorem z_runVN (hC : zC p s m args c D tys ad ok A H0 cc nL own) (hL : zLVN own index y bytes maxL ret n) {f0 i0 ci : Nat} {lt : List (Option Value)} {T : u_T} {N : Nat} {Qc : Array Value → State → Outcome → State → Prop} {H : Heap} {locs : List Loc} {ls : Array Slot} (hM : Met l y (zws y bytes maxL ret) (zrm d mc ms) (zPre D tys ad ok tm (.ref (ad f0 i0) :: As) M H.size) Qc mc ms (zA ad ok H.size)) (ht : tm f0 i0 = .inl (ci, lt)) (hci : vwCl[ci]? = some (y.cls, T, N)) (ho : ok f0 i0) (hn : As.length = n) (hW : (rest.map fun v => v.category).sum ≤ 8) (hR : d + 1 ≤ R.frames ∧ 8 + (maxL + 11) + 40 * d ≤ R.locals) (hf : cells + mc ≤ R.cells ∧ slots + ms ≤ R.slots) (hdg : decode cc pc = .ok (.invokevirtual index, 3)) (hw : zH D ad ok tm M H) (hl : ls.size = nL) :
    va_Run p l e R s m args below meth c H locs cells slots mc ms (F0 m pc ls (As.reverse ++ .ref (ad f0 i0) :: rest)) rest (Qc (Value.ref (ad f0 i0) :: As).toArray) (zA ad ok H.size) := by
  have hts := hC.1.2.2.2.2
  have cw : va_CN R s args own index y hL.1.choose bytes maxL ret (zws y bytes maxL ret) (zrm d mc ms) mc ms n ∧ (Cond.instanceMethod y).before args s = true ∧ (Cond.selects y.cls y y).before args s = true := ⟨va_cnB n hts (z_gw (hL.2.1 _ (by simp))) rfl rfl rfl (hC.2.2.2.2.2 _ hL.1.choose_spec) (hts _ (hL.2.1 _ (by simp))) hL.2.2 hR, hts _ (hL.2.1 _ (by simp)), hts _ (hL.2.1 _ (by simp))⟩
  exact va_runVN (As := As) (rest := rest) hC.1 hM cw ⟨zPre_blind, z_recv hC hw ht hci ho, fun U hU hW2 => ⟨rfl, by rw [hU], by rw [hU]; exact hw, va_K.moved hW2.alike hC.2.1, znl_moved hW2 hC.2.2.2.2.2⟩⟩ rfl hn hl rfl (lv_room hW) hdg hf
theorem z_runSN (hC : zC p s m args c D tys ad ok A H0 cc nL own) (hL : zLSN own index y bytes maxL ret n) {Qc : Array Value → State → Outcome → State → Prop} {H : Heap} {locs : List Loc} {ls : Array Slot} (hM : Met l y (zws y bytes maxL ret) (zrm d mc ms) (zPre D tys ad ok tm As M H.size) Qc mc ms (zA ad ok H.size)) (hn : As.length = n) (hW : (rest.map fun v => v.category).sum ≤ 8) (hR : d + 1 ≤ R.frames ∧ 8 + (maxL + 11) + 40 * d ≤ R.locals) (hf : cells + mc ≤ R.cells ∧ slots + ms ≤ R.slots) (hdg : decode cc pc = .ok (.invokestatic index, 3)) (hw : zH D ad ok tm M H) (hl : ls.size = nL) :
    va_Run p l e R s m args below meth c H locs cells slots mc ms (F0 m pc ls (As.reverse ++ rest)) rest (Qc As.toArray) (zA ad ok H.size) := by
  have hts := hC.1.2.2.2.2
  have cw : va_CN R s args own index y hL.1.choose bytes maxL ret (zws y bytes maxL ret) (zrm d mc ms) mc ms n ∧ (Cond.static y).before args s = true ∧ True := ⟨va_cnB n hts (z_gw (hL.2.1 _ (by simp))) rfl rfl rfl (hC.2.2.2.2.2 _ hL.1.choose_spec) (hts _ (hL.2.1 _ (by simp))) hL.2.2 hR, hts _ (hL.2.1 _ (by simp)), trivial⟩
  exact va_runSN (As := As) (rest := rest) hC.1 hM cw ⟨zPre_blind, fun U hU hW2 => ⟨rfl, by rw [hU], by rw [hU]; exact hw, va_K.moved hW2.alike hC.2.1, znl_moved hW2 hC.2.2.2.2.2⟩⟩ rfl hn hl rfl (lv_room hW) hdg hf
theorem z_callVi (hC : zC p s m args c D tys ad ok A H0 cc nL own) (hL : zLV own index y bytes maxL ret n) {f0 i0 ci : Nat} {lt : List (Option Value)} {T : u_T} {N : Nat} {r : Int} (hM : zMi l y bytes maxL ret d D tys ad ok tm (.ref (ad f0 i0) :: As) M r M' mc ms) (ht : tm f0 i0 = .inl (ci, lt)) (hci : vwCl[ci]? = some (y.cls, T, N)) (ho : ok f0 i0) (hst : St = As.reverse ++ .ref (ad f0 i0) :: rest) (hn : As.length = n) (hW : (rest.map fun v => v.category).sum ≤ 8) (hR : d + 1 ≤ R.frames ∧ 8 + (maxL + 11) + 40 * d ≤ R.locals) (hf : cells + mc ≤ R.cells ∧ slots + ms ≤ R.slots) (hdg : decode cc pc = .ok (.invokevirtual index, 3)) (kk : zV p l e R s m args below meth c Q D ad ok tm A H0 nL (cells + mc) (slots + ms) M' L (pc + 3) (iv r :: rest)) : zV p l e R s m args below meth c Q D ad ok tm A H0 nL cells slots M L pc St := by
  intro H locs ls hw hS hl
  subst hst
  refine va_calli (z_runV hC hL (hM H.size) ht hci ho hn hW hR hf hdg hw hl.1) hS (fun q _ h => z_free hC hS q h) (z_free hC hS) (fun r2 u t H1 locs1 ht1 hvm hr hB hz1 hk1 hS1 => ?_)
  subst hr
  rw [ht1] at hB
  exact kk H1 locs1 ls hB hS1 hl
theorem z_callViN (hC : zC p s m args c D tys ad ok A H0 cc nL own) (hL : zLVN own index y bytes maxL ret n) {f0 i0 ci : Nat} {lt : List (Option Value)} {T : u_T} {N : Nat} {r : Int} (hM : zMi l y bytes maxL ret d D tys ad ok tm (.ref (ad f0 i0) :: As) M r M' mc ms) (ht : tm f0 i0 = .inl (ci, lt)) (hci : vwCl[ci]? = some (y.cls, T, N)) (ho : ok f0 i0) (hst : St = As.reverse ++ .ref (ad f0 i0) :: rest) (hn : As.length = n) (hW : (rest.map fun v => v.category).sum ≤ 8) (hR : d + 1 ≤ R.frames ∧ 8 + (maxL + 11) + 40 * d ≤ R.locals) (hf : cells + mc ≤ R.cells ∧ slots + ms ≤ R.slots) (hdg : decode cc pc = .ok (.invokevirtual index, 3)) (kk : zV p l e R s m args below meth c Q D ad ok tm A H0 nL (cells + mc) (slots + ms) M' L (pc + 3) (iv r :: rest)) : zV p l e R s m args below meth c Q D ad ok tm A H0 nL cells slots M L pc St := by
  intro H locs ls hw hS hl
  subst hst
  refine va_calli (z_runVN hC hL (hM H.size) ht hci ho hn hW hR hf hdg hw hl.1) hS (fun q _ h => z_free hC hS q h) (z_free hC hS) (fun r2 u t H1 locs1 ht1 hvm hr hB hz1 hk1 hS1 => ?_)
  subst hr
  rw [ht1] at hB
  exact kk H1 locs1 ls hB hS1 hl
theorem z_callVl (hC : zC p s m args c D tys ad ok A H0 cc nL own) (hL : zLV own index y bytes maxL ret n) {f0 i0 ci : Nat} {lt : List (Option Value)} {T : u_T} {N : Nat} {r : Int64} (hM : zMl l y bytes maxL ret d D tys ad ok tm (.ref (ad f0 i0) :: As) M r M' mc ms) (ht : tm f0 i0 = .inl (ci, lt)) (hci : vwCl[ci]? = some (y.cls, T, N)) (ho : ok f0 i0) (hst : St = As.reverse ++ .ref (ad f0 i0) :: rest) (hn : As.length = n) (hW : (rest.map fun v => v.category).sum ≤ 8) (hR : d + 1 ≤ R.frames ∧ 8 + (maxL + 11) + 40 * d ≤ R.locals) (hf : cells + mc ≤ R.cells ∧ slots + ms ≤ R.slots) (hdg : decode cc pc = .ok (.invokevirtual index, 3)) (kk : zV p l e R s m args below meth c Q D ad ok tm A H0 nL (cells + mc) (slots + ms) M' L (pc + 3) (.long r :: rest)) : zV p l e R s m args below meth c Q D ad ok tm A H0 nL cells slots M L pc St := by
  intro H locs ls hw hS hl
  subst hst
  refine va_calll (z_runV hC hL (hM H.size) ht hci ho hn hW hR hf hdg hw hl.1) hS (fun q _ h => z_free hC hS q h) (z_free hC hS) (fun r2 u t H1 locs1 ht1 hvm hr hB hz1 hk1 hS1 => ?_)
  subst hr
  rw [ht1] at hB
  exact kk H1 locs1 ls hB hS1 hl
theorem z_callVlN (hC : zC p s m args c D tys ad ok A H0 cc nL own) (hL : zLVN own index y bytes maxL ret n) {f0 i0 ci : Nat} {lt : List (Option Value)} {T : u_T} {N : Nat} {r : Int64} (hM : zMl l y bytes maxL ret d D tys ad ok tm (.ref (ad f0 i0) :: As) M r M' mc ms) (ht : tm f0 i0 = .inl (ci, lt)) (hci : vwCl[ci]? = some (y.cls, T, N)) (ho : ok f0 i0) (hst : St = As.reverse ++ .ref (ad f0 i0) :: rest) (hn : As.length = n) (hW : (rest.map fun v => v.category).sum ≤ 8) (hR : d + 1 ≤ R.frames ∧ 8 + (maxL + 11) + 40 * d ≤ R.locals) (hf : cells + mc ≤ R.cells ∧ slots + ms ≤ R.slots) (hdg : decode cc pc = .ok (.invokevirtual index, 3)) (kk : zV p l e R s m args below meth c Q D ad ok tm A H0 nL (cells + mc) (slots + ms) M' L (pc + 3) (.long r :: rest)) : zV p l e R s m args below meth c Q D ad ok tm A H0 nL cells slots M L pc St := by
  intro H locs ls hw hS hl
  subst hst
  refine va_calll (z_runVN hC hL (hM H.size) ht hci ho hn hW hR hf hdg hw hl.1) hS (fun q _ h => z_free hC hS q h) (z_free hC hS) (fun r2 u t H1 locs1 ht1 hvm hr hB hz1 hk1 hS1 => ?_)
  subst hr
  rw [ht1] at hB
  exact kk H1 locs1 ls hB hS1 hl
theorem z_callVv (hC : zC p s m args c D tys ad ok A H0 cc nL own) (hL : zLV own index y bytes maxL ret n) {f0 i0 ci : Nat} {lt : List (Option Value)} {T : u_T} {N : Nat} (hM : zMv l y bytes maxL ret d D tys ad ok tm (.ref (ad f0 i0) :: As) M M' mc ms) (ht : tm f0 i0 = .inl (ci, lt)) (hci : vwCl[ci]? = some (y.cls, T, N)) (ho : ok f0 i0) (hst : St = As.reverse ++ .ref (ad f0 i0) :: rest) (hn : As.length = n) (hW : (rest.map fun v => v.category).sum ≤ 8) (hR : d + 1 ≤ R.frames ∧ 8 + (maxL + 11) + 40 * d ≤ R.locals) (hf : cells + mc ≤ R.cells ∧ slots + ms ≤ R.slots) (hdg : decode cc pc = .ok (.invokevirtual index, 3)) (kk : zV p l e R s m args below meth c Q D ad ok tm A H0 nL (cells + mc) (slots + ms) M' L (pc + 3) rest) : zV p l e R s m args below meth c Q D ad ok tm A H0 nL cells slots M L pc St := by
  intro H locs ls hw hS hl
  subst hst
  refine va_callv (z_runV hC hL (hM H.size) ht hci ho hn hW hR hf hdg hw hl.1) hS (fun q _ h => z_free hC hS q h) (z_free hC hS) (fun u t H1 locs1 ht1 hvm hr hB hz1 hk1 hS1 => ?_)
  rw [ht1] at hB
  exact kk H1 locs1 ls hB hS1 hl
theorem z_callVvN (hC : zC p s m args c D tys ad ok A H0 cc nL own) (hL : zLVN own index y bytes maxL ret n) {f0 i0 ci : Nat} {lt : List (Option Value)} {T : u_T} {N : Nat} (hM : zMv l y bytes maxL ret d D tys ad ok tm (.ref (ad f0 i0) :: As) M M' mc ms) (ht : tm f0 i0 = .inl (ci, lt)) (hci : vwCl[ci]? = some (y.cls, T, N)) (ho : ok f0 i0) (hst : St = As.reverse ++ .ref (ad f0 i0) :: rest) (hn : As.length = n) (hW : (rest.map fun v => v.category).sum ≤ 8) (hR : d + 1 ≤ R.frames ∧ 8 + (maxL + 11) + 40 * d ≤ R.locals) (hf : cells + mc ≤ R.cells ∧ slots + ms ≤ R.slots) (hdg : decode cc pc = .ok (.invokevirtual index, 3)) (kk : zV p l e R s m args below meth c Q D ad ok tm A H0 nL (cells + mc) (slots + ms) M' L (pc + 3) rest) : zV p l e R s m args below meth c Q D ad ok tm A H0 nL cells slots M L pc St := by
  intro H locs ls hw hS hl
  subst hst
  refine va_callv (z_runVN hC hL (hM H.size) ht hci ho hn hW hR hf hdg hw hl.1) hS (fun q _ h => z_free hC hS q h) (z_free hC hS) (fun u t H1 locs1 ht1 hvm hr hB hz1 hk1 hS1 => ?_)
  rw [ht1] at hB
  exact kk H1 locs1 ls hB hS1 hl
theorem z_callSi (hC : zC p s m args c D tys ad ok A H0 cc nL own) (hL : zLS own index y bytes maxL ret n) {r : Int} (hM : zMi l y bytes maxL ret d D tys ad ok tm As M r M' mc ms) (hst : St = As.reverse ++ rest) (hn : As.length = n) (hW : (rest.map fun v => v.category).sum ≤ 8) (hR : d + 1 ≤ R.frames ∧ 8 + (maxL + 11) + 40 * d ≤ R.locals) (hf : cells + mc ≤ R.cells ∧ slots + ms ≤ R.slots) (hdg : decode cc pc = .ok (.invokestatic index, 3)) (kk : zV p l e R s m args below meth c Q D ad ok tm A H0 nL (cells + mc) (slots + ms) M' L (pc + 3) (iv r :: rest)) : zV p l e R s m args below meth c Q D ad ok tm A H0 nL cells slots M L pc St := by
  intro H locs ls hw hS hl
  subst hst
  refine va_calli (z_runS hC hL (hM H.size) hn hW hR hf hdg hw hl.1) hS (fun q _ h => z_free hC hS q h) (z_free hC hS) (fun r2 u t H1 locs1 ht1 hvm hr hB hz1 hk1 hS1 => ?_)
  subst hr
  rw [ht1] at hB
  exact kk H1 locs1 ls hB hS1 hl
theorem z_callSiN (hC : zC p s m args c D tys ad ok A H0 cc nL own) (hL : zLSN own index y bytes maxL ret n) {r : Int} (hM : zMi l y bytes maxL ret d D tys ad ok tm As M r M' mc ms) (hst : St = As.reverse ++ rest) (hn : As.length = n) (hW : (rest.map fun v => v.category).sum ≤ 8) (hR : d + 1 ≤ R.frames ∧ 8 + (maxL + 11) + 40 * d ≤ R.locals) (hf : cells + mc ≤ R.cells ∧ slots + ms ≤ R.slots) (hdg : decode cc pc = .ok (.invokestatic index, 3)) (kk : zV p l e R s m args below meth c Q D ad ok tm A H0 nL (cells + mc) (slots + ms) M' L (pc + 3) (iv r :: rest)) : zV p l e R s m args below meth c Q D ad ok tm A H0 nL cells slots M L pc St := by
  intro H locs ls hw hS hl
  subst hst
  refine va_calli (z_runSN hC hL (hM H.size) hn hW hR hf hdg hw hl.1) hS (fun q _ h => z_free hC hS q h) (z_free hC hS) (fun r2 u t H1 locs1 ht1 hvm hr hB hz1 hk1 hS1 => ?_)
  subst hr
  rw [ht1] at hB
  exact kk H1 locs1 ls hB hS1 hl
/-! ends -/
theorem z_iret (hC : zC p s m args c D tys ad ok A s.heap cc nL own) {r r' : Int} {ty : FieldType} (hr : meth.sig.returnType = some ty) (hlocks : meth.locks = false) (hn : narrow ty (iv r') = iv r') (hrr : r' = r) (hMM : M = M') (hdg : decode cc pc = .ok (.ireturn, 1)) : zV p l e R s m args below meth c (MQ below (zQi D ad ok tm r M' A) args s cells slots A) D ad ok tm A s.heap nL cells slots M L pc [iv r'] := by
  intro H locs ls hw hS hl
  subst hrr; subst hMM
  exact W.zret hC.1.1 hC.1.2.1 hr hn (fun t ht hW => ⟨⟨_, (), rfl, rfl, by show zH D ad ok tm M t.heap; rw [ht]; exact hw⟩, hS.F ht⟩) hS.2.2 hdg hlocks
theorem z_lret (hC : zC p s m args c D tys ad ok A s.heap cc nL own) {r r' : Int64} (hr : meth.sig.returnType = some .long) (hlocks : meth.locks = false) (hrr : r' = r) (hMM : M = M') (hdg : decode cc pc = .ok (.lreturn, 1)) : zV p l e R s m args below meth c (MQ below (zQl D ad ok tm r M' A) args s cells slots A) D ad ok tm A s.heap nL cells slots M L pc [.long r'] := by
  intro H locs ls hw hS hl
  subst hrr; subst hMM
  exact W.lret hC.1.1 hC.1.2.1 hr (fun t ht hW => ⟨⟨_, (), rfl, rfl, by show zH D ad ok tm M t.heap; rw [ht]; exact hw⟩, hS.F ht⟩) hS.2.2 hdg hlocks
theorem z_dret (hC : zC p s m args c D tys ad ok A s.heap cc nL own) {r r' : UInt64} (hr : meth.sig.returnType = some .double) (hlocks : meth.locks = false) (hrr : r' = r) (hMM : M = M') (hdg : decode cc pc = .ok (.dreturn, 1)) : zV p l e R s m args below meth c (MQ below (zQd D ad ok tm r M' A) args s cells slots A) D ad ok tm A s.heap nL cells slots M L pc [.double r'] := by
  intro H locs ls hw hS hl
  subst hrr; subst hMM
  exact W.dret hC.1.1 hC.1.2.1 hr (fun t ht hW => ⟨⟨_, (), rfl, rfl, by show zH D ad ok tm M t.heap; rw [ht]; exact hw⟩, hS.F ht⟩) hS.2.2 hdg hlocks
theorem z_vret (hC : zC p s m args c D tys ad ok A s.heap cc nL own) (hr : meth.sig.returnType = none) (hlocks : meth.locks = false) (hMM : M = M') (hdg : decode cc pc = .ok (.return_, 1)) : zV p l e R s m args below meth c (MQ below (zQv D ad ok tm M' A) args s cells slots A) D ad ok tm A s.heap nL cells slots M L pc [] := by
  intro H locs ls hw hS hl
  subst hMM
  exact W.vret hC.1.1 hC.1.2.1 hr (fun t ht hW => ⟨⟨(), rfl, trivial, by show zH D ad ok tm M t.heap; rw [ht]; exact hw⟩, hS.F ht⟩) hS.2.2 hdg hlocks
end ZCALL
