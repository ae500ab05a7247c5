/-! the law's wrappers: a call that throws is caught and told by a number; what it answers is laid into a row of one long -/
def tysW (tc : Nat → ClassId) (tL : ClassId) : List (ClassId × FieldType) := tysC tc ++ [(tL, .long)]
theorem tysW_C {D : va_G} {tc : Nat → ClassId} {tL : ClassId} {U : State} (h : va_K D vwCl (tysW tc tL) U) : va_K D vwCl (tysC tc) U := h.sub [0, 1, 2, 3, 4, 5] rfl
theorem tysW_M {D : va_G} {tc : Nat → ClassId} {tL : ClassId} {U : State} (h : va_K D vwCl (tysW tc tL) U) : va_K D vwCl (tysM tc) U := h.sub [0] rfl
def outAt (tL : ClassId) (o : Nat) (v : Int64) (H : Heap) : Prop := H[o]? = some (vp_cell tL (1, .inr (.inl (fun _ => v))))
theorem outAt.lt {tL : ClassId} {o : Nat} {v : Int64} {H : Heap} (h : outAt tL o v H) : o < H.size := (Array.getElem?_eq_some_iff.mp h).1
def zWF (ad : Nat → Nat → Nat) (o sz : Nat) : Nat → Prop := fun q => (∃ f i, okC f i ∧ q = ad f i) ∨ q = o ∨ sz ≤ q
def zNcs (U : State) : Prop := ∀ a b : Nat, 1 ≤ a → a ≤ 3 → 1 ≤ b → b ≤ 3 → a ≠ b → va_Nc (zEx a) (zEx b) U
theorem zNcs.moved {u U : State} (hvm : u.vm.Alike U.vm) (h : zNcs u) : zNcs U := fun a b h1 h2 h3 h4 h5 => va_Nc.moved hvm (h a b h1 h2 h3 h4 h5)
theorem zXf.narrow {A B : Nat → Prop} {U : State} {H : Heap} (h : zXf A U H) (hAB : ∀ q, B q → A q) : zXf B U H := ⟨h.1, h.2.1.narrow hAB, h.2.2.narrow hAB⟩
/-- which exception is told by which number -/
def wcd (a b c k : Nat) : Int := if k = 0 then 0 else if k = a then 1 else if k = b then 2 else if k = c then 3 else 0
def zWm (l : Launch) (y : MethodName) (bytes : ByteArray) (maxL : Nat) (hh : List (Nat × Nat × Nat × Nat)) (d : Nat) (D : va_G) (tc : Nat → ClassId) (tL : ClassId) (ad : Nat → Nat → Nat) (o : Nat) (av : List Value) (C : zM) (k : Nat) (kr r : Int) (C' : zM) : Prop :=
  ∀ (sz : Nat) (v : Int64), Met l y (.codeWith y bytes maxL (some .int) hh :: zbig) (zrm d 1 6) (va_Pc (av ++ [.ref o]) (fun U => U.heap.size = sz ∧ zH D ad okC (tmC ad tc) C U.heap ∧ outAt tL o v U.heap ∧ va_K D vwCl (tysW tc tL) U ∧ (∀ w ∈ znl, va_Nw w U) ∧ zXf (zWF ad o sz) U U.heap ∧ zNcs U)) (va_Qi (fun (x : Int32) (_ : Unit) => x = Int32.ofInt kr) (fun _ t => zH D ad okC (tmC ad tc) (if k = 0 then C' else C) t.heap ∧ outAt tL o (if k = 0 then (Int32.ofInt r).toInt64 else v) t.heap) (zWF ad o sz)) 1 6 (zWF ad o sz)
theorem z_ofWH {l : Launch} {y : MethodName} {ws ws' : List Cond} {rm : Room} {Pc : Array Value → State → Prop} {Qc : Array Value → State → Outcome → State → Prop} {mc ms : Nat} {free : Addr → Prop} {cc : ByteArray} {maxL : Nat} {ret : Option FieldType} {hh : List (Nat × Nat × Nat × Nat)}
    (hy : plainFor y = true) (hw : ws = Cond.codeWith y cc maxL ret hh :: ws')
    (body : ∀ p e s m args below meth c s₁, BodyLoose p l y (headSpec ws rm) cc maxL ret e s m args below meth c s₁ → c.maxLocals = maxL → c.exceptionTable.toList = tableOf hh → Pc args s →
      W p l e (headSpec ws rm).room s m args below meth c s.heap [] 0 0 (MQ below Qc args s mc ms free) (entryFrame m args maxL)) : Met l y ws rm Pc Qc mc ms free := by
  refine MetFree.of_bodySF (code := cc) (maxLocals := maxL) (ret := ret) hy ?_ ?_
  · intro args s m h hn
    obtain ⟨m9, meth, c, hn9, h1, h2, h3, h4, -, h5, h6, -⟩ := Cond.codeWith_spec (atoms_spec (ws := ws) h _ (by rw [hw]; exact List.mem_cons_self))
    cases hn.symm.trans hn9
    exact ⟨meth, c, h1, h2, h3, h4, h5, h6⟩
  · intro p e s m args below meth c s₁ B hml hP _
    have hh0 : s₁.heap = s.heap := by rw [B.state]; rfl
    have ht : c.exceptionTable.toList = tableOf hh := vx_table (x := y) B (atoms_spec (ws := ws) B.pre _ (by rw [hw]; exact List.mem_cons_self))
    obtain ⟨t, a1, o, b1, b2, b3⟩ := body p e s m args below meth c s₁ B hml ht hP s₁ hh0 (Stand.of_body B)
    exact ⟨t, o, a1, b1, b2, ⟨b3.1, b3.2⟩⟩
/-- a handler's own words -/
def zCat (s : State) (args : Array Value) (c : Code) (own : String) (pc : Nat) (E : String) (hp : Nat) : Prop :=
  ∃ (pre : List ExceptionTableEntry) (x : ExceptionTableEntry) (suf : List ExceptionTableEntry) (name : String), c.exceptionTable.toList = pre ++ x :: suf ∧ (∀ z ∈ pre, covers z pc = false ∨ (z.catchType ≠ 0 ∧ ∃ nm : String, (Cond.classLink own z.catchType nm).before args s = true ∧ va_Nc E nm s)) ∧ covers x pc = true ∧ x.catchType ≠ 0 ∧ (Cond.classLink own x.catchType name).before args s = true ∧ (Cond.castable E name).before args s = true ∧ x.handlerPc = hp
section ZWR
variable {p : Program} {l : Launch} {e : Env} {R : Room} {s : State} {m : MethodId} {args : Array Value} {below : List Frame} {meth : Method} {c : Code} {Q : State → Prop} {D : va_G} {tc : Nat → ClassId} {tL : ClassId} {ad : Nat → Nat → Nat} {nL o : Nat} {C C' : zM} {pc : Nat} {rest : List Value} {cc : ByteArray} {own : String}
variable {y : MethodName} {bytes : ByteArray} {maxL index n d k : Nat} {r : Int} {As : List Value} {ls : Array Slot}
theorem zw_call (hC : zC p s m args c D (tysC tc) ad okC (zWF ad o s.heap.size) s.heap cc nL own) (hX : zXf (zWF ad o s.heap.size) s s.heap) (hL : zLV own index y bytes maxL (some .int) n) {ci : Nat} {lt : List (Option Value)} {T : u_T} {N : Nat} (ht : tmC ad tc 0 0 = .inl (ci, lt)) (hci : vwCl[ci]? = some (y.cls, T, N)) (hM : zMx l y bytes maxL (some .int) d D (tysC tc) ad okC (tmC ad tc) (.ref (ad 0 0) :: As) C k r C') (hn : As.length = n) (hW : (rest.map fun v => v.category).sum ≤ 8) (hR : d + 1 ≤ R.frames ∧ 8 + (maxL + 11) + 40 * d ≤ R.locals) (hf : 0 + 1 ≤ R.cells ∧ 0 + 6 ≤ R.slots) (hdg : decode cc pc = .ok (.invokevirtual index, 3)) (hw : zH D ad okC (tmC ad tc) C s.heap) (hl : ls.size = nL) {hp : Nat} (hcat : k ≠ 0 → zCat s args c own pc (zEx k) hp)
    (kk : k = 0 → ∀ (H1 : Heap) (locs1 : List Loc), zH D ad okC (tmC ad tc) C' H1 → (∀ q : Nat, q < s.heap.size → ¬ zA ad okC s.heap.size q → H1[q]? = s.heap[q]?) → va_S (zWF ad o s.heap.size) s.heap H1 locs1 → W p l e R s m args below meth c H1 locs1 1 6 Q (F0 m (pc + 3) ls (iv r :: rest)))
    (kx : k ≠ 0 → ∀ (H1 : Heap) (locs1 : List Loc) (q : Nat), zH D ad okC (tmC ad tc) C H1 → (∀ q : Nat, q < s.heap.size → ¬ zA ad okC s.heap.size q → H1[q]? = s.heap[q]?) → va_S (zWF ad o s.heap.size) s.heap H1 locs1 → W p l e R s m args below meth c H1 locs1 1 6 Q (F0 m hp ls [.ref q])) :
    W p l e R s m args below meth c s.heap [] 0 0 Q (F0 m pc ls (As.reverse ++ .ref (ad 0 0) :: rest)) := by
  have hts := hC.1.2.2.2.2
  have cw : CallW R s args own y.cls index y bytes maxL (some .int) (zws y bytes maxL (some .int)) (zrm d 1 6) 1 6 n := ⟨z_callB hC (fun w h => hL.1 w (by simp only [List.mem_cons, List.not_mem_nil, or_false] at h ⊢; rcases h with h | h | h <;> simp [h])) hL.2 hR, hts _ (hL.1 _ (by simp)), hts _ (hL.1 _ (by simp))⟩
  have hsub : ∀ q, zA ad okC s.heap.size q → zWF ad o s.heap.size q := fun q h => h.elim Or.inl (fun h => Or.inr (Or.inr h))
  refine vx_calli (vx_runV (As := As) (rest := rest) hC.1 (hM s.heap.size) cw ⟨zPreX_blind, z_recv hC hw ht hci (okC_0 (by omega)), fun U hU hW2 => ⟨rfl, by rw [hU], by rw [hU]; exact hw, va_K.moved hW2.alike hC.2.1, znl_moved hW2 hC.2.2.2.2.2, by rw [hU]; exact (hX.narrow hsub).warm hW2⟩⟩ rfl hn hl rfl (lv_room hW) hdg hf) va_S.rf (fun q _ h => hsub q h) hsub (fun q _ h => hsub q h) ?_ ?_
  · intro E ce q9 u t H1 locs1 ht1 hvm hk hB hz1 hk1 hS1 hce hcv hcl
    obtain ⟨rfl, hB⟩ := hB
    rw [ht1] at hB
    obtain ⟨pre, x, suf, name, c1, c2, c3, c4, c5, c6, rfl⟩ := hcat hk
    exact vx_catch hC.1.2.2.2.1 pre x suf c1 c2 c3 c4 c5 c6 hce hcv hcl (kx hk H1 locs1 q9 hB hk1 hS1)
  · intro r2 u t H1 locs1 ht1 hvm hr hB hz1 hk1 hS1
    obtain ⟨hk, rfl⟩ := hr
    rw [ht1] at hB
    exact kk hk H1 locs1 hB hk1 hS1
theorem zw_end0 (hC : zC p s m args c D (tysC tc) ad okC (zWF ad o s.heap.size) s.heap cc nL own) (hKW : va_K D vwCl (tysW tc tL) s) (hret : meth.sig.returnType = some .int) (hlk : meth.locks = false) {H1 : Heap} {locs1 : List Loc} {v : Int64} {kr : Int} (hw : zH D ad okC (tmC ad tc) C' H1) (ho : outAt tL o v s.heap) (hoC : ∀ f i, okC f i → ad f i ≠ o) (hkeep : ∀ q : Nat, q < s.heap.size → ¬ zA ad okC s.heap.size q → H1[q]? = s.heap[q]?) (hS : va_S (zWF ad o s.heap.size) s.heap H1 locs1) (hk : k = 0) (hkr : kr = 0) {off : Int} (tgt : Nat)
    (dA : decode cc pc = .ok (.i2l, 1)) (dB : decode cc (pc + 1) = .ok (.lastore, 1)) (dC : decode cc (pc + 2) = .ok (.goto off, 3)) (htg : ((pc + 2 : Nat) : Int) + off = (tgt : Int)) (dD : decode cc tgt = .ok (.iconst 0, 1)) (dE : decode cc (tgt + 1) = .ok (.ireturn, 1)) :
    W p l e R s m args below meth c H1 locs1 1 6 (MQ below (va_Qi (fun (x : Int32) (_ : Unit) => x = Int32.ofInt kr) (fun _ t => zH D ad okC (tmC ad tc) (if k = 0 then C' else C) t.heap ∧ outAt tL o (if k = 0 then (Int32.ofInt r).toInt64 else v) t.heap) (zWF ad o s.heap.size)) args s 1 6 (zWF ad o s.heap.size)) (F0 m pc ls [iv r, iv 0, .ref o]) := by
  subst hk; subst hkr
  have holt := ho.lt
  have ho1 : H1[o]? = some (vp_cell tL (1, .inr (.inl (fun _ => v)))) := by
    rw [hkeep o holt (fun z => by
      rcases z with ⟨f, i, h1, h2⟩ | z
      · exact hoC f i h1 h2.symm
      · omega)]
    exact ho
  refine lv_i2l hC.1.1 hC.1.2.1 dA rfl ?_
  have hin := zi_in (a := 0) (n := 1) (by omega) (by omega)
  refine W.last hC.1.1 hC.1.2.1 ho1 ((hKW.2 6 (tL, .long) rfl).1 1 (fun _ => .long v)) (fun q => by cases q) (by show ¬ (Int32.ofInt 0 < 0 ∨ (arrV _ _ _).slots.size ≤ _); rw [arrV_size]; exact hin) rfl rfl dB fun H2 e2 z2 oq => ?_
  have hw2 : zH D ad okC (tmC ad tc) C' H2 := hw.kept (fun f i h => oq _ (hoC f i h))
  have hS2 : va_S (zWF ad o s.heap.size) s.heap H2 (locs1 ++ [⟨o, (Int32.ofInt 0).toNatClampNeg⟩]) := hS.put z2 oq (Or.inr (Or.inl rfl))
  have ho2 : outAt tL o (Int32.ofInt r).toInt64 H2 := by
    unfold outAt
    rw [e2, vp_cell_l, vp_cell_l, arrV_store]
    have e0 : (Int32.ofInt 0).toNatClampNeg = 0 := by decide
    rw [e0]
    unfold arrV
    congr 3
    funext j
    have : j.val = 0 := by omega
    simp [updV, this]
  refine lv_goto hC.1.1 hC.1.2.1 dC htg ?_
  refine lv_iconst hC.1.1 hC.1.2.1 dD rfl ?_
  exact W.zret hC.1.1 hC.1.2.1 hret (by rfl) (fun t ht hW => ⟨⟨_, (), rfl, rfl, by show zH D ad okC (tmC ad tc) _ t.heap ∧ outAt tL o _ t.heap; rw [ht, if_pos rfl, if_pos rfl]; exact ⟨hw2, ho2⟩⟩, hS2.F ht⟩) hS2.2.2 dE hlk
theorem zw_endx (hC : zC p s m args c D (tysC tc) ad okC (zWF ad o s.heap.size) s.heap cc nL own) (hret : meth.sig.returnType = some .int) (hlk : meth.locks = false) {H1 : Heap} {locs1 : List Loc} {v : Int64} {kr : Int} (hw : zH D ad okC (tmC ad tc) C H1) (ho : outAt tL o v s.heap) (hoC : ∀ f i, okC f i → ad f i ≠ o) (hkeep : ∀ q : Nat, q < s.heap.size → ¬ zA ad okC s.heap.size q → H1[q]? = s.heap[q]?) (hS : va_S (zWF ad o s.heap.size) s.heap H1 locs1) (hk : k ≠ 0) {L : List (Nat × Value)} (hl : lv_has ls nL L) {q i : Nat} {n9 : Int} (hkr : kr = n9) (hn9 : narrow .int (iv n9) = iv n9) (hi : i < nL)
    {pc2 : Nat} (hst : (∀ ls2 : Array Slot, W p l e R s m args below meth c H1 locs1 1 6 (MQ below (va_Qi (fun (x : Int32) (_ : Unit) => x = Int32.ofInt kr) (fun _ t => zH D ad okC (tmC ad tc) (if k = 0 then C' else C) t.heap ∧ outAt tL o (if k = 0 then (Int32.ofInt r).toInt64 else v) t.heap) (zWF ad o s.heap.size)) args s 1 6 (zWF ad o s.heap.size)) (F0 m pc2 ls2 [])) → W p l e R s m args below meth c H1 locs1 1 6 (MQ below (va_Qi (fun (x : Int32) (_ : Unit) => x = Int32.ofInt kr) (fun _ t => zH D ad okC (tmC ad tc) (if k = 0 then C' else C) t.heap ∧ outAt tL o (if k = 0 then (Int32.ofInt r).toInt64 else v) t.heap) (zWF ad o s.heap.size)) args s 1 6 (zWF ad o s.heap.size)) (F0 m pc ls [.ref q]))
    (dB : decode cc pc2 = .ok (.iconst n9, 1)) (dC : decode cc (pc2 + 1) = .ok (.ireturn, 1)) :
    W p l e R s m args below meth c H1 locs1 1 6 (MQ below (va_Qi (fun (x : Int32) (_ : Unit) => x = Int32.ofInt kr) (fun _ t => zH D ad okC (tmC ad tc) (if k = 0 then C' else C) t.heap ∧ outAt tL o (if k = 0 then (Int32.ofInt r).toInt64 else v) t.heap) (zWF ad o s.heap.size)) args s 1 6 (zWF ad o s.heap.size)) (F0 m pc ls [.ref q]) := by
  subst hkr
  have holt := ho.lt
  have ho1 : outAt tL o v H1 := by
    unfold outAt
    rw [hkeep o holt (fun z => by
      rcases z with ⟨f, i, h1, h2⟩ | z
      · exact hoC f i h1 h2.symm
      · omega)]
    exact ho
  refine hst (fun ls2 => ?_)
  refine lv_iconst hC.1.1 hC.1.2.1 dB rfl ?_
  exact W.zret hC.1.1 hC.1.2.1 hret hn9 (fun t ht hW => ⟨⟨_, (), rfl, rfl, by show zH D ad okC (tmC ad tc) _ t.heap ∧ outAt tL o _ t.heap; rw [ht, if_neg hk, if_neg hk]; exact ⟨hw, ho1⟩⟩, hS.F ht⟩) hS.2.2 dC hlk
end ZWR
