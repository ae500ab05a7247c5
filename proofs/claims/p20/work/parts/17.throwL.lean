/-! methods that throw -/
def zXs : List (Nat × String) := [(41, "x and y are 0 to 40, the height is 0 to 60"), (56, "the place is taken, or there are 8 platforms"), (69, "no such platform"), (75, "the bottom is lower, most is 20 to 150, trolleys are 1 to 3"), (80, "there are 12 lines"), (92, "no such line"), (104, "the line has 3 trolleys"), (106, "the minute is 0 to 11"), (108, "the wind is 0 to 9"), (114, "no such platform, or what is not 0 to 7"), (120, "no such line, or what is not 0 to 10"), (128, "the weight is 20 to 120"), (146, "no such platform or goal"), (148, "the weight is 20 to 120, the patience 1 to 60"), (153, "there are 12 riders"), (164, "no such rider, or what is not 0 to 10"), (172, "no such platform or place in its queue"), (177, "the minutes are 1 to 100"), (182, "what is not 0 to 9"), (194, "no such rider"), (216, "the minutes are 1 to 30")]
def zStr (s : State) : Prop := ∀ q ∈ zXs, ∃ a, vk_R "ZipCanopy" q.1 q.2 a s
/-- what a throwing method wants of the state -/
def zXf (A : Nat → Prop) (U : State) (H : Heap) : Prop := zStr U ∧ vx_Zq Bundle.tN "UNASSIGNED_STACK" Bundle.steD A U H ∧ vx_Zq Bundle.tN "SUPPRESSED_SENTINEL" Bundle.listD A U H
def zEx : Nat → String
  | 1 => "java/lang/IllegalArgumentException"
  | 2 => "java/lang/IllegalStateException"
  | _ => "java/lang/IndexOutOfBoundsException"
abbrev zSup : List String := ["java/lang/RuntimeException", "java/lang/Exception"]
theorem znl_use {s : State} {args : Array Value} (h : ∀ w ∈ znl, va_Nw w s) : ∀ w ∈ znl, w.before args s = true := by
  intro w hw
  have h1 := (List.mem_filter.mp hw).2
  have h2 := h w hw
  cases w <;> first | exact va_Nw.use rfl h2 | (simp [zisN, Cond.faceAtom] at h1)
/-- the words of a throw -/
def zTh (ic : Nat) (cls : String) : Prop := (∀ w ∈ vx_atS "ZipCanopy" ic cls zSup, w ∈ lw_tbl) ∧ (∀ w ∈ vx_atS "ZipCanopy" ic cls zSup, (goodWord w || zisN w) = true) ∧ (∀ w ∈ vx_atS "ZipCanopy" ic cls zSup, vx_ot w = true) ∧ Bundle.fit cls = true
abbrev zPreX (D : va_G) (tys : List (ClassId × FieldType)) (ad : Nat → Nat → Nat) (ok : Nat → Nat → Prop) (tm : Nat → Nat → zT) (av : List Value) (M : zM) (sz : Nat) : Array Value → State → Prop := va_Pc av (fun U => U.heap.size = sz ∧ zH D ad ok tm M U.heap ∧ va_K D vwCl tys U ∧ (∀ w ∈ znl, va_Nw w U) ∧ zXf (zA ad ok sz) U U.heap)
theorem zXf.same {A : Nat → Prop} {u U : State} {H : Heap} (hv : U.vm = u.vm) (h : zXf A u H) : zXf A U H := by
  obtain ⟨h1, h2, h3⟩ := h
  have ha : u.vm.Alike U.vm := by rw [hv]; exact Vm.Alike.refl _
  exact ⟨fun q hq => by obtain ⟨a, r⟩ := h1 q hq; exact ⟨a, vk_R.same hv r⟩, vx_Zq.moved ha h2, vx_Zq.moved ha h3⟩
theorem zXf.warm {A : Nat → Prop} {s U : State} {H : Heap} (hW : s.WarmedH U.vm) (h : zXf A s H) : zXf A U H := by
  obtain ⟨h1, h2, h3⟩ := h
  exact ⟨fun q hq => by obtain ⟨a, r⟩ := h1 q hq; exact ⟨a, vk_R.warm hW r⟩, vx_Zq.moved hW.alike h2, vx_Zq.moved hW.alike h3⟩
theorem zPreX_blind {D : va_G} {tys : List (ClassId × FieldType)} {ad : Nat → Nat → Nat} {ok : Nat → Nat → Prop} {tm : Nat → Nat → zT} {av : List Value} {M : zM} {sz : Nat} : FrameBlind (zPreX D tys ad ok tm av M sz) := fun a U g mk q => by
  obtain ⟨q0, q1, qP, qK, qN, qX⟩ := q
  exact ⟨q0, q1, qP, va_K.moved (u := U) (U := U.calling g mk a) (Vm.Alike.refl U.vm) qK, znl_same (u := U) (U := U.calling g mk a) rfl qN, zXf.same (u := U) (U := U.calling g mk a) rfl qX⟩
abbrev zQx (D : va_G) (ad : Nat → Nat → Nat) (ok : Nat → Nat → Prop) (tm : Nat → Nat → zT) (k : Nat) (r : Int) (M' : zM) (A : Nat → Prop) : Array Value → State → Outcome → State → Prop := va_Qi (fun (x : Int32) (_ : Unit) => k = 0 ∧ x = Int32.ofInt r) (fun _ t => zH D ad ok tm M' t.heap) A
abbrev zXx (D : va_G) (ad : Nat → Nat → Nat) (ok : Nat → Nat → Prop) (tm : Nat → Nat → zT) (k : Nat) (M : zM) (A : Nat → Prop) : String → State → State → Prop := vx_X (fun (_ : Unit) => k ≠ 0) (fun E _ t => E = zEx k ∧ zH D ad ok tm M t.heap) A
/-- a method that answers (k = 0) or throws (k: which exception), and then changes nothing -/
def zMx (l : Launch) (y : MethodName) (bytes : ByteArray) (maxL : Nat) (ret : Option FieldType) (d : Nat) (D : va_G) (tys : List (ClassId × FieldType)) (ad : Nat → Nat → Nat) (ok : Nat → Nat → Prop) (tm : Nat → Nat → zT) (av : List Value) (M : zM) (k : Nat) (r : Int) (M' : zM) : Prop :=
  ∀ sz : Nat, vx_Met l y (zws y bytes maxL ret) (zrm d 1 6) (zPreX D tys ad ok tm av M sz) (zQx D ad ok tm k r M' (zA ad ok sz)) (zXx D ad ok tm k M (zA ad ok sz)) 1 6 (zA ad ok sz)
section ZX
variable {l : Launch} {y : MethodName} {bytes : ByteArray} {maxL : Nat} {ret : Option FieldType} {d : Nat} {D : va_G} {tys : List (ClassId × FieldType)} {ad : Nat → Nat → Nat} {ok : Nat → Nat → Prop} {tm : Nat → Nat → zT} {av : List Value} {M : zM} {M' : zM}
theorem z_metx {Qc : Nat → Array Value → State → Outcome → State → Prop} {XC : Nat → String → State → State → Prop} (hI : zI ad ok) (hy : plainName y.cls = true) (hav : (lg_sl av).length ≤ maxL)
    (body : ∀ (p : Program) (e : Env) (s : State) (m : MethodId) (args : Array Value) (below : List Frame) (meth : Method) (c : Code), zC p s m args c D tys ad ok (zA ad ok s.heap.size) s.heap bytes maxL y.cls → meth.sig.returnType = ret → meth.locks = false → zXf (zA ad ok s.heap.size) s s.heap → (∀ x ∈ c.exceptionTable.toList, False) →
      zV p l e (zrm d 1 6) s m args below meth c (vx_MQ below (Qc s.heap.size) (XC s.heap.size) args s 1 6 (zA ad ok s.heap.size)) D ad ok tm (zA ad ok s.heap.size) s.heap maxL 0 0 M (lv_args 0 av) 0 []) (sz : Nat) : vx_Met l y (zws y bytes maxL ret) (zrm d 1 6) (zPreX D tys ad ok tm av M sz) (Qc sz) (XC sz) 1 6 (zA ad ok sz) := by
  refine vx_ofW (cc := bytes) (maxL := maxL) (ret := ret) hy rfl ?_
  intro p e s m args below meth c s₁ B hml het hv
  obtain ⟨rfl, hsz, hP, hK, hN, hX⟩ := hv
  subst hsz
  have hts := atoms_spec (ws := zws y bytes maxL ret) B.pre
  have hown : s.vm.findClass y.cls = some m.cls := findClass_of_methodNamed B.named
  rw [lg_entry_eq]
  refine body p e s m av.toArray below meth c ⟨⟨B.exec, B.bytes, hml, hown, fun x h => hts x (List.mem_cons_of_mem _ h)⟩, hK, hI, fun f i h => Or.inl ⟨f, i, h, rfl⟩, fun q h => Or.inr h, hN⟩ B.returns B.notSynchronized hX het s.heap [] _ hP va_S.rf (lv_entry av hav)
end ZX
section ZX2
variable {p : Program} {l : Launch} {e : Env} {s : State} {m : MethodId} {args : Array Value} {below : List Frame} {meth : Method} {c : Code} {D : va_G} {tys : List (ClassId × FieldType)} {ad : Nat → Nat → Nat} {ok : Nat → Nat → Prop} {tm : Nat → Nat → zT} {A : Nat → Prop} {nL d : Nat} {M M' M0 : zM} {L : List (Nat × Value)} {pc : Nat} {cc : ByteArray} {own : String}
theorem z_iretx (hC : zC p s m args c D tys ad ok A s.heap cc nL own) {k : Nat} {r r' : Int} {XC : String → State → State → Prop} {ty : FieldType} (hr : meth.sig.returnType = some ty) (hlocks : meth.locks = false) (hn : narrow ty (iv r') = iv r') (hk : k = 0) (hrr : r' = r) (hMM : M = M') (hdg : decode cc pc = .ok (.ireturn, 1)) : zV p l e (zrm d 1 6) s m args below meth c (vx_MQ below (zQx D ad ok tm k r M' A) XC args s 1 6 A) D ad ok tm A s.heap nL 0 0 M L pc [iv r'] := by
  intro H locs ls hw hS hl
  subst hrr; subst hMM
  refine W.widen (k := 1) (n := 6) (by decide) (by decide) (vx_ret ?_)
  exact W.zret hC.1.1 hC.1.2.1 hr hn (fun t ht hW => ⟨⟨_, (), rfl, ⟨hk, rfl⟩, by show zH D ad ok tm M t.heap; rw [ht]; exact hw⟩, hS.F ht⟩) hS.2.2 hdg hlocks
theorem z_throw (hC : zC p s m args c D tys ad ok A s.heap cc nL own) (hown0 : own = "ZipCanopy") (hl : l.stackTraces = false) (hX : zXf A s s.heap) (het : ∀ x ∈ c.exceptionTable.toList, False) (hlocks : meth.locks = false) {k : Nat} {Qc : Array Value → State → Outcome → State → Prop} {cls text : String} {ik is ic : Nat} (hq : (is, text) ∈ zXs) (hk : Cond.classLink "ZipCanopy" ik cls ∈ zbig) (hini : Cond.initialized cls ∈ zbig) (hT : zTh ic cls)
    (d0 : decode cc pc = .ok (.new ik, 3)) (d3 : decode cc (pc + 3) = .ok (.dup, 1)) (d4 : decode cc (pc + 4) = .ok (.ldc is, 2)) (d6 : decode cc (pc + 6) = .ok (.invokespecial ic, 3)) (d9 : decode cc (pc + 9) = .ok (.athrow, 1)) (hd : 6 ≤ d) (hk0 : k ≠ 0) (hE : cls = zEx k) (hMM : M = M0) :
    zV p l e (zrm d 1 6) s m args below meth c (vx_MQ below Qc (zXx D ad ok tm k M0 A) args s 1 6 A) D ad ok tm A s.heap nL 0 0 M L pc [] := by
  intro H locs ls hw hS hl9
  subst hMM; subst hown0
  obtain ⟨hs1, hU, hN⟩ := hX
  obtain ⟨sa, hsa⟩ := hs1 _ hq
  have hts := hC.1.2.2.2.2
  refine vx_throwS (names := zSup) hC.1.1 hC.1.2.1 hl hC.1.2.2.2.1 hT.2.2.2 (by decide +kernel) (hts _ hk) (hts _ hini) hsa ?_ ?_ hU hN hS (hl9.1.trans hC.1.2.2.1.symm) d0 d3 d4 d6 d9 (fun x hx => (het x hx).elim) (show 5 < d by omega) (show 0 + (13 * 3 + 43) ≤ 40 * d by omega) (Nat.le_refl 1) (Nat.le_refl 6) hlocks ?_ hS.2.2 (Nat.le_refl 1) (Nat.le_refl 6)
  · intro w hw9
    have h1 := hT.1 w hw9
    have h2 := hT.2.1 w hw9
    rcases Bool.or_eq_true_iff.mp h2 with h3 | h3
    · exact hts w (List.mem_filter.mpr ⟨h1, h3⟩)
    · exact znl_use hC.2.2.2.2.2 w (List.mem_filter.mpr ⟨h1, h3⟩)
  · intro w hw9
    rcases List.mem_cons.mp hw9 with rfl | hw9
    · exact (Bool.or_eq_true_iff.mpr (Or.inr (zgood _ hk)))
    · rcases List.mem_cons.mp hw9 with rfl | hw9
      · exact (Bool.or_eq_true_iff.mpr (Or.inr (zgood _ hini)))
      · exact hT.2.2.1 w hw9
  · intro t hal hsz hkeep
    refine ⟨(), hk0, ⟨hE, hw.kept (fun f i ho => hkeep _ (hw f i ho).lt)⟩, ⟨Nat.le_trans hS.1 hsz, fun q h1 h2 => ?_⟩⟩
    rw [hkeep q (Nat.lt_of_lt_of_le h1 hS.1)]
    exact hS.2.1 q h1 h2
end ZX2
