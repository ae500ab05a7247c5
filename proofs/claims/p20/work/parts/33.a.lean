/-! constructors: the cells lie at addresses that are known ahead; those below sz have been made; S: what they hold -/
def zHB (D : va_G) (ad : Nat → Nat → Nat) (ok : Nat → Nat → Prop) (sz : Nat) (S : Nat → Nat → va_E) (H : Heap) : Prop := H.size = sz ∧ ∀ f i, ok f i → ad f i < sz → va_at D vwCl (ad f i, S f i) H
def zB (p : Program) (l : Launch) (e : Env) (R : Room) (s : State) (m : MethodId) (args : Array Value) (below : List Frame) (meth : Method) (c : Code) (Q : State → Prop) (D : va_G) (ad : Nat → Nat → Nat) (ok : Nat → Nat → Prop) (A : Nat → Prop) (H0 : Heap) (nL : Nat) (cells slots : Nat) (sz : Nat) (S : Nat → Nat → va_E) (L : List (Nat × Value)) (pc : Nat) (St : List Value) : Prop :=
  ∀ (H : Heap) (locs : List Loc) (ls : Array Slot), zHB D ad ok sz S H → va_S A H0 H locs → lv_has ls nL L → W p l e R s m args below meth c H locs cells slots Q (F0 m pc ls St)
def zse (S : Nat → Nat → va_E) (f i : Nat) (c : va_E) : Nat → Nat → va_E := fun f' i' => if f' = f ∧ i' = i then c else S f' i'
theorem zse_at (S : Nat → Nat → va_E) (f i : Nat) (c : va_E) : zse S f i c f i = c := by simp [zse]
theorem zse_off {S : Nat → Nat → va_E} {f i : Nat} {c : va_E} {f' i' : Nat} (h : ¬ (f' = f ∧ i' = i)) : zse S f i c f' i' = S f' i' := if_neg h
theorem zse_f {S : Nat → Nat → va_E} {f i : Nat} {c : va_E} {f' i' : Nat} (h : f' ≠ f) : zse S f i c f' i' = S f' i' := if_neg (fun q => h q.1)
section ZHB
variable {D : va_G} {ad : Nat → Nat → Nat} {ok : Nat → Nat → Prop} {sz : Nat} {S S' : Nat → Nat → va_E} {H H1 : Heap} {f i : Nat} {c : va_E}
theorem zHB.put (h : zHB D ad ok sz S H) (hI : zI ad ok) (ho : ok f i) (hz : H1.size = H.size) (hn : va_at D vwCl (ad f i, c) H1) (oq : ∀ q : Nat, q ≠ ad f i → H1[q]? = H[q]?) : zHB D ad ok sz (zse S f i c) H1 := by
  refine ⟨hz.trans h.1, fun f' i' ho' hl => ?_⟩
  by_cases q : f' = f ∧ i' = i
  · obtain ⟨rfl, rfl⟩ := q
    rw [zse_at]; exact hn
  · rw [zse_off q]
    exact (h.2 f' i' ho' hl).kept (oq _ (fun z => q (hI f' i' f i ho' ho z)))
theorem zHB.new (h : zHB D ad ok sz S H) (hI : zI ad ok) (ho : ok f i) (hs : ad f i = sz) (hz : H1.size = sz + 1) (hn : va_at D vwCl (ad f i, c) H1) (o1 : ∀ q : Nat, q < sz → H1[q]? = H[q]?) : zHB D ad ok (sz + 1) (zse S f i c) H1 := by
  refine ⟨hz, fun f' i' ho' hl => ?_⟩
  by_cases q : f' = f ∧ i' = i
  · obtain ⟨rfl, rfl⟩ := q
    rw [zse_at]; exact hn
  · have h2 : ad f' i' ≠ sz := fun z => q (hI f' i' f i ho' ho (z.trans hs.symm))
    have h3 : ad f' i' < sz := by omega
    rw [zse_off q]
    exact (h.2 f' i' ho' h3).kept (o1 _ h3)
theorem zHB.cong (h : zHB D ad ok sz S H) (hS : ∀ f i, ok f i → ad f i < sz → S f i = S' f i) : zHB D ad ok sz S' H := ⟨h.1, fun f i ho hl => by rw [← hS f i ho hl]; exact h.2 f i ho hl⟩
theorem zHB.one (h : zHB D ad ok sz S H) (ho : ok f i) (hl : ad f i < sz) : va_P D vwCl [(ad f i, S f i)] H := by
  intro k q hk
  match k, hk with
  | 0, hk => cases hk; exact h.2 f i ho hl
  | k + 1, hk => simp at hk
end ZHB
theorem zwobi : Cond.instanceMethod Lib.objectInit ∈ zbig := zin 71 (by decide +kernel) rfl
theorem zwobc : Cond.code Lib.objectInit ⟨#[0xb1]⟩ 1 none ∈ zbig := zin 72 (by decide +kernel) rfl
def zAO (U : State) : Prop := ∀ C ∈ (["ZipCanopy$Platform", "ZipCanopy$Line", "ZipCanopy$Rider", "ZipCanopy$Trip", "ZipCanopy$Trolleys"] : List String), va_AO C U
theorem zAO.moved {u U : State} (hvm : u.vm.Alike U.vm) (h : zAO u) : zAO U := fun C hC => va_AO.moved hvm (h C hC)
/-- a final field, to be written in its class's constructor (a reference) -/
def zFf (own : String) (index ci k : Nat) : Prop := ∃ (C : String) (T : u_T) (N : Nat) (ty : Nat → FieldType), vwCl[ci]? = some (C, T, N) ∧ k < N ∧ (∀ w ∈ u_ws C T N, w ∈ zbig) ∧ Cond.fieldLink own index (T k).1 (T k).2.1 (T k).2.2.1 ∈ zbig ∧ (∀ k, k < N → parseFieldDescriptor (T k).2.2.1 = some (ty k)) ∧ (∀ a, a < N → ∀ b, b < N → a ≠ b → (T a).2.1 ≠ (T b).2.1) ∧ (T k).2.2.2 = true ∧ (T k).1 = own ∧ ∃ t, parseFieldDescriptor (T k).2.2.1 = some t ∧ (∀ a : Nat, narrow t (.ref a) = .ref a) ∧ (∀ a : Nat, fits t (.ref a) = true)
section ZBR
variable {p : Program} {l : Launch} {e : Env} {R : Room} {s : State} {m : MethodId} {args : Array Value} {below : List Frame} {meth : Method} {c : Code} {Q : State → Prop} {D : va_G} {tys : List (ClassId × FieldType)} {ad : Nat → Nat → Nat} {ok : Nat → Nat → Prop} {A : Nat → Prop} {H0 : Heap} {nL : Nat} {cells slots : Nat} {sz : Nat} {S : Nat → Nat → va_E} {L : List (Nat × Value)} {pc : Nat} {St rest : List Value} {cc : ByteArray} {own : String}
theorem zb_iconst (hC : zC p s m args c D tys ad ok A H0 cc nL own) {n : Int} (hdg : decode cc pc = .ok (.iconst n, 1)) (kk : zB p l e R s m args below meth c Q D ad ok A H0 nL cells slots sz S L (pc + 1) (iv n :: rest)) : zB p l e R s m args below meth c Q D ad ok A H0 nL cells slots sz S L (pc) (rest) := fun H locs ls hw hS hl => lv_iconst hC.1.1 hC.1.2.1 hdg rfl (kk H locs ls hw hS hl)
theorem zb_bipush (hC : zC p s m args c D tys ad ok A H0 cc nL own) {n : Int} (hdg : decode cc pc = .ok (.bipush n, 2)) (hv : (Int8.ofInt n).toInt32 = Int32.ofInt n) (kk : zB p l e R s m args below meth c Q D ad ok A H0 nL cells slots sz S L (pc + 2) (iv n :: rest)) : zB p l e R s m args below meth c Q D ad ok A H0 nL cells slots sz S L (pc) (rest) := fun H locs ls hw hS hl => lv_bipush hC.1.1 hC.1.2.1 hdg hv (kk H locs ls hw hS hl)
theorem zb_iload_n (hC : zC p s m args c D tys ad ok A H0 cc nL own) {k : Fin 4} {i : Nat} {x : Int32} (j : Nat) (hj : L[j]? = some (i, .int x)) (hdg : decode cc pc = .ok (.iload_n k, 1)) (hi : (k : Nat) = i) (kk : zB p l e R s m args below meth c Q D ad ok A H0 nL cells slots sz S L (pc + 1) (.int x :: rest)) : zB p l e R s m args below meth c Q D ad ok A H0 nL cells slots sz S L (pc) (rest) := fun H locs ls hw hS hl => lv_iload_n hC.1.1 hC.1.2.1 hdg hi (lv_at hl j hj) (kk H locs ls hw hS hl)
theorem zb_aload_n (hC : zC p s m args c D tys ad ok A H0 cc nL own) {k : Fin 4} {i : Nat} {x : Nat} (j : Nat) (hj : L[j]? = some (i, .ref x)) (hdg : decode cc pc = .ok (.aload_n k, 1)) (hi : (k : Nat) = i) (kk : zB p l e R s m args below meth c Q D ad ok A H0 nL cells slots sz S L (pc + 1) (.ref x :: rest)) : zB p l e R s m args below meth c Q D ad ok A H0 nL cells slots sz S L (pc) (rest) := fun H locs ls hw hS hl => lv_aload_n hC.1.1 hC.1.2.1 hdg hi (lv_at hl j hj) (kk H locs ls hw hS hl)
theorem zb_istore_n (hC : zC p s m args c D tys ad ok A H0 cc nL own) {k : Fin 4} {i : Nat} {x : Int32} (L' : List (Nat × Value)) (hdg : decode cc pc = .ok (.istore_n k, 1)) (hi : (k : Nat) = i) (hn : i < nL) (hL : (i, Value.int x) :: L.filter (fun q => !(q.1 == i) && !(q.1 + 1 == i && q.2.category == 2)) = L') (kk : zB p l e R s m args below meth c Q D ad ok A H0 nL cells slots sz S L' (pc + 1) (rest)) : zB p l e R s m args below meth c Q D ad ok A H0 nL cells slots sz S L (pc) (.int x :: rest) := fun H locs ls hw hS hl => lv_istore_n hC.1.1 hC.1.2.1 hdg hi hl hn hL (fun ls2 hl2 => kk H locs ls2 hw hS hl2)
theorem zb_iinc (hC : zC p s m args c D tys ad ok A H0 cc nL own) {i : Nat} {n : Int} {x : Int} (j : Nat) (L' : List (Nat × Value)) (hdg : decode cc pc = .ok (.iinc i n, 3)) (hj : L[j]? = some (i, iv x)) (hn : i < nL) (hL : (i, iv (x + n)) :: L.filter (fun q => !(q.1 == i) && !(q.1 + 1 == i && q.2.category == 2)) = L') (kk : zB p l e R s m args below meth c Q D ad ok A H0 nL cells slots sz S L' (pc + 3) (rest)) : zB p l e R s m args below meth c Q D ad ok A H0 nL cells slots sz S L (pc) (rest) := fun H locs ls hw hS hl => lv_iinc hC.1.1 hC.1.2.1 hdg hl hj (Int32.ofInt_add x n).symm hn hL (fun ls2 hl2 => kk H locs ls2 hw hS hl2)
theorem zb_dup (hC : zC p s m args c D tys ad ok A H0 cc nL own) {v : Value} (hdg : decode cc pc = .ok (.dup, 1)) (hv : v.category = 1) (kk : zB p l e R s m args below meth c Q D ad ok A H0 nL cells slots sz S L (pc + 1) (v :: v :: rest)) : zB p l e R s m args below meth c Q D ad ok A H0 nL cells slots sz S L (pc) (v :: rest) := fun H locs ls hw hS hl => lv_dup hC.1.1 hC.1.2.1 hdg hv (kk H locs ls hw hS hl)
theorem zb_icmp_ge (hC : zC p s m args c D tys ad ok A H0 cc nL own) {a b : Int} {off : Int} (tgt : Nat) (hdg : decode cc pc = .ok (.if_icmp .ge off, 3)) (ht : (pc : Int) + off = (tgt : Int)) (h1 : -2147483648 ≤ a ∧ a < 2147483648) (h2 : -2147483648 ≤ b ∧ b < 2147483648) (kt : b ≤ a → zB p l e R s m args below meth c Q D ad ok A H0 nL cells slots sz S L (tgt) (rest)) (kf : a < b → zB p l e R s m args below meth c Q D ad ok A H0 nL cells slots sz S L (pc + 3) (rest)) : zB p l e R s m args below meth c Q D ad ok A H0 nL cells slots sz S L (pc) (iv b :: iv a :: rest) := fun H locs ls hw hS hl => lv_icmp_ge hC.1.1 hC.1.2.1 hdg ht (fun h => kt ((zi_le h2 h1).mp h) H locs ls hw hS hl) (fun h => kf (Int.not_le.mp fun q => h ((zi_le h2 h1).mpr q)) H locs ls hw hS hl)
theorem zb_goto (hC : zC p s m args c D tys ad ok A H0 cc nL own) {off : Int} (tgt : Nat) (hdg : decode cc pc = .ok (.goto off, 3)) (ht : (pc : Int) + off = (tgt : Int)) (kk : zB p l e R s m args below meth c Q D ad ok A H0 nL cells slots sz S L (tgt) (rest)) : zB p l e R s m args below meth c Q D ad ok A H0 nL cells slots sz S L (pc) (rest) := fun H locs ls hw hS hl => lv_goto hC.1.1 hC.1.2.1 hdg ht (kk H locs ls hw hS hl)
theorem zb_perm {L' : List (Nat × Value)} (ks : List Nat) (h : lv_pick L ks = L') (kk : zB p l e R s m args below meth c Q D ad ok A H0 nL cells slots sz S L' (pc) (rest)) : zB p l e R s m args below meth c Q D ad ok A H0 nL cells slots sz S L (pc) (rest) := fun H locs ls hw hS hl => kk H locs ls hw hS (lv_sub hl ks h)
theorem zb_conv {S2 : Nat → Nat → va_E} {sz2 : Nat} {L2 : List (Nat × Value)} {St2 : List Value} (kk : zB p l e R s m args below meth c Q D ad ok A H0 nL cells slots sz2 S2 L2 pc St2) (hz : sz = sz2) (hM : S = S2) (hL : L = L2) (hSt : St = St2) : zB p l e R s m args below meth c Q D ad ok A H0 nL cells slots sz S L pc St := by subst hz; subst hM; subst hL; subst hSt; exact kk
theorem zb_widen {k n : Nat} (h1 : cells ≤ k) (h2 : slots ≤ n) (kk : zB p l e R s m args below meth c Q D ad ok A H0 nL k n sz S L pc rest) : zB p l e R s m args below meth c Q D ad ok A H0 nL cells slots sz S L pc rest := fun H locs ls hw hS hl => W.widen h1 h2 (kk H locs ls hw hS hl)
theorem zb_obj (hC : zC p s m args c D tys ad ok A H0 cc nL own) {index : Nat} {a : Nat} (hlk : Cond.methodLink own index Lib.objectInit ∈ zbig) (hW : (rest.map fun v => v.category).sum ≤ 8) (hR : 1 ≤ R.frames ∧ 40 ≤ R.locals) (hdg : decode cc pc = .ok (.invokespecial index, 3)) (kk : zB p l e R s m args below meth c Q D ad ok A H0 nL cells slots sz S L (pc + 3) rest) : zB p l e R s m args below meth c Q D ad ok A H0 nL cells slots sz S L pc (.ref a :: rest) := by
  intro H locs ls hw hS hl
  have hts := hC.1.2.2.2.2
  refine W.objInit hC.1.1 hC.1.2.1 hC.1.2.2.2.1 (hts _ hlk) (hts _ zwobi) (hts _ zwobc) rfl (by rw [hC.1.2.2.1]; exact hl.1) rfl hdg hR.1 (by show 2 * 0 + _ + 12 ≤ _; omega) ?_
  exact kk H locs ls hw hS hl
theorem zb_get (hC : zC p s m args c D tys ad ok A H0 cc nL own) {index ci k : Nat} (hf : zF own index ci k) {f i : Nat} {fs : List Value} {v : Value} (ho : ok f i) (hlt : ad f i < sz) (hS9 : S f i = .inr (ci, fs)) (hq : fs[k]? = some v) (hdg : decode cc pc = .ok (.getfield index, 3)) (kk : zB p l e R s m args below meth c Q D ad ok A H0 nL cells slots sz S L (pc + 3) (v :: rest)) : zB p l e R s m args below meth c Q D ad ok A H0 nL cells slots sz S L pc (.ref (ad f i) :: rest) := by
  intro H locs ls hw hS hl
  obtain ⟨⟨hx, hb, hml, hown, hts⟩, hK, -⟩ := hC
  obtain ⟨C, T, N, h1, h2, h3, h4⟩ := hf
  have hP := hw.one ho hlt
  rw [hS9] at hP
  exact va_get hx hb hts h3 hown hK hP 0 rfl h1 k h2 (hts _ h4) (fun _ h => h) (v := v) hq hdg (kk H locs ls hw hS hl)
theorem zb_putF (hC : zC p s m args c D tys ad ok A H0 cc nL own) (hmn : meth.name = "<init>") {index ci k : Nat} (hf : zFf own index ci k) {f i a : Nat} {fs : List Value} (ho : ok f i) (hlt : ad f i < sz) (hS9 : S f i = .inr (ci, fs)) (hk : k < fs.length) (hdg : decode cc pc = .ok (.putfield index, 3)) (kk : zB p l e R s m args below meth c Q D ad ok A H0 nL cells slots sz (zse S f i (.inr (ci, fs.set k (.ref a)))) L (pc + 3) rest) : zB p l e R s m args below meth c Q D ad ok A H0 nL cells slots sz S L pc (.ref a :: .ref (ad f i) :: rest) := by
  intro H locs ls hw hS hl
  obtain ⟨⟨hx, hb, hml, hown, hts⟩, hK, hI, hA, -⟩ := hC
  obtain ⟨C, T, N, ty0, h1, h2, hin, h4, hty, hnm, hfin, hdecl, t, hd, hn, hfit⟩ := hf
  have hap := va_apart (own := own) hts hin ty0 hty hnm hK h1
  have hw0 := hw.2 f i ho hlt
  rw [hS9] at hw0
  obtain ⟨r, hr1, cell, q1, q2, q3, q4⟩ := hw0
  have hr : r = (C, T, N) := Option.some.inj (hr1.symm.trans h1)
  subst hr
  obtain ⟨hSl, hfc, kC, hkC, hkind⟩ := hK.1 ci _ h1
  obtain ⟨cf, kf, fi, fd, hi, hsl⟩ := hSl k h2
  have hlay := hts _ (hin _ (u_in_lay h2))
  unfold u_lay at hlay
  rw [if_pos hfin] at hlay
  have hst := (u_facts hfc hkC (u_lays hts hin h2) hi).1
  have hcf : m.cls = cf := by
    obtain ⟨_, _, c', _, _, _, -, -, hf', -, -, -, hown2, -⟩ := Cond.laysFinal_spec hlay
    have e1 : c' = cf := by have := hi.symm.trans hf'; simp at this; exact this.1.symm
    rw [hdecl] at hown2
    rw [← e1]; exact Option.some.inj (hown.symm.trans hown2)
  have h6 := u_fits hfc hkC hkind (Or.inr hlay) hi hd (hn a) (hfit a)
  refine W.putFinK hx hb hown (hts _ h4) hi hst hcf hmn (by rw [q2]; exact h6) q1 q3 (by rw [hsl]; exact k2_hasslot (q4 k h2)) rfl rfl hdg fun H' e1 e2 e3 => ?_
  rw [hsl] at e1 ⊢
  refine kk H' _ ls (hw.put hI ho e2 ?_ e3) (hS.put e2 e3 (hA f i ho)) hl
  exact ⟨_, h1, t_OB.to (V := updV (vp_V fs) k (.ref a)) ⟨_, e1, q2, q3, t_set q4 hap h2 (.ref a)⟩ (fun j _ => vp_updV_set hk (.ref a) j)⟩
theorem zb_put (hC : zC p s m args c D tys ad ok A H0 cc nL own) {index ci k : Nat} (hf : zFw own index ci k) {f i : Nat} {x : Int} {fs : List Value} (ho : ok f i) (hlt : ad f i < sz) (hS9 : S f i = .inr (ci, fs)) (hk : k < fs.length) (hdg : decode cc pc = .ok (.putfield index, 3)) (kk : zB p l e R s m args below meth c Q D ad ok A H0 nL cells slots sz (zse S f i (.inr (ci, fs.set k (iv x)))) L (pc + 3) rest) : zB p l e R s m args below meth c Q D ad ok A H0 nL cells slots sz S L pc (iv x :: .ref (ad f i) :: rest) := by
  intro H locs ls hw hS hl
  obtain ⟨⟨hx, hb, hml, hown, hts⟩, hK, hI, hA, -⟩ := hC
  obtain ⟨C, T, N, ty0, h1, h2, hin, h4, hty, hnm, hfin, hd⟩ := hf
  have hap := va_apart (own := own) hts hin ty0 hty hnm hK h1
  have hw0 := hw.2 f i ho hlt
  rw [hS9] at hw0
  obtain ⟨r, hr1, cell, q1, q2, q3, q4⟩ := hw0
  have hr : r = (C, T, N) := Option.some.inj (hr1.symm.trans h1)
  subst hr
  obtain ⟨hSl, hfc, kC, hkC, hkind⟩ := hK.1 ci _ h1
  obtain ⟨cf, kf, fi, fd, hi, hsl⟩ := hSl k h2
  have hlay := hts _ (hin _ (u_in_lay h2))
  unfold u_lay at hlay
  rw [if_neg (by rw [hfin]; decide)] at hlay
  have hst := (u_facts hfc hkC (u_lays hts hin h2) hi).1
  have h6 := u_store (v := iv x) hfc hkC hkind hlay hi hd rfl rfl
  refine W.putK hx hb (f := fd) ⟨hown, hts _ h4, ⟨_, _, _, hi⟩, hst⟩ (by rw [q2]; exact h6) q1 q3 (by rw [hsl]; exact k2_hasslot (q4 k h2)) rfl rfl hdg fun H' e1 e2 e3 => ?_
  rw [hsl] at e1 ⊢
  refine kk H' _ ls (hw.put hI ho e2 ?_ e3) (hS.put e2 e3 (hA f i ho)) hl
  exact ⟨_, h1, t_OB.to (V := updV (vp_V fs) k (iv x)) ⟨_, e1, q2, q3, t_set q4 hap h2 (iv x)⟩ (fun j _ => vp_updV_set hk (iv x) j)⟩
theorem zb_new (hC : zC p s m args c D tys ad ok A H0 cc nL own) {index ci : Nat} {C : String} {T : u_T} {N : Nat} (hc : vwCl[ci]? = some (C, T, N)) (hin : ∀ w ∈ u_ws C T N, w ∈ zbig) (ty : Nat → FieldType) (hty : ∀ k, k < N → parseFieldDescriptor (T k).2.2.1 = some (ty k)) (hcl : Cond.classLink own index C ∈ zbig) (hinst : Cond.instantiable C N ∈ zbig) (hini : Cond.initialized C ∈ zbig) (f i : Nat) (ho : ok f i) (hs : ad f i = sz) {fs : List Value} (hfs : ∀ j, j < N → defaultValue (ty j) = vp_V fs j) (hf : cells + 1 ≤ R.cells ∧ slots + N ≤ R.slots) (hdg : decode cc pc = .ok (.new index, 3)) (kk : zB p l e R s m args below meth c Q D ad ok A H0 nL (cells + 1) (slots + N) (sz + 1) (zse S f i (.inr (ci, fs))) L (pc + 3) (.ref (ad f i) :: rest)) : zB p l e R s m args below meth c Q D ad ok A H0 nL cells slots sz S L pc rest := by
  intro H locs ls hw hS hl
  subst hs
  obtain ⟨⟨hx, hb, hml, hown, hts⟩, hK, hI, hA, -⟩ := hC
  have hKn := hK.1 ci _ hc
  refine W.newcK hx hb hown (hts _ hcl) (hts _ hinst) (hts _ hini) rfl hdg hf.1 hf.2 hKn.2.1 (h := ad f i) hw.1 fun H1 kC hkC e1 z1 o1 => ?_
  refine kk H1 locs ls (hw.new hI ho rfl z1 ⟨_, hc, (u_born ty hts hin hKn hkC e1 hty).to hfs⟩ o1) ⟨?_, fun x h1 h2 => ?_, hS.2.2⟩ hl
  · have := hS.1; rw [hw.1] at this; omega
  · have h3 := hS.1; rw [hw.1] at h3
    exact (o1 x (Nat.lt_of_lt_of_le h1 h3)).trans (hS.2.1 x h1 h2)
theorem zb_newarr (hC : zC p s m args c D tys ad ok A H0 cc nL own) (n : Nat) (hn : n < 1000) {tA : ClassId} (t0 : Nat) (htys : tys[t0]? = some (tA, .int)) (f i : Nat) (ho : ok f i) (hs : ad f i = sz) (hf : cells + 1 ≤ R.cells ∧ slots + n ≤ R.slots) (hdg : decode cc pc = .ok (.newarray .int, 2)) (kk : zB p l e R s m args below meth c Q D ad ok A H0 nL (cells + 1) (slots + n) (sz + 1) (zse S f i (.inl (tA, n, .inl (fun _ => 0)))) L (pc + 2) (.ref (ad f i) :: rest)) : zB p l e R s m args below meth c Q D ad ok A H0 nL cells slots sz S L pc (iv (n : Int) :: rest) := by
  intro H locs ls hw hS hl
  subst hs
  have hnn : ¬ Int32.ofInt (n : Int) < 0 := by rw [zi_0, zi_lt ⟨by omega, by omega⟩ zi_r0]; omega
  have hN9 : (Int32.ofInt (n : Int)).toNatClampNeg = n := by rw [zi_nat ⟨by omega, by omega⟩]; omega
  refine va_newaK (atype := .int) hC.1.1 hC.1.2.1 (hC.1.2.2.2.2 _ zwint) rfl hdg rfl hnn hN9 (show n * 4 ≤ 536870912 by omega) hf.1 hf.2 (h := ad f i) hw.1 fun H1 cA e1 z1 o1 hAr hNm => ?_
  have hcA : cA = tA := Option.some.inj (hNm.symm.trans (hC.2.1.2 t0 _ htys).2)
  subst hcA
  refine kk H1 locs ls (hw.new hC.2.2.1 ho rfl z1 ?_ o1) ⟨?_, fun x h1 h2 => ?_, hS.2.2⟩ hl
  · show H1[ad f i]? = some (vp_cell _ _)
    rw [e1, vp_cell_i]
    rfl
  · have := hS.1; rw [hw.1] at this; omega
  · have h3 := hS.1; rw [hw.1] at h3
    exact (o1 x (Nat.lt_of_lt_of_le h1 h3)).trans (hS.2.1 x h1 h2)
theorem zb_anew (hC : zC p s m args c D tys ad ok A H0 cc nL own) (n : Nat) (hn : n < 1000) {index : Nat} {C : String} {tA : ClassId} (t0 : Nat) (htys : tys[t0]? = some (tA, .object C)) (hcl : Cond.classLink own index C ∈ zbig) (hao : va_AO C s) (f i : Nat) (ho : ok f i) (hs : ad f i = sz) (hf : cells + 1 ≤ R.cells ∧ slots + n ≤ R.slots) (hdg : decode cc pc = .ok (.anewarray index, 3)) (kk : zB p l e R s m args below meth c Q D ad ok A H0 nL (cells + 1) (slots + n) (sz + 1) (zse S f i (.inl (tA, n, .inr (.inr (.inr (.inr (fun _ => none))))))) L (pc + 3) (.ref (ad f i) :: rest)) : zB p l e R s m args below meth c Q D ad ok A H0 nL cells slots sz S L pc (iv (n : Int) :: rest) := by
  intro H locs ls hw hS hl
  subst hs
  have hnn : ¬ Int32.ofInt (n : Int) < 0 := by rw [zi_0, zi_lt ⟨by omega, by omega⟩ zi_r0]; omega
  have hN9 : (Int32.ofInt (n : Int)).toNatClampNeg = n := by rw [zi_nat ⟨by omega, by omega⟩]; omega
  refine W.anew hC.1.1 hC.1.2.1 hC.1.2.2.2.1 (hC.1.2.2.2.2 _ hcl) (va_AO.use hao) rfl hdg rfl hnn (by rw [hN9]; omega) hf.1 (by rw [hN9]; exact hf.2) fun cA kA comp f1 f2 f3 f4 => ?_
  obtain ⟨kA', comp', g1, g2, g3, g4⟩ := (hC.2.1.2 t0 _ htys).2
  have hcA : cA = tA := Option.some.inj (f1.symm.trans g4)
  subst hcA
  have z1 : (H.push ({ cls := cA, slots := Array.replicate (Int32.ofInt (n : Int)).toNatClampNeg .null, vm := .none } : Cell)).size = ad f i + 1 := by rw [Array.size_push, hw.1]
  have e1 : (H.push ({ cls := cA, slots := Array.replicate (Int32.ofInt (n : Int)).toNatClampNeg .null, vm := .none } : Cell))[ad f i]? = some (arrV cA n (fun _ => .null)) := by rw [← hw.1, Array.getElem?_push_size, ← arrV_new, hN9]
  have o1 : ∀ q : Nat, q < ad f i → (H.push ({ cls := cA, slots := Array.replicate (Int32.ofInt (n : Int)).toNatClampNeg .null, vm := .none } : Cell))[q]? = H[q]? := fun q hq => by rw [Array.getElem?_push, hw.1, if_neg (Nat.ne_of_lt hq)]
  generalize H.push ({ cls := cA, slots := Array.replicate (Int32.ofInt (n : Int)).toNatClampNeg .null, vm := .none } : Cell) = H1 at z1 e1 o1 ⊢
  rw [hN9, hw.1]
  refine kk H1 locs ls (hw.new hC.2.2.1 ho rfl z1 ?_ o1) ⟨?_, fun x h1 h2 => ?_, hS.2.2⟩ hl
  · show H1[ad f i]? = some (vp_cell _ _)
    rw [vp_cell_q]
    exact e1
  · have := hS.1; rw [hw.1] at this; omega
  · have h3 := hS.1; rw [hw.1] at h3
    exact (o1 x (Nat.lt_of_lt_of_le h1 h3)).trans (hS.2.1 x h1 h2)
theorem zb_aast (hC : zC p s m args c D tys ad ok A H0 cc nL own) {n k : Nat} {tA : ClassId} {r : vw_C} {ci : Nat} (t0 : Nat) (htys : tys[t0]? = some (tA, .object r.1)) (hc : vwCl[ci]? = some r) {f i f2 i2 : Nat} {g : Nat → Option Nat} {vs : List Value} (hn : n < 1000) (hk : k < n) (ho : ok f i) (hlt : ad f i < sz) (hS1 : S f i = .inl (tA, n, .inr (.inr (.inr (.inr g))))) (ho2 : ok f2 i2) (hlt2 : ad f2 i2 < sz) (hS2 : S f2 i2 = .inr (ci, vs)) (hdg : decode cc pc = .ok (.aastore, 1)) (kk : zB p l e R s m args below meth c Q D ad ok A H0 nL cells slots sz (zse S f i (.inl (tA, n, .inr (.inr (.inr (.inr (va_up g k (some (ad f2 i2))))))))) L (pc + 1) rest) : zB p l e R s m args below meth c Q D ad ok A H0 nL cells slots sz S L pc (.ref (ad f2 i2) :: iv (k : Int) :: .ref (ad f i) :: rest) := by
  intro H locs ls hw hS hl
  obtain ⟨⟨hx, hb, hml, hown, hts⟩, hK, hI, hA, -⟩ := hC
  have hin := zi_in (a := (k : Int)) (n := n) (by omega) (by omega)
  have hkN : (Int32.ofInt (k : Int)).toNatClampNeg = k := by rw [zi_nat (by omega)]; omega
  have h0 : ¬ Int32.ofInt (k : Int) < 0 := fun q => hin (Or.inl q)
  have hw1 := hw.2 f i ho hlt
  rw [hS1] at hw1
  have hw2 := hw.2 f2 i2 ho2 hlt2
  rw [hS2] at hw2
  obtain ⟨r', hr', cellV, g1, g2, g3, -⟩ := hw2
  have hcls := (hK.1 ci r hc).2
  obtain ⟨kA, comp, k1, k2, k3, -⟩ := (hK.2 t0 _ htys).2
  have hcomp : comp = D.1 ci := Option.some.inj (k3.symm.trans hcls.1)
  subst hcomp
  obtain ⟨kC, hkC, -⟩ := hcls.2
  refine W.aast hx hb hw1 (fun q h => by cases h) (fun h => by cases h) k1 k2 rfl hkC ⟨h0, by show _ < (arrV _ _ _).slots.size; rw [arrV_size, hkN]; exact hk⟩ g1 (fun q h => by rw [g3] at h; cases h) (by rw [g2]; exact hkC) (by rw [g2]; exact va_assign hcls) rfl rfl hdg fun H1 e z oq => ?_
  refine kk H1 _ ls (hw.put hI ho z ?_ oq) (hS.put z oq (hA f i ho)) hl
  show H1[ad f i]? = some (vp_cell _ _)
  rw [e]
  rw [vp_cell_q, vp_cell_q, arrV_store, hkN]
  congr 2
  funext q
  by_cases hq : q = k
  · subst hq
    simp [updV, va_up, va_rf]
  · simp [updV, va_up, hq]
end ZBR
/-- a constructor: from the cells S below sz to the cells S' below sz' -/
def zMk (l : Launch) (y : MethodName) (bytes : ByteArray) (maxL : Nat) (d : Nat) (D : va_G) (tys : List (ClassId × FieldType)) (ad : Nat → Nat → Nat) (ok : Nat → Nat → Prop) (b : Nat) (av : List Value) (sz : Nat) (S : Nat → Nat → va_E) (sz' : Nat) (S' : Nat → Nat → va_E) (mc ms : Nat) : Prop :=
  Met l y (zws y bytes maxL none) (zrm d mc ms) (va_Pc av (fun U => zHB D ad ok sz S U.heap ∧ va_K D vwCl tys U ∧ (∀ w ∈ znl, va_Nw w U) ∧ zAO U)) (va_Qv (fun (_ : Unit) => True) (fun _ t => zHB D ad ok sz' S' t.heap) (fun q => b ≤ q)) mc ms (fun q => b ≤ q)
theorem zPreB_blind {D : va_G} {tys : List (ClassId × FieldType)} {ad : Nat → Nat → Nat} {ok : Nat → Nat → Prop} {av : List Value} {S : Nat → Nat → va_E} {sz : Nat} : FrameBlind (va_Pc av (fun U => zHB D ad ok sz S U.heap ∧ va_K D vwCl tys U ∧ (∀ w ∈ znl, va_Nw w U) ∧ zAO U)) := fun a U g mk q => by
  obtain ⟨q0, qP, qK, qN, qA⟩ := q
  exact ⟨q0, qP, va_K.moved (u := U) (U := U.calling g mk a) (Vm.Alike.refl U.vm) qK, znl_same (u := U) (U := U.calling g mk a) rfl qN, zAO.moved (u := U) (U := U.calling g mk a) (Vm.Alike.refl U.vm) qA⟩
theorem zb_met {l : Launch} {y : MethodName} {bytes : ByteArray} {maxL : Nat} {d : Nat} {D : va_G} {tys : List (ClassId × FieldType)} {ad : Nat → Nat → Nat} {ok : Nat → Nat → Prop} {b : Nat} {av : List Value} {sz : Nat} {S : Nat → Nat → va_E} {sz' : Nat} {S' : Nat → Nat → va_E} {mc ms : Nat} (hI : zI ad ok) (hb : ∀ f i, ok f i → b ≤ ad f i) (hbs : b ≤ sz) (hy : plainFor y = true) (hav : (lg_sl av).length ≤ maxL)
    (body : ∀ (p : Program) (e : Env) (s : State) (m : MethodId) (args : Array Value) (below : List Frame) (meth : Method) (c : Code), zC p s m args c D tys ad ok (fun q => b ≤ q) s.heap bytes maxL y.cls → meth.sig.returnType = none → meth.locks = false → meth.name = y.name → zAO s →
      zB p l e (zrm d mc ms) s m args below meth c (MQ below (va_Qv (fun (_ : Unit) => True) (fun _ t => zHB D ad ok sz' S' t.heap) (fun q => b ≤ q)) args s mc ms (fun q => b ≤ q)) D ad ok (fun q => b ≤ q) s.heap maxL 0 0 sz S (lv_args 0 av) 0 []) : zMk l y bytes maxL d D tys ad ok b av sz S sz' S' mc ms := by
  refine z_ofW (cc := bytes) (maxL := maxL) (ret := none) hy rfl ?_
  intro p e s m args below meth c s₁ B hml hv
  obtain ⟨rfl, hP, hK, hN, hA⟩ := hv
  have hts := atoms_spec (ws := zws y bytes maxL none) B.pre
  have hown : s.vm.findClass y.cls = some m.cls := findClass_of_methodNamed B.named
  have hmn : meth.name = y.name := (name_of_methodNamed B.named B.method).1
  rw [lg_entry_eq]
  exact body p e s m av.toArray below meth c ⟨⟨B.exec, B.bytes, hml, hown, fun x h => hts x (List.mem_cons_of_mem _ h)⟩, hK, hI, hb, fun q h => by have := hP.1; show b ≤ q; omega, hN⟩ B.returns B.notSynchronized hmn hA s.heap [] _ hP va_S.rf (lv_entry av hav)
section ZBC
variable {p : Program} {l : Launch} {e : Env} {R : Room} {s : State} {m : MethodId} {args : Array Value} {below : List Frame} {meth : Method} {c : Code} {Q : State → Prop} {D : va_G} {tys : List (ClassId × FieldType)} {ad : Nat → Nat → Nat} {ok : Nat → Nat → Prop} {A : Nat → Prop} {H0 : Heap} {nL : Nat} {cells slots : Nat} {sz : Nat} {S : Nat → Nat → va_E} {L : List (Nat × Value)} {pc : Nat} {St rest : List Value} {cc : ByteArray} {own : String}
variable {y : MethodName} {bytes : ByteArray} {maxL index n d mc ms b sz' : Nat} {S' : Nat → Nat → va_E} {As : List Value}
theorem zb_call (hC : zC p s m args c D tys ad ok (fun q => b ≤ q) H0 cc nL own) (hA : zAO s) (hL : zLI own index y bytes maxL n) {a : Nat} (hM : zMk l y bytes maxL d D tys ad ok b (.ref a :: As) sz S sz' S' mc ms) (hst : St = As.reverse ++ .ref a :: rest) (hn : As.length = n) (hW : (rest.map fun v => v.category).sum ≤ 8) (hR : d + 1 ≤ R.frames ∧ 8 + (maxL + 11) + 40 * d ≤ R.locals) (hf : cells + mc ≤ R.cells ∧ slots + ms ≤ R.slots) (hbs : b ≤ sz) (hdg : decode cc pc = .ok (.invokespecial index, 3)) (kk : zB p l e R s m args below meth c Q D ad ok (fun q => b ≤ q) H0 nL (cells + mc) (slots + ms) sz' S' L (pc + 3) rest) : zB p l e R s m args below meth c Q D ad ok (fun q => b ≤ q) H0 nL cells slots sz S L pc St := by
  intro H locs ls hw hS hl
  subst hst
  have hts := hC.1.2.2.2.2
  have cw : CallB R s args own index y bytes maxL none (zws y bytes maxL none) (zrm d mc ms) mc ms n ∧ y.name = "<init>" ∧ (Cond.instanceMethod y).before args s = true := ⟨z_callB hC (fun w h => hL.1 w (by simp only [List.mem_cons, List.not_mem_nil, or_false] at h ⊢; rcases h with h | h | h <;> simp [h])) hL.2.2 hR, hL.2.1, hts _ (hL.1 _ (by simp))⟩
  refine va_callv (va_runI (As := As) (rest := rest) hC.1 hM cw ⟨zPreB_blind, fun U hU hW2 => ⟨rfl, by rw [hU]; exact hw, va_K.moved hW2.alike hC.2.1, znl_moved hW2 hC.2.2.2.2.2, zAO.moved hW2.alike hA⟩⟩ rfl hn hl.1 rfl (lv_room hW) hdg hf) hS (fun q _ h => h) (fun q h => h) (fun u t H1 locs1 ht1 hvm hr hB hz1 hk1 hS1 => ?_)
  rw [ht1] at hB
  exact kk H1 locs1 ls hB hS1 hl
theorem zb_callN (hC : zC p s m args c D tys ad ok (fun q => b ≤ q) H0 cc nL own) (hA : zAO s) (hL : zLIN own index y bytes maxL n) {a : Nat} (hM : zMk l y bytes maxL d D tys ad ok b (.ref a :: As) sz S sz' S' mc ms) (hst : St = As.reverse ++ .ref a :: rest) (hn : As.length = n) (hW : (rest.map fun v => v.category).sum ≤ 8) (hR : d + 1 ≤ R.frames ∧ 8 + (maxL + 11) + 40 * d ≤ R.locals) (hf : cells + mc ≤ R.cells ∧ slots + ms ≤ R.slots) (hbs : b ≤ sz) (hdg : decode cc pc = .ok (.invokespecial index, 3)) (kk : zB p l e R s m args below meth c Q D ad ok (fun q => b ≤ q) H0 nL (cells + mc) (slots + ms) sz' S' L (pc + 3) rest) : zB p l e R s m args below meth c Q D ad ok (fun q => b ≤ q) H0 nL cells slots sz S L pc St := by
  intro H locs ls hw hS hl
  subst hst
  have hts := hC.1.2.2.2.2
  have cw : va_CN R s args own index y hL.1.choose bytes maxL none (zws y bytes maxL none) (zrm d mc ms) mc ms n ∧ y.name = "<init>" ∧ (Cond.instanceMethod y).before args s = true := ⟨va_cnB n hts (z_gw (hL.2.1 _ (by simp))) rfl rfl rfl (hC.2.2.2.2.2 _ hL.1.choose_spec) (hts _ (hL.2.1 _ (by simp))) hL.2.2.2 hR, hL.2.2.1, hts _ (hL.2.1 _ (by simp))⟩
  refine va_callv (va_runIN (As := As) (rest := rest) hC.1 hM cw ⟨zPreB_blind, fun U hU hW2 => ⟨rfl, by rw [hU]; exact hw, va_K.moved hW2.alike hC.2.1, znl_moved hW2 hC.2.2.2.2.2, zAO.moved hW2.alike hA⟩⟩ rfl hn hl.1 rfl (lv_room hW) hdg hf) hS (fun q _ h => h) (fun q h => h) (fun u t H1 locs1 ht1 hvm hr hB hz1 hk1 hS1 => ?_)
  rw [ht1] at hB
  exact kk H1 locs1 ls hB hS1 hl
theorem zb_ret (hC : zC p s m args c D tys ad ok (fun q => b ≤ q) s.heap cc nL own) (hr : meth.sig.returnType = none) (hlocks : meth.locks = false) (hc : cells ≤ mc ∧ slots ≤ ms) (hz : sz = sz') (hSS : ∀ f i, ok f i → ad f i < sz → S f i = S' f i) (hdg : decode cc pc = .ok (.return_, 1)) : zB p l e R s m args below meth c (MQ below (va_Qv (fun (_ : Unit) => True) (fun _ t => zHB D ad ok sz' S' t.heap) (fun q => b ≤ q)) args s mc ms (fun q => b ≤ q)) D ad ok (fun q => b ≤ q) s.heap nL cells slots sz S L pc [] := by
  intro H locs ls hw hS hl
  subst hz
  refine W.widen hc.1 hc.2 ?_
  exact W.vret hC.1.1 hC.1.2.1 hr (fun t ht hW => ⟨⟨(), rfl, trivial, by show zHB D ad ok sz S' t.heap; rw [ht]; exact hw.cong hSS⟩, hS.F ht⟩) hS.2.2 hdg hlocks
end ZBC
