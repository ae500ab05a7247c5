/-! THE LAYER: one world of cells at addresses 'ad f i' (family f, index i), whose int contents are a memory M : family, index, slot to Int. -/
abbrev zM : Type := Nat → Nat → Nat → Int
abbrev iv (a : Int) : Value := .int (Int32.ofInt a)
def zup (M : zM) (f i k : Nat) (v : Int) : zM := fun f' i' k' => if f' = f ∧ i' = i ∧ k' = k then v else M f' i' k'
/-- a cell's shape: an object (class, fields: none an int of the memory, some v a constant), an int array, an array of references -/
abbrev zT : Type := (Nat × List (Option Value)) ⊕ ((ClassId × Nat) ⊕ (ClassId × Nat × (Nat → Nat)))
def zfl (g : Nat → Int) : Nat → List (Option Value) → List Value
  | _, [] => []
  | j, q :: t => q.getD (iv (g j)) :: zfl g (j + 1) t
def zcel (t : zT) (g : Nat → Int) : va_E := match t with
  | .inl (ci, l) => .inr (ci, zfl g 0 l)
  | .inr (.inl (cA, n)) => .inl (cA, n, .inl (fun k => Int32.ofInt (g k)))
  | .inr (.inr (cA, n, r)) => .inl (cA, n, .inr (.inr (.inr (.inr (fun k => some (r k))))))
def zH (D : va_G) (ad : Nat → Nat → Nat) (ok : Nat → Nat → Prop) (tm : Nat → Nat → zT) (M : zM) (H : Heap) : Prop := ∀ f i, ok f i → va_at D vwCl (ad f i, zcel (tm f i) (M f i)) H
def zI (ad : Nat → Nat → Nat) (ok : Nat → Nat → Prop) : Prop := ∀ f i f' i', ok f i → ok f' i' → ad f i = ad f' i' → f = f' ∧ i = i'
def zA (ad : Nat → Nat → Nat) (ok : Nat → Nat → Prop) (sz : Nat) : Nat → Prop := fun q => (∃ f i, ok f i ∧ q = ad f i) ∨ sz ≤ q
/-- what stands beside a frame -/
def zC (p : Program) (s : State) (m : MethodId) (args : Array Value) (c : Code) (D : va_G) (tys : List (ClassId × FieldType)) (ad : Nat → Nat → Nat) (ok : Nat → Nat → Prop) (A : Nat → Prop) (H0 : Heap) (cc : ByteArray) (nL : Nat) (own : String) : Prop :=
  (p.tables.exec = Jvm.exec ∧ c.code = cc ∧ c.maxLocals = nL ∧ s.vm.findClass own = some m.cls ∧ ∀ x ∈ zbig, x.before args s = true) ∧ va_K D vwCl tys s ∧ zI ad ok ∧ (∀ f i, ok f i → A (ad f i)) ∧ (∀ q, H0.size ≤ q → A q) ∧ ∀ w ∈ znl, va_Nw w s
def zV (p : Program) (l : Launch) (e : Env) (R : Room) (s : State) (m : MethodId) (args : Array Value) (below : List Frame) (meth : Method) (c : Code) (Q : State → Prop) (D : va_G) (ad : Nat → Nat → Nat) (ok : Nat → Nat → Prop) (tm : Nat → Nat → zT) (A : Nat → Prop) (H0 : Heap) (nL : Nat) (cells slots : Nat) (M : zM) (L : List (Nat × Value)) (pc : Nat) (St : List Value) : Prop :=
  ∀ (H : Heap) (locs : List Loc) (ls : Array Slot), zH D ad ok tm M H → va_S A H0 H locs → lv_has ls nL L → W p l e R s m args below meth c H locs cells slots Q (F0 m pc ls St)
theorem zfl_get {g : Nat → Int} {l : List (Option Value)} {k : Nat} {q : Option Value} (h : l[k]? = some q) (j : Nat) : (zfl g j l)[k]? = some (q.getD (iv (g (j + k)))) := by
  induction l generalizing j k with
  | nil => simp at h
  | cons a t ih =>
    cases k with
    | zero => simp at h; subst h; simp [zfl]
    | succ k =>
      simp only [List.getElem?_cons_succ] at h
      have := ih h (j + 1)
      simp only [zfl, List.getElem?_cons_succ]
      rw [this, show j + 1 + k = j + (k + 1) by omega]
theorem zfl_length (g : Nat → Int) (l : List (Option Value)) (j : Nat) : (zfl g j l).length = l.length := by
  induction l generalizing j with
  | nil => rfl
  | cons a t ih => simp [zfl, ih]
theorem zfl_set {g g' : Nat → Int} {l : List (Option Value)} {k : Nat} {v : Int} (h : l[k]? = some none) (j : Nat) (h1 : g' (j + k) = v) (h2 : ∀ i, i ≠ j + k → g' i = g i) : zfl g' j l = (zfl g j l).set k (iv v) := by
  induction l generalizing j k with
  | nil => simp at h
  | cons a t ih =>
    cases k with
    | zero =>
      simp at h; subst h
      simp only [zfl, List.set_cons_zero, Option.getD_none]
      rw [← h1]
      congr 1
      clear ih
      have : ∀ (t : List (Option Value)) (i : Nat), j < i → zfl g' i t = zfl g i t := by
        intro t
        induction t with
        | nil => intro i _; rfl
        | cons a t ih => intro i hi; simp only [zfl]; rw [ih (i + 1) (by omega), h2 i (by omega)]
      exact this t (j + 1) (by omega)
    | succ k =>
      simp only [List.getElem?_cons_succ] at h
      simp only [zfl, List.set_cons_succ]
      rw [ih h (j + 1) (by rw [← h1]; congr 1; omega) (fun i hi => h2 i (by omega)), h2 j (by omega)]
theorem zup_at (M : zM) (f i k : Nat) (v : Int) : zup M f i k v f i k = v := by simp [zup]
theorem zup_off {M : zM} {f i k : Nat} {v : Int} {f' i' : Nat} (h : ¬ (f' = f ∧ i' = i)) : zup M f i k v f' i' = M f' i' := by
  funext k'; simp only [zup]; rw [if_neg (fun q => h ⟨q.1, q.2.1⟩)]
/-- a cell of the world has changed, the others not -/
theorem zH.put {D : va_G} {ad : Nat → Nat → Nat} {ok : Nat → Nat → Prop} {tm : Nat → Nat → zT} {M M' : zM} {H H1 : Heap} (h : zH D ad ok tm M H) (hi : zI ad ok) {f i : Nat} (ho : ok f i) (hn : va_at D vwCl (ad f i, zcel (tm f i) (M' f i)) H1) (oq : ∀ q : Nat, q ≠ ad f i → H1[q]? = H[q]?) (hM : ∀ f' i', ¬ (f' = f ∧ i' = i) → M' f' i' = M f' i') : zH D ad ok tm M' H1 := by
  intro f' i' ho'
  by_cases hq : f' = f ∧ i' = i
  · obtain ⟨rfl, rfl⟩ := hq
    exact hn
  · rw [hM f' i' hq]
    exact (h f' i' ho').kept (oq _ (fun z => hq (hi f' i' f i ho' ho z)))
theorem zH.kept {D : va_G} {ad : Nat → Nat → Nat} {ok : Nat → Nat → Prop} {tm : Nat → Nat → zT} {M : zM} {H H1 : Heap} (h : zH D ad ok tm M H) (oq : ∀ f i, ok f i → H1[ad f i]? = H[ad f i]?) : zH D ad ok tm M H1 := fun f i ho => (h f i ho).kept (oq f i ho)
theorem zH.one {D : va_G} {ad : Nat → Nat → Nat} {ok : Nat → Nat → Prop} {tm : Nat → Nat → zT} {M : zM} {H : Heap} (h : zH D ad ok tm M H) {f i : Nat} (ho : ok f i) : va_P D vwCl [(ad f i, zcel (tm f i) (M f i))] H := by
  intro k q hk
  match k, hk with
  | 0, hk => cases hk; exact h f i ho
  | k + 1, hk => simp at hk
section ZV
variable {p : Program} {l : Launch} {e : Env} {R : Room} {s : State} {m : MethodId} {args : Array Value} {below : List Frame} {meth : Method} {c : Code} {Q : State → Prop} {D : va_G} {tys : List (ClassId × FieldType)} {ad : Nat → Nat → Nat} {ok : Nat → Nat → Prop} {tm : Nat → Nat → zT} {A : Nat → Prop} {H0 : Heap} {nL : Nat} {cells slots : Nat} {M : zM} {L : List (Nat × Value)} {pc : Nat} {St rest : List Value} {cc : ByteArray} {own : String}
theorem z_getI (hC : zC p s m args c D tys ad ok A H0 cc nL own) {index ci k : Nat} (hf : zF own index ci k) {f i : Nat} {lt : List (Option Value)} (ht : tm f i = .inl (ci, lt)) (ho : ok f i) (hq : lt[k]? = some none) {x : Int} (hxx : M f i k = x) (hdg : decode cc pc = .ok (.getfield index, 3))
    (kk : zV p l e R s m args below meth c Q D ad ok tm A H0 nL cells slots M L (pc + 3) (iv x :: rest)) : zV p l e R s m args below meth c Q D ad ok tm A H0 nL cells slots M L pc (.ref (ad f i) :: rest) := by
  intro H locs ls hw hS hl
  obtain ⟨⟨hx, hb, hml, hown, hts⟩, hK, -⟩ := hC
  obtain ⟨C, T, N, h1, h2, h3, h4⟩ := hf
  have hP := hw.one ho
  rw [ht] at hP
  subst hxx
  refine va_get hx hb hts h3 hown hK hP 0 rfl h1 k h2 (hts _ h4) (fun _ h => h) (v := iv (M f i k)) ?_ hdg (kk H locs ls hw hS hl)
  have := zfl_get (g := M f i) hq 0
  rw [this, Nat.zero_add]
  rfl
theorem z_getR (hC : zC p s m args c D tys ad ok A H0 cc nL own) {index ci k : Nat} (hf : zF own index ci k) {f i : Nat} {lt : List (Option Value)} (ht : tm f i = .inl (ci, lt)) (ho : ok f i) {v : Value} (hq : lt[k]? = some (some v)) (hdg : decode cc pc = .ok (.getfield index, 3))
    (kk : zV p l e R s m args below meth c Q D ad ok tm A H0 nL cells slots M L (pc + 3) (v :: rest)) : zV p l e R s m args below meth c Q D ad ok tm A H0 nL cells slots M L pc (.ref (ad f i) :: rest) := by
  intro H locs ls hw hS hl
  obtain ⟨⟨hx, hb, hml, hown, hts⟩, hK, -⟩ := hC
  obtain ⟨C, T, N, h1, h2, h3, h4⟩ := hf
  have hP := hw.one ho
  rw [ht] at hP
  refine va_get hx hb hts h3 hown hK hP 0 rfl h1 k h2 (hts _ h4) (fun _ h => h) (v := v) ?_ hdg (kk H locs ls hw hS hl)
  have := zfl_get (g := M f i) hq 0
  rw [this]
  rfl
theorem z_put (hC : zC p s m args c D tys ad ok A H0 cc nL own) {index ci k : Nat} (hf : zFw own index ci k) {f i : Nat} {lt : List (Option Value)} (ht : tm f i = .inl (ci, lt)) (ho : ok f i) (hq : lt[k]? = some none) {x : Int} (hdg : decode cc pc = .ok (.putfield index, 3))
    (kk : zV p l e R s m args below meth c Q D ad ok tm A H0 nL cells slots (zup M f i k x) L (pc + 3) rest) : zV p l e R s m args below meth c Q D ad ok tm A H0 nL cells slots M L pc (iv x :: .ref (ad f i) :: rest) := by
  intro H locs ls hw hS hl
  obtain ⟨⟨hx, hb, hml, hown, hts⟩, hK, hI, hA, -⟩ := hC
  obtain ⟨C, T, N, ty0, h1, h2, hin, h4, hty, hnm, hfin, hd⟩ := hf
  have hap := va_apart (own := own) hts hin ty0 hty hnm hK h1
  have hw0 := hw f i ho
  rw [ht] at hw0
  obtain ⟨r, hr1, cell, q1, q2, q3, q4⟩ := hw0
  have hr : r = (C, T, N) := Option.some.inj (hr1.symm.trans h1)
  subst hr
  obtain ⟨hSl, hfc, kC, hkC, hkind⟩ := hK.1 ci _ h1
  obtain ⟨cf, kf, fi, fd, hi, hsl⟩ := hSl k h2
  have hlay := hts _ (hin _ (u_in_lay h2))
  unfold u_lay at hlay
  rw [if_neg (by rw [hfin]; decide)] at hlay
  have hst := (u_facts hfc hkC (u_lays hts hin h2) hi).1
  have h6 := u_store (v := iv x) hfc hkC hkind hlay hi hd rfl rfl
  refine W.putK hx hb (f := fd) ⟨hown, hts _ h4, ⟨_, _, _, hi⟩, hst⟩ (by rw [q2]; exact h6) q1 q3 (by rw [hsl]; exact k2_hasslot (q4 k h2)) rfl rfl hdg fun H' e1 e2 e3 => ?_
  rw [hsl] at e1 ⊢
  have hkl : k < (zfl (M f i) 0 lt).length := by rw [zfl_length]; exact (List.getElem?_eq_some_iff.mp hq).1
  refine kk H' _ ls (hw.put hI ho ?_ e3 (fun f' i' h => zup_off h)) (hS.put e2 e3 (hA f i ho)) hl
  rw [ht]
  refine ⟨_, h1, t_OB.to (V := updV (vp_V (zfl (M f i) 0 lt)) k (iv x)) ⟨_, e1, q2, q3, t_set q4 hap h2 (iv x)⟩ (fun j _ => ?_)⟩
  show updV (vp_V (zfl (M f i) 0 lt)) k (iv x) j = vp_V (zfl (zup M f i k x f i) 0 lt) j
  rw [vp_updV_set hkl (iv x) j, zfl_set (g := M f i) (g' := zup M f i k x f i) (v := x) hq 0 (by rw [Nat.zero_add]; exact zup_at M f i k x) (fun i' h => by
    simp only [zup]
    rw [if_neg (fun q => h (by rw [Nat.zero_add]; exact q.2.2))])]
theorem z_getIN (hC : zC p s m args c D tys ad ok A H0 cc nL own) {index ci k : Nat} (hf : zFN own index ci k) {f i : Nat} {lt : List (Option Value)} (ht : tm f i = .inl (ci, lt)) (ho : ok f i) (hq : lt[k]? = some none) {x : Int} (hxx : M f i k = x) (hdg : decode cc pc = .ok (.getfield index, 3))
    (kk : zV p l e R s m args below meth c Q D ad ok tm A H0 nL cells slots M L (pc + 3) (iv x :: rest)) : zV p l e R s m args below meth c Q D ad ok tm A H0 nL cells slots M L pc (.ref (ad f i) :: rest) := by
  intro H locs ls hw hS hl
  obtain ⟨⟨hx, hb, hml, hown, hts⟩, hK, -, -, -, hN⟩ := hC
  obtain ⟨C, T, N, host, h1, h2, h3, h4⟩ := hf
  have hP := hw.one ho
  rw [ht] at hP
  subst hxx
  refine va_getN hx hb hts h3 hown hK hP 0 rfl h1 k h2 ((hN _ h4).use rfl) (fun _ h => h) (v := iv (M f i k)) ?_ hdg (kk H locs ls hw hS hl)
  have := zfl_get (g := M f i) hq 0
  rw [this, Nat.zero_add]
  rfl
theorem z_getRN (hC : zC p s m args c D tys ad ok A H0 cc nL own) {index ci k : Nat} (hf : zFN own index ci k) {f i : Nat} {lt : List (Option Value)} (ht : tm f i = .inl (ci, lt)) (ho : ok f i) {v : Value} (hq : lt[k]? = some (some v)) (hdg : decode cc pc = .ok (.getfield index, 3))
    (kk : zV p l e R s m args below meth c Q D ad ok tm A H0 nL cells slots M L (pc + 3) (v :: rest)) : zV p l e R s m args below meth c Q D ad ok tm A H0 nL cells slots M L pc (.ref (ad f i) :: rest) := by
  intro H locs ls hw hS hl
  obtain ⟨⟨hx, hb, hml, hown, hts⟩, hK, -, -, -, hN⟩ := hC
  obtain ⟨C, T, N, host, h1, h2, h3, h4⟩ := hf
  have hP := hw.one ho
  rw [ht] at hP
  refine va_getN hx hb hts h3 hown hK hP 0 rfl h1 k h2 ((hN _ h4).use rfl) (fun _ h => h) (v := v) ?_ hdg (kk H locs ls hw hS hl)
  have := zfl_get (g := M f i) hq 0
  rw [this]
  rfl
end ZV
