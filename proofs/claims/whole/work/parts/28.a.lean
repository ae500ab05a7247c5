/-! one world inside another: a contract over the one is one over the other -/
def zEmb (ad1 : Nat → Nat → Nat) (ok1 : Nat → Nat → Prop) (tm1 : Nat → Nat → zT) (ad2 : Nat → Nat → Nat) (ok2 : Nat → Nat → Prop) (tm2 : Nat → Nat → zT) (φ : Nat → Nat) (M1 M1' M2 M2' : zM) : Prop :=
  zI ad2 ok2 ∧ (∀ f i, ok1 f i → ok2 (φ f) i ∧ ad2 (φ f) i = ad1 f i ∧ tm2 (φ f) i = tm1 f i ∧ M2 (φ f) i = M1 f i ∧ M2' (φ f) i = M1' f i) ∧ ∀ g i, ok2 g i → (∃ f, g = φ f ∧ ok1 f i) ∨ M2' g i = M2 g i
section ZEMB
variable {D : va_G} {ad1 ad2 : Nat → Nat → Nat} {ok1 ok2 : Nat → Nat → Prop} {tm1 tm2 : Nat → Nat → zT} {φ : Nat → Nat} {M1 M1' M2 M2' : zM}
theorem zEmb.pre (h : zEmb ad1 ok1 tm1 ad2 ok2 tm2 φ M1 M1' M2 M2') {H : Heap} (hw : zH D ad2 ok2 tm2 M2 H) : zH D ad1 ok1 tm1 M1 H := fun f i ho => by
  obtain ⟨a, b, c, d, -⟩ := h.2.1 f i ho
  have := hw _ i a
  rw [b, c, d] at this
  exact this
theorem zEmb.sub (h : zEmb ad1 ok1 tm1 ad2 ok2 tm2 φ M1 M1' M2 M2') {sz q : Nat} (hq : zA ad1 ok1 sz q) : zA ad2 ok2 sz q := by
  rcases hq with ⟨f, i, ho, rfl⟩ | hq
  · exact Or.inl ⟨φ f, i, (h.2.1 f i ho).1, (h.2.1 f i ho).2.1.symm⟩
  · exact Or.inr hq
theorem zEmb.post (h : zEmb ad1 ok1 tm1 ad2 ok2 tm2 φ M1 M1' M2 M2') {s t : State} {sz : Nat} (hsz : s.heap.size = sz) (hw : zH D ad2 ok2 tm2 M2 s.heap) (hB : zH D ad1 ok1 tm1 M1' t.heap) (hF : va_F (zA ad1 ok1 sz) s t) : zH D ad2 ok2 tm2 M2' t.heap ∧ va_F (zA ad2 ok2 sz) s t := by
  refine ⟨fun g i hg => ?_, hF.1, fun q h1 h2 => hF.2 q h1 (fun z => h2 (h.sub z))⟩
  by_cases hz : ∃ f, g = φ f ∧ ok1 f i
  · obtain ⟨f, rfl, ho⟩ := hz
    obtain ⟨-, b, c, -, d⟩ := h.2.1 f i ho
    rw [b, c, d]
    exact hB f i ho
  · rcases h.2.2 g i hg with z | e
    · exact absurd z hz
    · rw [e]
      have hlt := (hw g i hg).lt
      refine (hw g i hg).kept (hF.2 _ hlt ?_)
      rintro (⟨f, i', ho, e1⟩ | e1)
      · have e2 : ad2 g i = ad2 (φ f) i' := e1.trans (h.2.1 f i' ho).2.1.symm
        obtain ⟨rfl, rfl⟩ := h.1 g i (φ f) i' hg (h.2.1 f i' ho).1 e2
        exact hz ⟨f, rfl, ho⟩
      · have h9 : sz ≤ ad2 g i := e1
        have h8 : ad2 g i < s.heap.size := hlt
        omega
variable {l : Launch} {y : MethodName} {bytes : ByteArray} {maxL : Nat} {ret : Option FieldType} {d : Nat} {tys1 tys2 : List (ClassId × FieldType)} {av : List Value} {mc ms : Nat}
theorem zEmb.toPre (h : zEmb ad1 ok1 tm1 ad2 ok2 tm2 φ M1 M1' M2 M2') (hK : ∀ U, va_K D vwCl tys2 U → va_K D vwCl tys1 U) {a : Array Value} {s : State} {sz : Nat} (hp : zPre D tys2 ad2 ok2 tm2 av M2 sz a s) : zPre D tys1 ad1 ok1 tm1 av M1 sz a s := by
  obtain ⟨p0, p1, p2, p3, p4⟩ := hp
  exact ⟨p0, p1, h.pre p2, hK _ p3, p4⟩
theorem z_embi (h : zEmb ad1 ok1 tm1 ad2 ok2 tm2 φ M1 M1' M2 M2') (hK : ∀ U, va_K D vwCl tys2 U → va_K D vwCl tys1 U) {r : Int} (hM : zMi l y bytes maxL ret d D tys1 ad1 ok1 tm1 av M1 r M1' mc ms) : zMi l y bytes maxL ret d D tys2 ad2 ok2 tm2 av M2 r M2' mc ms := by
  intro sz
  refine MetFree.mono (hM sz) (fun a s hp => h.toPre hK hp) (fun _ _ _ _ _ h => h) ?_
  rintro a s o t ⟨p0, p1, p2, p3, p4⟩ ⟨⟨⟨r', u, ho, hr, hB⟩, hF⟩, L, hL, hL2⟩
  obtain ⟨q1, q2⟩ := h.post p1 p2 hB hF
  exact ⟨⟨⟨r', u, ho, hr, q1⟩, q2⟩, L, hL, fun q hq => h.sub (hL2 q hq)⟩
theorem z_embl (h : zEmb ad1 ok1 tm1 ad2 ok2 tm2 φ M1 M1' M2 M2') (hK : ∀ U, va_K D vwCl tys2 U → va_K D vwCl tys1 U) {r : Int64} (hM : zMl l y bytes maxL ret d D tys1 ad1 ok1 tm1 av M1 r M1' mc ms) : zMl l y bytes maxL ret d D tys2 ad2 ok2 tm2 av M2 r M2' mc ms := by
  intro sz
  refine MetFree.mono (hM sz) (fun a s hp => h.toPre hK hp) (fun _ _ _ _ _ h => h) ?_
  rintro a s o t ⟨p0, p1, p2, p3, p4⟩ ⟨⟨⟨r', u, ho, hr, hB⟩, hF⟩, L, hL, hL2⟩
  obtain ⟨q1, q2⟩ := h.post p1 p2 hB hF
  exact ⟨⟨⟨r', u, ho, hr, q1⟩, q2⟩, L, hL, fun q hq => h.sub (hL2 q hq)⟩
theorem z_embd (h : zEmb ad1 ok1 tm1 ad2 ok2 tm2 φ M1 M1' M2 M2') (hK : ∀ U, va_K D vwCl tys2 U → va_K D vwCl tys1 U) {r : UInt64} (hM : zMd l y bytes maxL ret d D tys1 ad1 ok1 tm1 av M1 r M1' mc ms) : zMd l y bytes maxL ret d D tys2 ad2 ok2 tm2 av M2 r M2' mc ms := by
  intro sz
  refine MetFree.mono (hM sz) (fun a s hp => h.toPre hK hp) (fun _ _ _ _ _ h => h) ?_
  rintro a s o t ⟨p0, p1, p2, p3, p4⟩ ⟨⟨⟨r', u, ho, hr, hB⟩, hF⟩, L, hL, hL2⟩
  obtain ⟨q1, q2⟩ := h.post p1 p2 hB hF
  exact ⟨⟨⟨r', u, ho, hr, q1⟩, q2⟩, L, hL, fun q hq => h.sub (hL2 q hq)⟩
theorem z_embv (h : zEmb ad1 ok1 tm1 ad2 ok2 tm2 φ M1 M1' M2 M2') (hK : ∀ U, va_K D vwCl tys2 U → va_K D vwCl tys1 U) (hM : zMv l y bytes maxL ret d D tys1 ad1 ok1 tm1 av M1 M1' mc ms) : zMv l y bytes maxL ret d D tys2 ad2 ok2 tm2 av M2 M2' mc ms := by
  intro sz
  refine MetFree.mono (hM sz) (fun a s hp => h.toPre hK hp) (fun _ _ _ _ _ h => h) ?_
  rintro a s o t ⟨p0, p1, p2, p3, p4⟩ ⟨⟨⟨u, ho, hr, hB⟩, hF⟩, L, hL, hL2⟩
  obtain ⟨q1, q2⟩ := h.post p1 p2 hB hF
  exact ⟨⟨⟨u, ho, hr, q1⟩, q2⟩, L, hL, fun q hq => h.sub (hL2 q hq)⟩
end ZEMB
/-! the model's world with one int array more (family 25), that is made in the frame -/
def z0 (M : zM) : zM := fun f i k => if f = 25 then 0 else M f i k
theorem z0_fr {M : zM} {f : Nat} (h : f ≠ 25) : z0 M f = M f := by funext i k; simp only [z0]; rw [if_neg h]
def adN (ad : Nat → Nat → Nat) (b : Nat) : Nat → Nat → Nat := fun f i => if f = 25 then b else ad f i
def okN (f i : Nat) : Prop := okM f i ∨ (f = 25 ∧ i = 0)
def tmN (n : Nat) (ad : Nat → Nat → Nat) (tc : Nat → ClassId) : Nat → Nat → zT := fun f i => if f = 25 then .inr (.inl (tc 0, n)) else tmM ad tc f i
theorem okM_ne {f i : Nat} (h : okM f i) : f ≠ 25 := by
  rintro rfl
  exact absurd (show i < 0 from h) (Nat.not_lt_zero i)
theorem tmM_adN (ad : Nat → Nat → Nat) (b : Nat) (tc : Nat → ClassId) (f i : Nat) : tmM (adN ad b) tc f i = tmM ad tc f i := by
  unfold tmM; split <;> rfl
theorem zH_N {D : va_G} {ad : Nat → Nat → Nat} {b : Nat} {tc : Nat → ClassId} {n : Nat} {M N : zM} {H : Heap} (hMN : ∀ f i, okM f i → N f i = M f i) (hw : zH D (adN ad b) okN (tmN n (adN ad b) tc) N H) : zH D ad okM (tmM ad tc) M H := fun f i ho => by
  have h1 := hw f i (Or.inl ho)
  have hf := okM_ne ho
  have e1 : adN ad b f i = ad f i := if_neg hf
  have e2 : tmN n (adN ad b) tc f i = tmM ad tc f i := (if_neg hf).trans (tmM_adN ad b tc f i)
  rw [e1, e2, hMN f i ho] at h1
  exact h1
theorem zEmbN {ad : Nat → Nat → Nat} {tc : Nat → ClassId} {n : Nat} {M N : zM} (hI : zI ad okN) (hMN : ∀ f i, okM f i → N f i = M f i) : zEmb ad okM (tmM ad tc) ad okN (tmN n ad tc) id M M N N :=
  ⟨hI, fun f i ho => ⟨Or.inl ho, rfl, if_neg (okM_ne ho), hMN f i ho, hMN f i ho⟩, fun _ _ _ => Or.inr rfl⟩
theorem zI_N {ad : Nat → Nat → Nat} (hI : zI ad okN) : zI ad okM := fun f i f' i' h h' e => hI f i f' i' (Or.inl h) (Or.inl h') e
theorem zwint : Cond.arrayClass (newarray.typeOf .int) ∈ zbig := zin 94 (by decide +kernel) rfl
section ZNEW
variable {p : Program} {l : Launch} {e : Env} {R : Room} {s : State} {m : MethodId} {args : Array Value} {below : List Frame} {meth : Method} {c : Code} {Q : State → Prop} {D : va_G} {ad : Nat → Nat → Nat} {tc : Nat → ClassId} {A : Nat → Prop} {H0 : Heap} {nL : Nat} {cells slots : Nat} {M N : zM} {L : List (Nat × Value)} {pc : Nat} {rest : List Value} {cc : ByteArray} {own : String}
theorem z_newN (hC : zC p s m args c D (tysM tc) ad okM A H0 cc nL own) (n : Nat) (hn : n < 1000) (hR : cells + 1 ≤ R.cells ∧ slots + n ≤ R.slots) (hdg : decode cc pc = .ok (.newarray .int, 2))
    (kk : ∀ b : Nat, zI (adN ad b) okN → zC p s m args c D (tysM tc) (adN ad b) okN A H0 cc nL own → zV p l e R s m args below meth c Q D (adN ad b) okN (tmN n (adN ad b) tc) A H0 nL (cells + 1) (slots + n) (z0 M) L (pc + 2) (.ref (adN ad b 25 0) :: rest)) : zV p l e R s m args below meth c Q D ad okM (tmM ad tc) A H0 nL cells slots M L pc (iv (n : Int) :: rest) := by
  intro H locs ls hw hS hl
  have hnn : ¬ Int32.ofInt (n : Int) < 0 := by rw [zi_0, zi_lt ⟨by omega, by omega⟩ zi_r0]; omega
  have hN9 : (Int32.ofInt (n : Int)).toNatClampNeg = n := by rw [zi_nat ⟨by omega, by omega⟩]; omega
  refine va_newaK (atype := .int) hC.1.1 hC.1.2.1 (hC.1.2.2.2.2 _ zwint) rfl hdg rfl hnn hN9 (show n * 4 ≤ 536870912 by omega) hR.1 hR.2 rfl fun H1 cA e1 z1 o1 hAr hNm => ?_
  have hcA : cA = tc 0 := Option.some.inj (hNm.symm.trans (hC.2.1.2 0 _ rfl).2)
  subst hcA
  have hlt : ∀ f i, okM f i → ad f i < H.size := fun f i ho => (hw f i ho).lt
  have hI : zI (adN ad H.size) okN := by
    intro f i f' i' h h' e9
    rcases h with h | ⟨rfl, rfl⟩
    · rcases h' with h' | ⟨rfl, rfl⟩
      · rw [show adN ad H.size f i = ad f i from if_neg (okM_ne h), show adN ad H.size f' i' = ad f' i' from if_neg (okM_ne h')] at e9
        exact hC.2.2.1 f i f' i' h h' e9
      · rw [show adN ad H.size f i = ad f i from if_neg (okM_ne h), show adN ad H.size 25 0 = H.size from rfl] at e9
        have := hlt f i h
        omega
    · rcases h' with h' | ⟨rfl, rfl⟩
      · rw [show adN ad H.size f' i' = ad f' i' from if_neg (okM_ne h'), show adN ad H.size 25 0 = H.size from rfl] at e9
        have := hlt f' i' h'
        omega
      · exact ⟨rfl, rfl⟩
  refine kk H.size hI ⟨hC.1, hC.2.1, hI, fun f i h => ?_, hC.2.2.2.2.1, hC.2.2.2.2.2⟩ H1 locs ls (fun f i h => ?_) ⟨Nat.le_trans hS.1 (by omega), fun x h1 h2 => (o1 x (Nat.lt_of_lt_of_le h1 hS.1)).trans (hS.2.1 x h1 h2), hS.2.2⟩ hl
  · rcases h with h | ⟨rfl, rfl⟩
    · rw [show adN ad H.size f i = ad f i from if_neg (okM_ne h)]
      exact hC.2.2.2.1 f i h
    · exact hC.2.2.2.2.1 _ hS.1
  · rcases h with h | ⟨rfl, rfl⟩
    · rw [show adN ad H.size f i = ad f i from if_neg (okM_ne h), show tmN n (adN ad H.size) tc f i = tmM ad tc f i from (if_neg (okM_ne h)).trans (tmM_adN ad H.size tc f i), z0_fr (okM_ne h)]
      exact (hw f i h).kept (o1 _ (hlt f i h))
    · show H1[H.size]? = some (vp_cell (tc 0) (n, .inl (fun k => Int32.ofInt (z0 M 25 0 k))))
      rw [e1, vp_cell_i]
      rfl
theorem z_iretN {ad' : Nat → Nat → Nat} {b n : Nat} (hC : zC p s m args c D (tysM tc) ad' okN A s.heap cc nL own) (had : ad' = adN ad b) {r r' : Int} {mc ms : Nat} {ty : FieldType} (hr : meth.sig.returnType = some ty) (hlocks : meth.locks = false) (hn : narrow ty (iv r') = iv r') (hrr : r' = r) (hMN : ∀ f i, okM f i → N f i = M f i) (hc : cells ≤ mc ∧ slots ≤ ms) (hdg : decode cc pc = .ok (.ireturn, 1)) : zV p l e R s m args below meth c (MQ below (zQi D ad okM (tmM ad tc) r M A) args s mc ms A) D ad' okN (tmN n ad' tc) A s.heap nL cells slots N L pc [iv r'] := by
  intro H locs ls hw hS hl
  subst hrr; subst had
  refine W.widen hc.1 hc.2 ?_
  exact W.zret hC.1.1 hC.1.2.1 hr hn (fun t ht hW => ⟨⟨_, (), rfl, rfl, by show zH D ad okM (tmM ad tc) M t.heap; rw [ht]; exact zH_N hMN hw⟩, hS.F ht⟩) hS.2.2 hdg hlocks
end ZNEW
