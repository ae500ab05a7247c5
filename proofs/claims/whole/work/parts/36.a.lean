/-! the law: both worlds, the row of one long, the script -/
def zLH (D : va_G) (tc : Nat → ClassId) (tL : ClassId) (b : Nat) (C M : zM) (v : Int64) (H : Heap) : Prop := zH D (adC b) okC (tmC (adC b) tc) C H ∧ zH D (adM (b + 181)) okM (tmM (adM (b + 181)) tc) M H ∧ outAt tL (b + 220) v H
def zL (p : Program) (l : Launch) (e : Env) (R : Room) (s : State) (m : MethodId) (args : Array Value) (below : List Frame) (meth : Method) (c : Code) (Q : State → Prop) (D : va_G) (tc : Nat → ClassId) (tL : ClassId) (b : Nat) (A : Nat → Prop) (H0 : Heap) (nL : Nat) (cells slots : Nat) (C M : zM) (v : Int64) (L : List (Nat × Value)) (pc : Nat) (St : List Value) : Prop :=
  ∀ (H : Heap) (locs : List Loc) (ls : Array Slot), zLH D tc tL b C M v H → va_S A H0 H locs → lv_has ls nL L → W p l e R s m args below meth c H locs cells slots Q (F0 m pc ls St)
theorem adM_far {b f i f' i' : Nat} (h : okC f i) (h' : okM f' i') : adC b f i ≠ adM (b + 181) f' i' := by
  have h1 := adC_lt (b := b) h
  have h2 := adM_ge (b + 181) f' i'
  omega
theorem adC_out {b f i : Nat} (h : okC f i) : adC b f i ≠ b + 220 := by
  have h1 := adC_lt (b := b) h
  omega
theorem adM_out {b f i : Nat} (h : okM f i) : adM (b + 181) f i ≠ b + 220 := by
  have h1 := adM_lt (b := b + 181) h
  omega
section ZLH
variable {D : va_G} {tc : Nat → ClassId} {tL : ClassId} {b : Nat} {C M C' M' : zM} {v v' : Int64} {H H1 : Heap}
theorem zLH.m (h : zLH D tc tL b C M v H) (hB : zH D (adM (b + 181)) okM (tmM (adM (b + 181)) tc) M' H1) (hk : ∀ q : Nat, q < H.size → ¬ zA (adM (b + 181)) okM H.size q → H1[q]? = H[q]?) : zLH D tc tL b C M' v H1 := by
  refine ⟨h.1.kept (fun f i ho => hk _ (h.1 f i ho).lt ?_), hB, ?_⟩
  · have h0 := (h.1 f i ho).lt
    rintro (⟨f', i', h1, h2⟩ | h1)
    · exact adM_far ho h1 h2
    · have h9 : adC b f i < H.size := h0
      omega
  · have h0 := h.2.2.lt
    unfold outAt
    rw [hk _ h0 (by
      rintro (⟨f', i', h1, h2⟩ | h1)
      · exact adM_out h1 h2.symm
      · omega)]
    exact h.2.2
theorem zLH.c (h : zLH D tc tL b C M v H) (hB : zH D (adC b) okC (tmC (adC b) tc) C' H1) (hk : ∀ q : Nat, q < H.size → ¬ zA (adC b) okC H.size q → H1[q]? = H[q]?) : zLH D tc tL b C' M v H1 := by
  refine ⟨hB, h.2.1.kept (fun f i ho => hk _ (h.2.1 f i ho).lt ?_), ?_⟩
  · have h0 := (h.2.1 f i ho).lt
    rintro (⟨f', i', h1, h2⟩ | h1)
    · exact adM_far h1 ho h2.symm
    · have h9 : adM (b + 181) f i < H.size := h0
      omega
  · have h0 := h.2.2.lt
    unfold outAt
    rw [hk _ h0 (by
      rintro (⟨f', i', h1, h2⟩ | h1)
      · exact adC_out h1 h2.symm
      · omega)]
    exact h.2.2
theorem zLH.w (h : zLH D tc tL b C M v H) (hB : zH D (adC b) okC (tmC (adC b) tc) C' H1) (ho : outAt tL (b + 220) v' H1) (hk : ∀ q : Nat, q < H.size → ¬ zWF (adC b) (b + 220) H.size q → H1[q]? = H[q]?) : zLH D tc tL b C' M v' H1 := by
  refine ⟨hB, h.2.1.kept (fun f i hof => hk _ (h.2.1 f i hof).lt ?_), ho⟩
  have h0 := (h.2.1 f i hof).lt
  rintro (⟨f', i', h1, h2⟩ | h1 | h1)
  · exact adM_far h1 hof h2.symm
  · exact adM_out hof h1
  · have h9 : adM (b + 181) f i < H.size := h0
    omega
end ZLH
def zLSW (own : String) (index : Nat) (y : MethodName) (bytes : ByteArray) (maxL : Nat) (hh : List (Nat × Nat × Nat × Nat)) (n : Nat) : Prop :=
  (∀ w ∈ ([.methodLink own index y, .static y, .initialized y.cls, .codeWith y bytes maxL (some .int) hh] : List Cond), w ∈ zbig) ∧ y.cls ≠ "java/lang/invoke/MethodHandle" ∧ y.cls ≠ "java/lang/invoke/VarHandle" ∧ (parseMethodDescriptor y.desc).map (fun d => d.parameters.length) = some n
theorem zi_and31 (x : Int32) : ∃ a : Int, 0 ≤ a ∧ a ≤ 31 ∧ x &&& Int32.ofInt 31 = Int32.ofInt a := by
  refine ⟨(x &&& Int32.ofInt 31).toInt, ?_, ?_, (Int32.ofInt_toInt _).symm⟩
  · have h1 : (x &&& Int32.ofInt 31).toInt = (x.toBitVec &&& 31#32).toInt := rfl
    have h2 : (x.toBitVec &&& 31#32).toNat ≤ 31 := by rw [BitVec.toNat_and]; exact Nat.and_le_right
    rw [h1, BitVec.toInt_eq_toNat_of_lt (by omega)]
    omega
  · have h1 : (x &&& Int32.ofInt 31).toInt = (x.toBitVec &&& 31#32).toInt := rfl
    have h2 : (x.toBitVec &&& 31#32).toNat ≤ 31 := by rw [BitVec.toNat_and]; exact Nat.and_le_right
    rw [h1, BitVec.toInt_eq_toNat_of_lt (by omega)]
    omega
theorem zi_toInt_bd (x : Int32) : -2147483648 ≤ x.toInt ∧ x.toInt < 2147483648 := ⟨Int32.le_toInt x, Int32.toInt_lt x⟩
section ZLR
variable {p : Program} {l : Launch} {e : Env} {R : Room} {s : State} {m : MethodId} {args : Array Value} {below : List Frame} {meth : Method} {c : Code} {Q : State → Prop} {D : va_G} {tys : List (ClassId × FieldType)} {ad : Nat → Nat → Nat} {ok : Nat → Nat → Prop} {tc : Nat → ClassId} {tL : ClassId} {b : Nat} {A : Nat → Prop} {H0 : Heap} {nL : Nat} {cells slots : Nat} {C M C' M' : zM} {v : Int64} {L : List (Nat × Value)} {pc : Nat} {St rest : List Value} {cc : ByteArray} {own : String}
theorem zl_iconst (hC : zC p s m args c D tys ad ok A H0 cc nL own) {n : Int} (hdg : decode cc pc = .ok (.iconst n, 1)) (kk : zL p l e R s m args below meth c Q D tc tL b A H0 nL cells slots C M v L (pc + 1) (iv n :: rest)) : zL p l e R s m args below meth c Q D tc tL b A H0 nL cells slots C M v L (pc) (rest) := fun H locs ls hw hS hl => lv_iconst hC.1.1 hC.1.2.1 hdg rfl (kk H locs ls hw hS hl)
theorem zl_bipush (hC : zC p s m args c D tys ad ok A H0 cc nL own) {n : Int} (hdg : decode cc pc = .ok (.bipush n, 2)) (hv : (Int8.ofInt n).toInt32 = Int32.ofInt n) (kk : zL p l e R s m args below meth c Q D tc tL b A H0 nL cells slots C M v L (pc + 2) (iv n :: rest)) : zL p l e R s m args below meth c Q D tc tL b A H0 nL cells slots C M v L (pc) (rest) := fun H locs ls hw hS hl => lv_bipush hC.1.1 hC.1.2.1 hdg hv (kk H locs ls hw hS hl)
theorem zl_iload (hC : zC p s m args c D tys ad ok A H0 cc nL own) {i : Nat} {x : Int32} (j : Nat) (hj : L[j]? = some (i, .int x)) (hdg : decode cc pc = .ok (.iload i, 2))  (kk : zL p l e R s m args below meth c Q D tc tL b A H0 nL cells slots C M v L (pc + 2) (.int x :: rest)) : zL p l e R s m args below meth c Q D tc tL b A H0 nL cells slots C M v L (pc) (rest) := fun H locs ls hw hS hl => lv_iload hC.1.1 hC.1.2.1 hdg (lv_at hl j hj) (kk H locs ls hw hS hl)
theorem zl_aload_n (hC : zC p s m args c D tys ad ok A H0 cc nL own) {k : Fin 4} {i : Nat} {x : Nat} (j : Nat) (hj : L[j]? = some (i, .ref x)) (hdg : decode cc pc = .ok (.aload_n k, 1)) (hi : (k : Nat) = i) (kk : zL p l e R s m args below meth c Q D tc tL b A H0 nL cells slots C M v L (pc + 1) (.ref x :: rest)) : zL p l e R s m args below meth c Q D tc tL b A H0 nL cells slots C M v L (pc) (rest) := fun H locs ls hw hS hl => lv_aload_n hC.1.1 hC.1.2.1 hdg hi (lv_at hl j hj) (kk H locs ls hw hS hl)
theorem zl_istore (hC : zC p s m args c D tys ad ok A H0 cc nL own) {i : Nat} {x : Int32} (L' : List (Nat × Value)) (hdg : decode cc pc = .ok (.istore i, 2))  (hn : i < nL) (hL : (i, Value.int x) :: L.filter (fun q => !(q.1 == i) && !(q.1 + 1 == i && q.2.category == 2)) = L') (kk : zL p l e R s m args below meth c Q D tc tL b A H0 nL cells slots C M v L' (pc + 2) (rest)) : zL p l e R s m args below meth c Q D tc tL b A H0 nL cells slots C M v L (pc) (.int x :: rest) := fun H locs ls hw hS hl => lv_istore hC.1.1 hC.1.2.1 hdg hl hn hL (fun ls2 hl2 => kk H locs ls2 hw hS hl2)
theorem zl_iinc (hC : zC p s m args c D tys ad ok A H0 cc nL own) {i : Nat} {n : Int} {x : Int} (j : Nat) (L' : List (Nat × Value)) (hdg : decode cc pc = .ok (.iinc i n, 3)) (hj : L[j]? = some (i, iv x)) (hn : i < nL) (hL : (i, iv (x + n)) :: L.filter (fun q => !(q.1 == i) && !(q.1 + 1 == i && q.2.category == 2)) = L') (kk : zL p l e R s m args below meth c Q D tc tL b A H0 nL cells slots C M v L' (pc + 3) (rest)) : zL p l e R s m args below meth c Q D tc tL b A H0 nL cells slots C M v L (pc) (rest) := fun H locs ls hw hS hl => lv_iinc hC.1.1 hC.1.2.1 hdg hl hj (Int32.ofInt_add x n).symm hn hL (fun ls2 hl2 => kk H locs ls2 hw hS hl2)
theorem zl_isub (hC : zC p s m args c D tys ad ok A H0 cc nL own) {a b9 : Int} (hdg : decode cc pc = .ok (.isub, 1)) (kk : zL p l e R s m args below meth c Q D tc tL b A H0 nL cells slots C M v L (pc + 1) (iv (a - b9) :: rest)) : zL p l e R s m args below meth c Q D tc tL b A H0 nL cells slots C M v L (pc) (iv b9 :: iv a :: rest) := fun H locs ls hw hS hl => lv_isub hC.1.1 hC.1.2.1 hdg (by rw [← Int32.ofInt_sub]; exact kk H locs ls hw hS hl)
theorem zl_iadd (hC : zC p s m args c D tys ad ok A H0 cc nL own) {a b9 : Int} (hdg : decode cc pc = .ok (.iadd, 1)) (kk : zL p l e R s m args below meth c Q D tc tL b A H0 nL cells slots C M v L (pc + 1) (iv (a + b9) :: rest)) : zL p l e R s m args below meth c Q D tc tL b A H0 nL cells slots C M v L (pc) (iv b9 :: iv a :: rest) := fun H locs ls hw hS hl => lv_iadd hC.1.1 hC.1.2.1 hdg (by rw [← Int32.ofInt_add]; exact kk H locs ls hw hS hl)
theorem zl_icmp_eq (hC : zC p s m args c D tys ad ok A H0 cc nL own) {a b9 : Int} {off : Int} (tgt : Nat) (hdg : decode cc pc = .ok (.if_icmp .eq off, 3)) (ht : (pc : Int) + off = (tgt : Int)) (h1 : -2147483648 ≤ a ∧ a < 2147483648) (h2 : -2147483648 ≤ b9 ∧ b9 < 2147483648) (kt : a = b9 → zL p l e R s m args below meth c Q D tc tL b A H0 nL cells slots C M v L (tgt) (rest)) (kf : a ≠ b9 → zL p l e R s m args below meth c Q D tc tL b A H0 nL cells slots C M v L (pc + 3) (rest)) : zL p l e R s m args below meth c Q D tc tL b A H0 nL cells slots C M v L (pc) (iv b9 :: iv a :: rest) := fun H locs ls hw hS hl => lv_icmp_eq hC.1.1 hC.1.2.1 hdg ht (fun h => kt ((zi_eq h1 h2).mp h) H locs ls hw hS hl) (fun h => kf (fun q => h ((zi_eq h1 h2).mpr q)) H locs ls hw hS hl)
theorem zl_icmp_gt (hC : zC p s m args c D tys ad ok A H0 cc nL own) {a b9 : Int} {off : Int} (tgt : Nat) (hdg : decode cc pc = .ok (.if_icmp .gt off, 3)) (ht : (pc : Int) + off = (tgt : Int)) (h1 : -2147483648 ≤ a ∧ a < 2147483648) (h2 : -2147483648 ≤ b9 ∧ b9 < 2147483648) (kt : b9 < a → zL p l e R s m args below meth c Q D tc tL b A H0 nL cells slots C M v L (tgt) (rest)) (kf : a ≤ b9 → zL p l e R s m args below meth c Q D tc tL b A H0 nL cells slots C M v L (pc + 3) (rest)) : zL p l e R s m args below meth c Q D tc tL b A H0 nL cells slots C M v L (pc) (iv b9 :: iv a :: rest) := fun H locs ls hw hS hl => lv_icmp_gt hC.1.1 hC.1.2.1 hdg ht (fun h => kt ((zi_lt h2 h1).mp h) H locs ls hw hS hl) (fun h => kf (Int.not_lt.mp fun q => h ((zi_lt h2 h1).mpr q)) H locs ls hw hS hl)
theorem zl_if_ne (hC : zC p s m args c D tys ad ok A H0 cc nL own) {a : Int} {off : Int} (tgt : Nat) (hdg : decode cc pc = .ok (.ifCond .ne off, 3)) (ht : (pc : Int) + off = (tgt : Int)) (h1 : -2147483648 ≤ a ∧ a < 2147483648) (kt : a ≠ 0 → zL p l e R s m args below meth c Q D tc tL b A H0 nL cells slots C M v L (tgt) (rest)) (kf : a = 0 → zL p l e R s m args below meth c Q D tc tL b A H0 nL cells slots C M v L (pc + 3) (rest)) : zL p l e R s m args below meth c Q D tc tL b A H0 nL cells slots C M v L (pc) (iv a :: rest) := fun H locs ls hw hS hl => lv_if_ne hC.1.1 hC.1.2.1 hdg ht (fun h => kt (fun q => h ((zi_eq h1 zi_r0).mpr q)) H locs ls hw hS hl) (fun h => kf ((zi_eq h1 zi_r0).mp h) H locs ls hw hS hl)
theorem zl_if_eq (hC : zC p s m args c D tys ad ok A H0 cc nL own) {a : Int} {off : Int} (tgt : Nat) (hdg : decode cc pc = .ok (.ifCond .eq off, 3)) (ht : (pc : Int) + off = (tgt : Int)) (h1 : -2147483648 ≤ a ∧ a < 2147483648) (kt : a = 0 → zL p l e R s m args below meth c Q D tc tL b A H0 nL cells slots C M v L (tgt) (rest)) (kf : a ≠ 0 → zL p l e R s m args below meth c Q D tc tL b A H0 nL cells slots C M v L (pc + 3) (rest)) : zL p l e R s m args below meth c Q D tc tL b A H0 nL cells slots C M v L (pc) (iv a :: rest) := fun H locs ls hw hS hl => lv_if_eq hC.1.1 hC.1.2.1 hdg ht (fun h => kt ((zi_eq h1 zi_r0).mp h) H locs ls hw hS hl) (fun h => kf (fun q => h ((zi_eq h1 zi_r0).mpr q)) H locs ls hw hS hl)
theorem zl_goto (hC : zC p s m args c D tys ad ok A H0 cc nL own) {off : Int} (tgt : Nat) (hdg : decode cc pc = .ok (.goto off, 3)) (ht : (pc : Int) + off = (tgt : Int)) (kk : zL p l e R s m args below meth c Q D tc tL b A H0 nL cells slots C M v L (tgt) (rest)) : zL p l e R s m args below meth c Q D tc tL b A H0 nL cells slots C M v L (pc) (rest) := fun H locs ls hw hS hl => lv_goto hC.1.1 hC.1.2.1 hdg ht (kk H locs ls hw hS hl)
theorem zl_i2l (hC : zC p s m args c D tys ad ok A H0 cc nL own) {x : Int32} (hdg : decode cc pc = .ok (.i2l, 1))  (kk : zL p l e R s m args below meth c Q D tc tL b A H0 nL cells slots C M v L (pc + 1) (.long x.toInt64 :: rest)) : zL p l e R s m args below meth c Q D tc tL b A H0 nL cells slots C M v L (pc) (.int x :: rest) := fun H locs ls hw hS hl => lv_i2l hC.1.1 hC.1.2.1 hdg rfl (kk H locs ls hw hS hl)
theorem zl_tableIn (hC : zC p s m args c D tys ad ok A H0 cc nL own) {dflt lo hi : Int} {offs : Array Int} {len : Nat} {a off : Int} (tgt : Nat) (hdg : decode cc pc = .ok (.tableswitch dflt lo hi offs, len)) (h1 : -2147483648 ≤ a ∧ a < 2147483648) (h2 : lo ≤ a) (h3 : a ≤ hi) (ho : offs[(a - lo).toNat]? = some off) (ht : (pc : Int) + off = (tgt : Int)) (kk : zL p l e R s m args below meth c Q D tc tL b A H0 nL cells slots C M v L (tgt) (rest)) : zL p l e R s m args below meth c Q D tc tL b A H0 nL cells slots C M v L (pc) (iv a :: rest) := fun H locs ls hw hS hl => lv_tableIn hC.1.1 hC.1.2.1 hdg (by rw [zi_toInt h1]; omega) (by rw [zi_toInt h1]; omega) (by rw [zi_toInt h1]; exact ho) ht (kk H locs ls hw hS hl)
theorem zl_tableOut (hC : zC p s m args c D tys ad ok A H0 cc nL own) {dflt lo hi : Int} {offs : Array Int} {len : Nat} {a : Int} (tgt : Nat) (hdg : decode cc pc = .ok (.tableswitch dflt lo hi offs, len)) (h1 : -2147483648 ≤ a ∧ a < 2147483648) (h2 : a < lo ∨ hi < a) (ht : (pc : Int) + dflt = (tgt : Int)) (kk : zL p l e R s m args below meth c Q D tc tL b A H0 nL cells slots C M v L (tgt) (rest)) : zL p l e R s m args below meth c Q D tc tL b A H0 nL cells slots C M v L (pc) (iv a :: rest) := fun H locs ls hw hS hl => lv_tableOut hC.1.1 hC.1.2.1 hdg (by rw [zi_toInt h1]; exact h2) ht (kk H locs ls hw hS hl)
theorem zl_perm {L' : List (Nat × Value)} (ks : List Nat) (h : lv_pick L ks = L') (kk : zL p l e R s m args below meth c Q D tc tL b A H0 nL cells slots C M v L' (pc) (rest)) : zL p l e R s m args below meth c Q D tc tL b A H0 nL cells slots C M v L (pc) (rest) := fun H locs ls hw hS hl => kk H locs ls hw hS (lv_sub hl ks h)
theorem zl_widen {k n : Nat} (h1 : cells ≤ k) (h2 : slots ≤ n) (kk : zL p l e R s m args below meth c Q D tc tL b A H0 nL k n C M v L (pc) (rest)) : zL p l e R s m args below meth c Q D tc tL b A H0 nL cells slots C M v L (pc) (rest) := fun H locs ls hw hS hl => W.widen h1 h2 (kk H locs ls hw hS hl)
theorem zl_conv {C2 M2 : zM} {v2 : Int64} {L2 : List (Nat × Value)} {St2 : List Value} (kk : zL p l e R s m args below meth c Q D tc tL b A H0 nL cells slots C2 M2 v2 L2 pc St2) (hC : C = C2) (hM : M = M2) (hv : v = v2) (hL : L = L2) (hSt : St = St2) : zL p l e R s m args below meth c Q D tc tL b A H0 nL cells slots C M v L pc St := by subst hC; subst hM; subst hv; subst hL; subst hSt; exact kk
theorem zl_sld (hC : zC p s m args c D tys ad ok A H0 cc nL own) {sb Ls : Nat} {xs : Nat → Int32} (hX : va_X sb Ls xs s H0) (hbl : sb < H0.size) (hbA : ¬ A sb) {a : Int} (k : Nat) (hk : a = (k : Int)) (h1 : k < Ls) (h2 : Ls < 100000) (hdg : decode cc pc = .ok (.iaload, 1)) (kk : zL p l e R s m args below meth c Q D tc tL b A H0 nL cells slots C M v L (pc + 1) (iv (xs k).toInt :: rest)) : zL p l e R s m args below meth c Q D tc tL b A H0 nL cells slots C M v L pc (iv a :: .ref sb :: rest) := by
  intro H locs ls hw hS hl
  subst hk
  refine va_sld hC.1.1 hC.1.2.1 hX hbl hbA hS (zi_in (n := Ls) (by omega) (by omega)) hdg ?_
  rw [zi_nat (by omega), Int.toNat_natCast]
  have := kk H locs ls hw hS hl
  rw [show iv (xs k).toInt = .int (xs k) by show Value.int (Int32.ofInt (xs k).toInt) = _; rw [Int32.ofInt_toInt]] at this
  exact this
theorem zl_slen (hC : zC p s m args c D tys ad ok A H0 cc nL own) {sb Ls : Nat} {xs : Nat → Int32} (hX : va_X sb Ls xs s H0) (hbl : sb < H0.size) (hbA : ¬ A sb) (hdg : decode cc pc = .ok (.arraylength, 1)) (kk : zL p l e R s m args below meth c Q D tc tL b A H0 nL cells slots C M v L (pc + 1) (iv (Ls : Int) :: rest)) : zL p l e R s m args below meth c Q D tc tL b A H0 nL cells slots C M v L pc (.ref sb :: rest) := by
  intro H locs ls hw hS hl
  refine va_slen hC.1.1 hC.1.2.1 hX hbl hbA hS hdg ?_
  exact kk H locs ls hw hS hl
theorem zl_iand (hC : zC p s m args c D tys ad ok A H0 cc nL own) {x y : Int32} (hdg : decode cc pc = .ok (.iand, 1)) (kk : zL p l e R s m args below meth c Q D tc tL b A H0 nL cells slots C M v L (pc + 1) (.int (x &&& y) :: rest)) : zL p l e R s m args below meth c Q D tc tL b A H0 nL cells slots C M v L pc (.int y :: .int x :: rest) := fun H locs ls hw hS hl => lv_iand hC.1.1 hC.1.2.1 hdg (kk H locs ls hw hS hl)
theorem zl_laload (hC : zC p s m args c D (tysW tc tL) ad ok A H0 cc nL own) (hdg : decode cc pc = .ok (.laload, 1)) (kk : zL p l e R s m args below meth c Q D tc tL b A H0 nL cells slots C M v L (pc + 1) (.long v :: rest)) : zL p l e R s m args below meth c Q D tc tL b A H0 nL cells slots C M v L pc (iv 0 :: .ref (b + 220) :: rest) := by
  intro H locs ls hw hS hl
  have hP : va_P D vwCl [(b + 220, .inl (tL, 1, .inr (.inl (fun _ => v))))] H := by
    intro k q hk
    match k, hk with
    | 0, hk => cases hk; exact hw.2.2
    | k + 1, hk => simp at hk
  exact va_lald hC.1.1 hC.1.2.1 hC.2.1 hP 0 6 rfl rfl (zi_in (a := 0) (n := 1) (by omega) (by omega)) hdg (kk H locs ls hw hS hl)
theorem zl_lcmp (hC : zC p s m args c D tys ad ok A H0 cc nL own) {x y : Int64} (hxy : x = y) (hdg : decode cc pc = .ok (.lcmp, 1)) (kk : zL p l e R s m args below meth c Q D tc tL b A H0 nL cells slots C M v L (pc + 1) (iv 0 :: rest)) : zL p l e R s m args below meth c Q D tc tL b A H0 nL cells slots C M v L pc (.long y :: .long x :: rest) := by
  intro H locs ls hw hS hl
  subst hxy
  refine W.lcmp hC.1.1 hC.1.2.1 hdg ?_
  rw [show lg_cmp x x = Int32.ofInt 0 by simp [lg_cmp]]
  exact kk H locs ls hw hS hl
theorem zl_dstore (hC : zC p s m args c D tys ad ok A H0 cc nL own) {i : Nat} {x : UInt64} (L' : List (Nat × Value)) (hdg : decode cc pc = .ok (.dstore i, 2)) (hn : i + 1 < nL) (hl : (i, Value.double x) :: L.filter (fun q => !(q.1 == i) && (!(q.1 == i + 1) && !(q.1 + 1 == i && q.2.category == 2))) = L') (kk : zL p l e R s m args below meth c Q D tc tL b A H0 nL cells slots C M v L' (pc + 2) rest) : zL p l e R s m args below meth c Q D tc tL b A H0 nL cells slots C M v L pc (.double x :: rest) := fun H locs ls hw hS hl9 => lv_dstore hC.1.1 hC.1.2.1 hdg hl9 hn hl (fun ls' h => kk H locs ls' hw hS h)
theorem zl_dload (hC : zC p s m args c D tys ad ok A H0 cc nL own) {i : Nat} {x : UInt64} (j : Nat) (hj : L[j]? = some (i, .double x)) (hdg : decode cc pc = .ok (.dload i, 2)) (kk : zL p l e R s m args below meth c Q D tc tL b A H0 nL cells slots C M v L (pc + 2) (.double x :: rest)) : zL p l e R s m args below meth c Q D tc tL b A H0 nL cells slots C M v L pc rest := fun H locs ls hw hS hl => lv_dload hC.1.1 hC.1.2.1 hdg (lv_at hl j hj) (kk H locs ls hw hS hl)
theorem zl_dcmp (hC : zC p s m args c D tys ad ok A H0 cc nL own) {x y : UInt64} {op : CmpOp} (hdg : decode cc pc = .ok (.dcmp op, 1)) (kk : zL p l e R s m args below meth c Q D tc tL b A H0 nL cells slots C M v L (pc + 1) (.int (Op.cmpValue (FP.dcmp x y) op) :: rest)) : zL p l e R s m args below meth c Q D tc tL b A H0 nL cells slots C M v L pc (.double y :: .double x :: rest) := fun H locs ls hw hS hl => lv_dcmp hC.1.1 hC.1.2.1 hdg (kk H locs ls hw hS hl)
variable {y : MethodName} {bytes : ByteArray} {maxL index n d mc ms : Nat} {ret : Option FieldType} {As : List Value}
theorem zl_callM (hC : zC p s m args c D (tysM tc) (adM (b + 181)) okM A H0 cc nL own) (hL : zLV own index y bytes maxL ret n) {ci : Nat} {lt : List (Option Value)} {T : u_T} {N : Nat} {r : Int} (hM : zMi l y bytes maxL ret d D (tysM tc) (adM (b + 181)) okM (tmM (adM (b + 181)) tc) (.ref (adM (b + 181) 0 0) :: As) M r M' mc ms) (ht : tmM (adM (b + 181)) tc 0 0 = .inl (ci, lt)) (hci : vwCl[ci]? = some (y.cls, T, N)) (hst : St = As.reverse ++ .ref (adM (b + 181) 0 0) :: rest) (hn : As.length = n) (hW : (rest.map fun v => v.category).sum ≤ 8) (hR : d + 1 ≤ R.frames ∧ 8 + (maxL + 11) + 40 * d ≤ R.locals) (hf : cells + mc ≤ R.cells ∧ slots + ms ≤ R.slots) (hdg : decode cc pc = .ok (.invokevirtual index, 3)) (kk : zL p l e R s m args below meth c Q D tc tL b A H0 nL (cells + mc) (slots + ms) C M' v L (pc + 3) (iv r :: rest)) : zL p l e R s m args below meth c Q D tc tL b A H0 nL cells slots C M v L pc St := by
  intro H locs ls hw hS hl
  subst hst
  refine va_calli (z_runV hC hL (hM H.size) ht hci (okM_0 (by omega)) hn hW hR hf hdg hw.2.1 hl.1) hS (fun q _ h => z_free hC hS q h) (z_free hC hS) (fun r2 u t H1 locs1 ht1 hvm hr hB hz1 hk1 hS1 => ?_)
  subst hr
  rw [ht1] at hB
  exact kk H1 locs1 ls (hw.m hB hk1) hS1 hl
theorem zl_callMd (hC : zC p s m args c D (tysM tc) (adM (b + 181)) okM A H0 cc nL own) (hL : zLV own index y bytes maxL ret n) {ci : Nat} {lt : List (Option Value)} {T : u_T} {N : Nat} {r : UInt64} (hM : zMd l y bytes maxL ret d D (tysM tc) (adM (b + 181)) okM (tmM (adM (b + 181)) tc) (.ref (adM (b + 181) 0 0) :: As) M r M' mc ms) (ht : tmM (adM (b + 181)) tc 0 0 = .inl (ci, lt)) (hci : vwCl[ci]? = some (y.cls, T, N)) (hst : St = As.reverse ++ .ref (adM (b + 181) 0 0) :: rest) (hn : As.length = n) (hW : (rest.map fun v => v.category).sum ≤ 8) (hR : d + 1 ≤ R.frames ∧ 8 + (maxL + 11) + 40 * d ≤ R.locals) (hf : cells + mc ≤ R.cells ∧ slots + ms ≤ R.slots) (hdg : decode cc pc = .ok (.invokevirtual index, 3)) (kk : zL p l e R s m args below meth c Q D tc tL b A H0 nL (cells + mc) (slots + ms) C M' v L (pc + 3) (.double r :: rest)) : zL p l e R s m args below meth c Q D tc tL b A H0 nL cells slots C M v L pc St := by
  intro H locs ls hw hS hl
  subst hst
  refine va_calld (z_runV hC hL (hM H.size) ht hci (okM_0 (by omega)) hn hW hR hf hdg hw.2.1 hl.1) hS (fun q _ h => z_free hC hS q h) (z_free hC hS) (fun r2 u t H1 locs1 ht1 hvm hr hB hz1 hk1 hS1 => ?_)
  subst hr
  rw [ht1] at hB
  exact kk H1 locs1 ls (hw.m hB hk1) hS1 hl
theorem zl_callMl (hC : zC p s m args c D (tysM tc) (adM (b + 181)) okM A H0 cc nL own) (hL : zLV own index y bytes maxL ret n) {ci : Nat} {lt : List (Option Value)} {T : u_T} {N : Nat} {r : Int64} (hM : zMl l y bytes maxL ret d D (tysM tc) (adM (b + 181)) okM (tmM (adM (b + 181)) tc) (.ref (adM (b + 181) 0 0) :: As) M r M' mc ms) (ht : tmM (adM (b + 181)) tc 0 0 = .inl (ci, lt)) (hci : vwCl[ci]? = some (y.cls, T, N)) (hst : St = As.reverse ++ .ref (adM (b + 181) 0 0) :: rest) (hn : As.length = n) (hW : (rest.map fun v => v.category).sum ≤ 8) (hR : d + 1 ≤ R.frames ∧ 8 + (maxL + 11) + 40 * d ≤ R.locals) (hf : cells + mc ≤ R.cells ∧ slots + ms ≤ R.slots) (hdg : decode cc pc = .ok (.invokevirtual index, 3)) (kk : zL p l e R s m args below meth c Q D tc tL b A H0 nL (cells + mc) (slots + ms) C M' v L (pc + 3) (.long r :: rest)) : zL p l e R s m args below meth c Q D tc tL b A H0 nL cells slots C M v L pc St := by
  intro H locs ls hw hS hl
  subst hst
  refine va_calll (z_runV hC hL (hM H.size) ht hci (okM_0 (by omega)) hn hW hR hf hdg hw.2.1 hl.1) hS (fun q _ h => z_free hC hS q h) (z_free hC hS) (fun r2 u t H1 locs1 ht1 hvm hr hB hz1 hk1 hS1 => ?_)
  subst hr
  rw [ht1] at hB
  exact kk H1 locs1 ls (hw.m hB hk1) hS1 hl
theorem zl_callCd (hC : zC p s m args c D (tysC tc) (adC b) okC A H0 cc nL own) (hL : zLV own index y bytes maxL ret n) {ci : Nat} {lt : List (Option Value)} {T : u_T} {N : Nat} {r : UInt64} (hM : zMd l y bytes maxL ret d D (tysC tc) (adC b) okC (tmC (adC b) tc) (.ref (adC b 0 0) :: As) C r C' mc ms) (ht : tmC (adC b) tc 0 0 = .inl (ci, lt)) (hci : vwCl[ci]? = some (y.cls, T, N)) (hst : St = As.reverse ++ .ref (adC b 0 0) :: rest) (hn : As.length = n) (hW : (rest.map fun v => v.category).sum ≤ 8) (hR : d + 1 ≤ R.frames ∧ 8 + (maxL + 11) + 40 * d ≤ R.locals) (hf : cells + mc ≤ R.cells ∧ slots + ms ≤ R.slots) (hdg : decode cc pc = .ok (.invokevirtual index, 3)) (kk : zL p l e R s m args below meth c Q D tc tL b A H0 nL (cells + mc) (slots + ms) C' M v L (pc + 3) (.double r :: rest)) : zL p l e R s m args below meth c Q D tc tL b A H0 nL cells slots C M v L pc St := by
  intro H locs ls hw hS hl
  subst hst
  refine va_calld (z_runV hC hL (hM H.size) ht hci (okC_0 (by omega)) hn hW hR hf hdg hw.1 hl.1) hS (fun q _ h => z_free hC hS q h) (z_free hC hS) (fun r2 u t H1 locs1 ht1 hvm hr hB hz1 hk1 hS1 => ?_)
  subst hr
  rw [ht1] at hB
  exact kk H1 locs1 ls (hw.c hB hk1) hS1 hl
theorem zl_callCl (hC : zC p s m args c D (tysC tc) (adC b) okC A H0 cc nL own) (hL : zLV own index y bytes maxL ret n) {ci : Nat} {lt : List (Option Value)} {T : u_T} {N : Nat} {r : Int64} (hM : zMl l y bytes maxL ret d D (tysC tc) (adC b) okC (tmC (adC b) tc) (.ref (adC b 0 0) :: As) C r C' mc ms) (ht : tmC (adC b) tc 0 0 = .inl (ci, lt)) (hci : vwCl[ci]? = some (y.cls, T, N)) (hst : St = As.reverse ++ .ref (adC b 0 0) :: rest) (hn : As.length = n) (hW : (rest.map fun v => v.category).sum ≤ 8) (hR : d + 1 ≤ R.frames ∧ 8 + (maxL + 11) + 40 * d ≤ R.locals) (hf : cells + mc ≤ R.cells ∧ slots + ms ≤ R.slots) (hdg : decode cc pc = .ok (.invokevirtual index, 3)) (kk : zL p l e R s m args below meth c Q D tc tL b A H0 nL (cells + mc) (slots + ms) C' M v L (pc + 3) (.long r :: rest)) : zL p l e R s m args below meth c Q D tc tL b A H0 nL cells slots C M v L pc St := by
  intro H locs ls hw hS hl
  subst hst
  refine va_calll (z_runV hC hL (hM H.size) ht hci (okC_0 (by omega)) hn hW hR hf hdg hw.1 hl.1) hS (fun q _ h => z_free hC hS q h) (z_free hC hS) (fun r2 u t H1 locs1 ht1 hvm hr hB hz1 hk1 hS1 => ?_)
  subst hr
  rw [ht1] at hB
  exact kk H1 locs1 ls (hw.c hB hk1) hS1 hl
/-- a wrapper -/
theorem zl_callW (hC : zC p s m args c D (tysW tc tL) (adC b) okC A H0 cc nL own) (hX : zXf A s H0) (hNc : zNcs s) (hAb : ∀ q, A q ↔ b ≤ q) (hH0 : H0.size = b) {hh : List (Nat × Nat × Nat × Nat)} (hL : zLSW own index y bytes maxL hh n) {av : List Value} {k : Nat} {kr r : Int} (hM : zWm l y bytes maxL hh d D tc tL (adC b) (b + 220) av C k kr r C') (hst : St = (av ++ [Value.ref (b + 220)]).reverse ++ rest) (hn : (av ++ [Value.ref (b + 220)]).length = n) (hW : (rest.map fun v => v.category).sum ≤ 8) (hR : d + 1 ≤ R.frames ∧ 8 + (maxL + 11) + 40 * d ≤ R.locals) (hf : cells + 1 ≤ R.cells ∧ slots + 6 ≤ R.slots) (hdg : decode cc pc = .ok (.invokestatic index, 3)) (kk : zL p l e R s m args below meth c Q D tc tL b A H0 nL (cells + 1) (slots + 6) (if k = 0 then C' else C) M (if k = 0 then (Int32.ofInt r).toInt64 else v) L (pc + 3) (iv kr :: rest)) : zL p l e R s m args below meth c Q D tc tL b A H0 nL cells slots C M v L pc St := by
  intro H locs ls hw hS hl
  subst hst
  have hts := hC.1.2.2.2.2
  have hG : GoodIn zbig (.codeWith y bytes maxL (some .int) hh :: zbig) := zbig_good (fun w hw => (List.mem_cons.mp hw).elim (fun e => e ▸ hL.1 _ (by simp)) id)
  have cw : vx_CSW R s args own index y bytes maxL (some .int) hh (.codeWith y bytes maxL (some .int) hh :: zbig) (zrm d 1 6) 1 6 n := ⟨⟨rfl, rfl, hR.1, hR.2, pay_in hts hG, List.mem_cons_self⟩, hts _ (hL.1 _ (by simp)), hts _ (hL.1 _ (by simp)), ⟨hL.2.1, hL.2.2.1⟩, fun sig h => by
    have h2 := hL.2.2.2
    rw [h] at h2
    exact (Option.some.inj h2).symm, hts _ (hL.1 _ (by simp)), hts _ (hL.1 _ (by simp))⟩
  have hfree : ∀ q, zWF (adC b) (b + 220) H.size q → A q := fun q h => by
    rw [hAb]
    rcases h with ⟨f, i, h, rfl⟩ | rfl | h
    · exact adC_ge b f i
    · omega
    · have := hS.1; omega
  have hXH : zXf (zWF (adC b) (b + 220) H.size) s H := zXf.narrow (A := A) ⟨hX.1, hX.2.1.kept (fun a h1 h2 => hS.2.1 a h1 h2), hX.2.2.kept (fun a h1 h2 => hS.2.1 a h1 h2)⟩ hfree
  refine va_calli (vx_runSW (As := av ++ [Value.ref (b + 220)]) (rest := rest) hC.1 (hM H.size v) cw ⟨fun a U g mk q => ?_, fun U hU hW2 => ⟨rfl, by rw [hU], by rw [hU]; exact hw.1, by rw [hU]; exact hw.2.2, va_K.moved hW2.alike hC.2.1, znl_moved hW2 hC.2.2.2.2.2, by rw [hU]; exact hXH.warm hW2, zNcs.moved hW2.alike hNc⟩⟩ rfl hn hl.1 rfl (lv_room hW) hdg hf) hS (fun q _ h => hfree q h) hfree (fun r2 u t H1 locs1 ht1 hvm hr hB hz1 hk1 hS1 => ?_)
  · obtain ⟨q0, q1, q2, q3, q4, q5, q6, q7⟩ := q
    exact ⟨q0, q1, q2, q3, va_K.moved (u := U) (U := U.calling g mk a) (Vm.Alike.refl U.vm) q4, znl_same (u := U) (U := U.calling g mk a) rfl q5, zXf.same (u := U) (U := U.calling g mk a) rfl q6, zNcs.moved (u := U) (U := U.calling g mk a) (Vm.Alike.refl U.vm) q7⟩
  · subst hr
    rw [ht1] at hB
    exact kk H1 locs1 ls (hw.w hB.1 hB.2 hk1) hS1 hl
end ZLR
