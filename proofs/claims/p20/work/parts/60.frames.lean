/-! the law's frames: the class's world, and rows of twelve ints beside it -/
def zHW (D : va_G) (tc : Nat → ClassId) (b : Nat) (C : zM) (Xs : List (Nat × (Nat → Int))) (H : Heap) : Prop := zH D (adC b) okC (tmC (adC b) tc) C H ∧ ∀ x ∈ Xs, b + 181 ≤ x.1 ∧ H[x.1]? = some (vp_cell (tc 0) (12, .inl (fun k => Int32.ofInt (x.2 k))))
def zQ (p : Program) (l : Launch) (e : Env) (R : Room) (s : State) (m : MethodId) (args : Array Value) (below : List Frame) (meth : Method) (c : Code) (Q : State → Prop) (D : va_G) (tc : Nat → ClassId) (b : Nat) (A : Nat → Prop) (H0 : Heap) (nL : Nat) (cells slots : Nat) (C : zM) (Xs : List (Nat × (Nat → Int))) (L : List (Nat × Value)) (pc : Nat) (St : List Value) : Prop :=
  ∀ (H : Heap) (locs : List Loc) (ls : Array Slot), zHW D tc b C Xs H → va_S A H0 H locs → lv_has ls nL L → W p l e R s m args below meth c H locs cells slots Q (F0 m pc ls St)
theorem zHW.lt {D : va_G} {tc : Nat → ClassId} {b : Nat} {C : zM} {Xs : List (Nat × (Nat → Int))} {H : Heap} (h : zHW D tc b C Xs H) {x : Nat × (Nat → Int)} (hx : x ∈ Xs) : x.1 < H.size := (Array.getElem?_eq_some_iff.mp (h.2 x hx).2).1
theorem zHW.call {D : va_G} {tc : Nat → ClassId} {b : Nat} {C C' : zM} {Xs : List (Nat × (Nat → Int))} {H H1 : Heap} (h : zHW D tc b C Xs H) (hB : zH D (adC b) okC (tmC (adC b) tc) C' H1) (hk : ∀ q : Nat, q < H.size → ¬ zA (adC b) okC H.size q → H1[q]? = H[q]?) : zHW D tc b C' Xs H1 := by
  refine ⟨hB, fun x hx => ?_⟩
  obtain ⟨h1, h2⟩ := h.2 x hx
  have h3 := h.lt hx
  refine ⟨h1, ?_⟩
  rw [hk x.1 h3 (by
    rintro (⟨f, i, ho, e⟩ | e)
    · have := adC_lt (b := b) ho
      omega
    · omega)]
  exact h2
theorem zHW.big {D : va_G} {tc : Nat → ClassId} {b : Nat} {C : zM} {Xs : List (Nat × (Nat → Int))} {H : Heap} (h : zHW D tc b C Xs H) : b + 181 ≤ H.size := by
  have h1 := (h.1 11 12 (okC_11 (by omega))).lt
  have h2 : adC b 11 12 = b + 180 := rfl
  have h3 : adC b 11 12 < H.size := h1
  omega
theorem zXf.narrow {A B : Nat → Prop} {U : State} {H : Heap} (h : zXf A U H) (hAB : ∀ q, B q → A q) : zXf B U H := ⟨h.1, h.2.1.narrow hAB, h.2.2.narrow hAB⟩
section ZQR
variable {p : Program} {l : Launch} {e : Env} {R : Room} {s : State} {m : MethodId} {args : Array Value} {below : List Frame} {meth : Method} {c : Code} {Q : State → Prop} {D : va_G} {tc : Nat → ClassId} {b : Nat} {A : Nat → Prop} {H0 : Heap} {nL : Nat} {cells slots : Nat} {C C' : zM} {Xs : List (Nat × (Nat → Int))} {L : List (Nat × Value)} {pc : Nat} {St rest : List Value} {cc : ByteArray} {own : String}
theorem zq_iconst (hC : zC p s m args c D (tysC tc) (adC b) okC A H0 cc nL own) {n : Int} (hdg : decode cc pc = .ok (.iconst n, 1)) (kk : zQ p l e R s m args below meth c Q D tc b A H0 nL cells slots C Xs L (pc + 1) (iv n :: rest)) : zQ p l e R s m args below meth c Q D tc b A H0 nL cells slots C Xs L (pc) (rest) := fun H locs ls hw hS hl => lv_iconst hC.1.1 hC.1.2.1 hdg rfl (kk H locs ls hw hS hl)
theorem zq_bipush (hC : zC p s m args c D (tysC tc) (adC b) okC A H0 cc nL own) {n : Int} (hdg : decode cc pc = .ok (.bipush n, 2)) (hv : (Int8.ofInt n).toInt32 = Int32.ofInt n) (kk : zQ p l e R s m args below meth c Q D tc b A H0 nL cells slots C Xs L (pc + 2) (iv n :: rest)) : zQ p l e R s m args below meth c Q D tc b A H0 nL cells slots C Xs L (pc) (rest) := fun H locs ls hw hS hl => lv_bipush hC.1.1 hC.1.2.1 hdg hv (kk H locs ls hw hS hl)
theorem zq_sipush (hC : zC p s m args c D (tysC tc) (adC b) okC A H0 cc nL own) {n : Int} (hdg : decode cc pc = .ok (.sipush n, 3)) (hv : (Int16.ofInt n).toInt32 = Int32.ofInt n) (kk : zQ p l e R s m args below meth c Q D tc b A H0 nL cells slots C Xs L (pc + 3) (iv n :: rest)) : zQ p l e R s m args below meth c Q D tc b A H0 nL cells slots C Xs L (pc) (rest) := fun H locs ls hw hS hl => lv_sipush hC.1.1 hC.1.2.1 hdg hv (kk H locs ls hw hS hl)
theorem zq_iload_n (hC : zC p s m args c D (tysC tc) (adC b) okC A H0 cc nL own) {k : Fin 4} {i : Nat} {x : Int32} (j : Nat) (hj : L[j]? = some (i, .int x)) (hdg : decode cc pc = .ok (.iload_n k, 1)) (hi : (k : Nat) = i) (kk : zQ p l e R s m args below meth c Q D tc b A H0 nL cells slots C Xs L (pc + 1) (.int x :: rest)) : zQ p l e R s m args below meth c Q D tc b A H0 nL cells slots C Xs L (pc) (rest) := fun H locs ls hw hS hl => lv_iload_n hC.1.1 hC.1.2.1 hdg hi (lv_at hl j hj) (kk H locs ls hw hS hl)
theorem zq_iload (hC : zC p s m args c D (tysC tc) (adC b) okC A H0 cc nL own) {i : Nat} {x : Int32} (j : Nat) (hj : L[j]? = some (i, .int x)) (hdg : decode cc pc = .ok (.iload i, 2))  (kk : zQ p l e R s m args below meth c Q D tc b A H0 nL cells slots C Xs L (pc + 2) (.int x :: rest)) : zQ p l e R s m args below meth c Q D tc b A H0 nL cells slots C Xs L (pc) (rest) := fun H locs ls hw hS hl => lv_iload hC.1.1 hC.1.2.1 hdg (lv_at hl j hj) (kk H locs ls hw hS hl)
theorem zq_aload_n (hC : zC p s m args c D (tysC tc) (adC b) okC A H0 cc nL own) {k : Fin 4} {i : Nat} {x : Nat} (j : Nat) (hj : L[j]? = some (i, .ref x)) (hdg : decode cc pc = .ok (.aload_n k, 1)) (hi : (k : Nat) = i) (kk : zQ p l e R s m args below meth c Q D tc b A H0 nL cells slots C Xs L (pc + 1) (.ref x :: rest)) : zQ p l e R s m args below meth c Q D tc b A H0 nL cells slots C Xs L (pc) (rest) := fun H locs ls hw hS hl => lv_aload_n hC.1.1 hC.1.2.1 hdg hi (lv_at hl j hj) (kk H locs ls hw hS hl)
theorem zq_aload (hC : zC p s m args c D (tysC tc) (adC b) okC A H0 cc nL own) {i : Nat} {x : Nat} (j : Nat) (hj : L[j]? = some (i, .ref x)) (hdg : decode cc pc = .ok (.aload i, 2))  (kk : zQ p l e R s m args below meth c Q D tc b A H0 nL cells slots C Xs L (pc + 2) (.ref x :: rest)) : zQ p l e R s m args below meth c Q D tc b A H0 nL cells slots C Xs L (pc) (rest) := fun H locs ls hw hS hl => lv_aload hC.1.1 hC.1.2.1 hdg (lv_at hl j hj) (kk H locs ls hw hS hl)
theorem zq_lload (hC : zC p s m args c D (tysC tc) (adC b) okC A H0 cc nL own) {i : Nat} {x : Int64} (j : Nat) (hj : L[j]? = some (i, .long x)) (hdg : decode cc pc = .ok (.lload i, 2))  (kk : zQ p l e R s m args below meth c Q D tc b A H0 nL cells slots C Xs L (pc + 2) (.long x :: rest)) : zQ p l e R s m args below meth c Q D tc b A H0 nL cells slots C Xs L (pc) (rest) := fun H locs ls hw hS hl => lv_lload hC.1.1 hC.1.2.1 hdg (lv_at hl j hj) (kk H locs ls hw hS hl)
theorem zq_istore_n (hC : zC p s m args c D (tysC tc) (adC b) okC A H0 cc nL own) {k : Fin 4} {i : Nat} {x : Int32} (L' : List (Nat × Value)) (hdg : decode cc pc = .ok (.istore_n k, 1)) (hi : (k : Nat) = i) (hn : i < nL) (hL : (i, Value.int x) :: L.filter (fun q => !(q.1 == i) && !(q.1 + 1 == i && q.2.category == 2)) = L') (kk : zQ p l e R s m args below meth c Q D tc b A H0 nL cells slots C Xs L' (pc + 1) (rest)) : zQ p l e R s m args below meth c Q D tc b A H0 nL cells slots C Xs L (pc) (.int x :: rest) := fun H locs ls hw hS hl => lv_istore_n hC.1.1 hC.1.2.1 hdg hi hl hn hL (fun ls2 hl2 => kk H locs ls2 hw hS hl2)
theorem zq_istore (hC : zC p s m args c D (tysC tc) (adC b) okC A H0 cc nL own) {i : Nat} {x : Int32} (L' : List (Nat × Value)) (hdg : decode cc pc = .ok (.istore i, 2))  (hn : i < nL) (hL : (i, Value.int x) :: L.filter (fun q => !(q.1 == i) && !(q.1 + 1 == i && q.2.category == 2)) = L') (kk : zQ p l e R s m args below meth c Q D tc b A H0 nL cells slots C Xs L' (pc + 2) (rest)) : zQ p l e R s m args below meth c Q D tc b A H0 nL cells slots C Xs L (pc) (.int x :: rest) := fun H locs ls hw hS hl => lv_istore hC.1.1 hC.1.2.1 hdg hl hn hL (fun ls2 hl2 => kk H locs ls2 hw hS hl2)
theorem zq_astore_n (hC : zC p s m args c D (tysC tc) (adC b) okC A H0 cc nL own) {k : Fin 4} {i : Nat} {x : Nat} (L' : List (Nat × Value)) (hdg : decode cc pc = .ok (.astore_n k, 1)) (hi : (k : Nat) = i) (hn : i < nL) (hL : (i, Value.ref x) :: L.filter (fun q => !(q.1 == i) && !(q.1 + 1 == i && q.2.category == 2)) = L') (kk : zQ p l e R s m args below meth c Q D tc b A H0 nL cells slots C Xs L' (pc + 1) (rest)) : zQ p l e R s m args below meth c Q D tc b A H0 nL cells slots C Xs L (pc) (.ref x :: rest) := fun H locs ls hw hS hl => lv_astore_n hC.1.1 hC.1.2.1 hdg hi hl hn hL (fun ls2 hl2 => kk H locs ls2 hw hS hl2)
theorem zq_astore (hC : zC p s m args c D (tysC tc) (adC b) okC A H0 cc nL own) {i : Nat} {x : Nat} (L' : List (Nat × Value)) (hdg : decode cc pc = .ok (.astore i, 2))  (hn : i < nL) (hL : (i, Value.ref x) :: L.filter (fun q => !(q.1 == i) && !(q.1 + 1 == i && q.2.category == 2)) = L') (kk : zQ p l e R s m args below meth c Q D tc b A H0 nL cells slots C Xs L' (pc + 2) (rest)) : zQ p l e R s m args below meth c Q D tc b A H0 nL cells slots C Xs L (pc) (.ref x :: rest) := fun H locs ls hw hS hl => lv_astore hC.1.1 hC.1.2.1 hdg hl hn hL (fun ls2 hl2 => kk H locs ls2 hw hS hl2)
theorem zq_lstore (hC : zC p s m args c D (tysC tc) (adC b) okC A H0 cc nL own) {i : Nat} {x : Int64} (L' : List (Nat × Value)) (hdg : decode cc pc = .ok (.lstore i, 2))  (hn : i + 1 < nL) (hL : (i, Value.long x) :: L.filter (fun q => !(q.1 == i) && (!(q.1 == i + 1) && !(q.1 + 1 == i && q.2.category == 2))) = L') (kk : zQ p l e R s m args below meth c Q D tc b A H0 nL cells slots C Xs L' (pc + 2) (rest)) : zQ p l e R s m args below meth c Q D tc b A H0 nL cells slots C Xs L (pc) (.long x :: rest) := fun H locs ls hw hS hl => lv_lstore hC.1.1 hC.1.2.1 hdg hl hn hL (fun ls2 hl2 => kk H locs ls2 hw hS hl2)
theorem zq_iinc (hC : zC p s m args c D (tysC tc) (adC b) okC A H0 cc nL own) {i : Nat} {n : Int} {x : Int} (j : Nat) (L' : List (Nat × Value)) (hdg : decode cc pc = .ok (.iinc i n, 3)) (hj : L[j]? = some (i, iv x)) (hn : i < nL) (hL : (i, iv (x + n)) :: L.filter (fun q => !(q.1 == i) && !(q.1 + 1 == i && q.2.category == 2)) = L') (kk : zQ p l e R s m args below meth c Q D tc b A H0 nL cells slots C Xs L' (pc + 3) (rest)) : zQ p l e R s m args below meth c Q D tc b A H0 nL cells slots C Xs L (pc) (rest) := fun H locs ls hw hS hl => lv_iinc hC.1.1 hC.1.2.1 hdg hl hj (Int32.ofInt_add x n).symm hn hL (fun ls2 hl2 => kk H locs ls2 hw hS hl2)
theorem zq_iadd (hC : zC p s m args c D (tysC tc) (adC b) okC A H0 cc nL own) {a b9 : Int} (hdg : decode cc pc = .ok (.iadd, 1)) (kk : zQ p l e R s m args below meth c Q D tc b A H0 nL cells slots C Xs L (pc + 1) (iv (a + b9) :: rest)) : zQ p l e R s m args below meth c Q D tc b A H0 nL cells slots C Xs L (pc) (iv b9 :: iv a :: rest) := fun H locs ls hw hS hl => lv_iadd hC.1.1 hC.1.2.1 hdg (by rw [← Int32.ofInt_add]; exact kk H locs ls hw hS hl)
theorem zq_isub (hC : zC p s m args c D (tysC tc) (adC b) okC A H0 cc nL own) {a b9 : Int} (hdg : decode cc pc = .ok (.isub, 1)) (kk : zQ p l e R s m args below meth c Q D tc b A H0 nL cells slots C Xs L (pc + 1) (iv (a - b9) :: rest)) : zQ p l e R s m args below meth c Q D tc b A H0 nL cells slots C Xs L (pc) (iv b9 :: iv a :: rest) := fun H locs ls hw hS hl => lv_isub hC.1.1 hC.1.2.1 hdg (by rw [← Int32.ofInt_sub]; exact kk H locs ls hw hS hl)
theorem zq_imul (hC : zC p s m args c D (tysC tc) (adC b) okC A H0 cc nL own) {a b9 : Int} (hdg : decode cc pc = .ok (.imul, 1)) (kk : zQ p l e R s m args below meth c Q D tc b A H0 nL cells slots C Xs L (pc + 1) (iv (a * b9) :: rest)) : zQ p l e R s m args below meth c Q D tc b A H0 nL cells slots C Xs L (pc) (iv b9 :: iv a :: rest) := fun H locs ls hw hS hl => lv_imul hC.1.1 hC.1.2.1 hdg (by rw [← Int32.ofInt_mul]; exact kk H locs ls hw hS hl)
theorem zq_idiv (hC : zC p s m args c D (tysC tc) (adC b) okC A H0 cc nL own) {a b9 : Int} (hdg : decode cc pc = .ok (.idiv, 1)) (h1 : 0 ≤ a ∧ a < 2147483648) (h2 : 0 < b9 ∧ b9 < 2147483648) (kk : zQ p l e R s m args below meth c Q D tc b A H0 nL cells slots C Xs L (pc + 1) (iv (a / b9) :: rest)) : zQ p l e R s m args below meth c Q D tc b A H0 nL cells slots C Xs L (pc) (iv b9 :: iv a :: rest) := fun H locs ls hw hS hl => lv_idiv hC.1.1 hC.1.2.1 hdg (zi_ne0 h2) (by rw [zi_div h1 h2]; exact kk H locs ls hw hS hl)
theorem zq_irem (hC : zC p s m args c D (tysC tc) (adC b) okC A H0 cc nL own) {a b9 : Int} (hdg : decode cc pc = .ok (.irem, 1)) (h1 : 0 ≤ a ∧ a < 2147483648) (h2 : 0 < b9 ∧ b9 < 2147483648) (kk : zQ p l e R s m args below meth c Q D tc b A H0 nL cells slots C Xs L (pc + 1) (iv (a % b9) :: rest)) : zQ p l e R s m args below meth c Q D tc b A H0 nL cells slots C Xs L (pc) (iv b9 :: iv a :: rest) := fun H locs ls hw hS hl => lv_irem hC.1.1 hC.1.2.1 hdg (zi_ne0 h2) (by rw [zi_rem h1 h2]; exact kk H locs ls hw hS hl)
theorem zq_pop (hC : zC p s m args c D (tysC tc) (adC b) okC A H0 cc nL own) {v : Value} (hdg : decode cc pc = .ok (.pop, 1)) (hv : v.category = 1) (kk : zQ p l e R s m args below meth c Q D tc b A H0 nL cells slots C Xs L (pc + 1) (rest)) : zQ p l e R s m args below meth c Q D tc b A H0 nL cells slots C Xs L (pc) (v :: rest) := fun H locs ls hw hS hl => lv_pop hC.1.1 hC.1.2.1 hdg hv (kk H locs ls hw hS hl)
theorem zq_icmp_eq (hC : zC p s m args c D (tysC tc) (adC b) okC A H0 cc nL own) {a b9 : Int} {off : Int} (tgt : Nat) (hdg : decode cc pc = .ok (.if_icmp .eq off, 3)) (ht : (pc : Int) + off = (tgt : Int)) (h1 : -2147483648 ≤ a ∧ a < 2147483648) (h2 : -2147483648 ≤ b9 ∧ b9 < 2147483648) (kt : a = b9 → zQ p l e R s m args below meth c Q D tc b A H0 nL cells slots C Xs L (tgt) (rest)) (kf : a ≠ b9 → zQ p l e R s m args below meth c Q D tc b A H0 nL cells slots C Xs L (pc + 3) (rest)) : zQ p l e R s m args below meth c Q D tc b A H0 nL cells slots C Xs L (pc) (iv b9 :: iv a :: rest) := fun H locs ls hw hS hl => lv_icmp_eq hC.1.1 hC.1.2.1 hdg ht (fun h => kt ((zi_eq h1 h2).mp h) H locs ls hw hS hl) (fun h => kf (fun q => h ((zi_eq h1 h2).mpr q)) H locs ls hw hS hl)
theorem zq_icmp_ne (hC : zC p s m args c D (tysC tc) (adC b) okC A H0 cc nL own) {a b9 : Int} {off : Int} (tgt : Nat) (hdg : decode cc pc = .ok (.if_icmp .ne off, 3)) (ht : (pc : Int) + off = (tgt : Int)) (h1 : -2147483648 ≤ a ∧ a < 2147483648) (h2 : -2147483648 ≤ b9 ∧ b9 < 2147483648) (kt : a ≠ b9 → zQ p l e R s m args below meth c Q D tc b A H0 nL cells slots C Xs L (tgt) (rest)) (kf : a = b9 → zQ p l e R s m args below meth c Q D tc b A H0 nL cells slots C Xs L (pc + 3) (rest)) : zQ p l e R s m args below meth c Q D tc b A H0 nL cells slots C Xs L (pc) (iv b9 :: iv a :: rest) := fun H locs ls hw hS hl => lv_icmp_ne hC.1.1 hC.1.2.1 hdg ht (fun h => kt (fun q => h ((zi_eq h1 h2).mpr q)) H locs ls hw hS hl) (fun h => kf ((zi_eq h1 h2).mp h) H locs ls hw hS hl)
theorem zq_icmp_lt (hC : zC p s m args c D (tysC tc) (adC b) okC A H0 cc nL own) {a b9 : Int} {off : Int} (tgt : Nat) (hdg : decode cc pc = .ok (.if_icmp .lt off, 3)) (ht : (pc : Int) + off = (tgt : Int)) (h1 : -2147483648 ≤ a ∧ a < 2147483648) (h2 : -2147483648 ≤ b9 ∧ b9 < 2147483648) (kt : a < b9 → zQ p l e R s m args below meth c Q D tc b A H0 nL cells slots C Xs L (tgt) (rest)) (kf : b9 ≤ a → zQ p l e R s m args below meth c Q D tc b A H0 nL cells slots C Xs L (pc + 3) (rest)) : zQ p l e R s m args below meth c Q D tc b A H0 nL cells slots C Xs L (pc) (iv b9 :: iv a :: rest) := fun H locs ls hw hS hl => lv_icmp_lt hC.1.1 hC.1.2.1 hdg ht (fun h => kt ((zi_lt h1 h2).mp h) H locs ls hw hS hl) (fun h => kf (Int.not_lt.mp fun q => h ((zi_lt h1 h2).mpr q)) H locs ls hw hS hl)
theorem zq_icmp_ge (hC : zC p s m args c D (tysC tc) (adC b) okC A H0 cc nL own) {a b9 : Int} {off : Int} (tgt : Nat) (hdg : decode cc pc = .ok (.if_icmp .ge off, 3)) (ht : (pc : Int) + off = (tgt : Int)) (h1 : -2147483648 ≤ a ∧ a < 2147483648) (h2 : -2147483648 ≤ b9 ∧ b9 < 2147483648) (kt : b9 ≤ a → zQ p l e R s m args below meth c Q D tc b A H0 nL cells slots C Xs L (tgt) (rest)) (kf : a < b9 → zQ p l e R s m args below meth c Q D tc b A H0 nL cells slots C Xs L (pc + 3) (rest)) : zQ p l e R s m args below meth c Q D tc b A H0 nL cells slots C Xs L (pc) (iv b9 :: iv a :: rest) := fun H locs ls hw hS hl => lv_icmp_ge hC.1.1 hC.1.2.1 hdg ht (fun h => kt ((zi_le h2 h1).mp h) H locs ls hw hS hl) (fun h => kf (Int.not_le.mp fun q => h ((zi_le h2 h1).mpr q)) H locs ls hw hS hl)
theorem zq_icmp_gt (hC : zC p s m args c D (tysC tc) (adC b) okC A H0 cc nL own) {a b9 : Int} {off : Int} (tgt : Nat) (hdg : decode cc pc = .ok (.if_icmp .gt off, 3)) (ht : (pc : Int) + off = (tgt : Int)) (h1 : -2147483648 ≤ a ∧ a < 2147483648) (h2 : -2147483648 ≤ b9 ∧ b9 < 2147483648) (kt : b9 < a → zQ p l e R s m args below meth c Q D tc b A H0 nL cells slots C Xs L (tgt) (rest)) (kf : a ≤ b9 → zQ p l e R s m args below meth c Q D tc b A H0 nL cells slots C Xs L (pc + 3) (rest)) : zQ p l e R s m args below meth c Q D tc b A H0 nL cells slots C Xs L (pc) (iv b9 :: iv a :: rest) := fun H locs ls hw hS hl => lv_icmp_gt hC.1.1 hC.1.2.1 hdg ht (fun h => kt ((zi_lt h2 h1).mp h) H locs ls hw hS hl) (fun h => kf (Int.not_lt.mp fun q => h ((zi_lt h2 h1).mpr q)) H locs ls hw hS hl)
theorem zq_icmp_le (hC : zC p s m args c D (tysC tc) (adC b) okC A H0 cc nL own) {a b9 : Int} {off : Int} (tgt : Nat) (hdg : decode cc pc = .ok (.if_icmp .le off, 3)) (ht : (pc : Int) + off = (tgt : Int)) (h1 : -2147483648 ≤ a ∧ a < 2147483648) (h2 : -2147483648 ≤ b9 ∧ b9 < 2147483648) (kt : a ≤ b9 → zQ p l e R s m args below meth c Q D tc b A H0 nL cells slots C Xs L (tgt) (rest)) (kf : b9 < a → zQ p l e R s m args below meth c Q D tc b A H0 nL cells slots C Xs L (pc + 3) (rest)) : zQ p l e R s m args below meth c Q D tc b A H0 nL cells slots C Xs L (pc) (iv b9 :: iv a :: rest) := fun H locs ls hw hS hl => lv_icmp_le hC.1.1 hC.1.2.1 hdg ht (fun h => kt ((zi_le h1 h2).mp h) H locs ls hw hS hl) (fun h => kf (Int.not_le.mp fun q => h ((zi_le h1 h2).mpr q)) H locs ls hw hS hl)
theorem zq_if_eq (hC : zC p s m args c D (tysC tc) (adC b) okC A H0 cc nL own) {a : Int} {off : Int} (tgt : Nat) (hdg : decode cc pc = .ok (.ifCond .eq off, 3)) (ht : (pc : Int) + off = (tgt : Int)) (h1 : -2147483648 ≤ a ∧ a < 2147483648) (kt : a = 0 → zQ p l e R s m args below meth c Q D tc b A H0 nL cells slots C Xs L (tgt) (rest)) (kf : a ≠ 0 → zQ p l e R s m args below meth c Q D tc b A H0 nL cells slots C Xs L (pc + 3) (rest)) : zQ p l e R s m args below meth c Q D tc b A H0 nL cells slots C Xs L (pc) (iv a :: rest) := fun H locs ls hw hS hl => lv_if_eq hC.1.1 hC.1.2.1 hdg ht (fun h => kt ((zi_eq h1 zi_r0).mp h) H locs ls hw hS hl) (fun h => kf (fun q => h ((zi_eq h1 zi_r0).mpr q)) H locs ls hw hS hl)
theorem zq_if_ne (hC : zC p s m args c D (tysC tc) (adC b) okC A H0 cc nL own) {a : Int} {off : Int} (tgt : Nat) (hdg : decode cc pc = .ok (.ifCond .ne off, 3)) (ht : (pc : Int) + off = (tgt : Int)) (h1 : -2147483648 ≤ a ∧ a < 2147483648) (kt : a ≠ 0 → zQ p l e R s m args below meth c Q D tc b A H0 nL cells slots C Xs L (tgt) (rest)) (kf : a = 0 → zQ p l e R s m args below meth c Q D tc b A H0 nL cells slots C Xs L (pc + 3) (rest)) : zQ p l e R s m args below meth c Q D tc b A H0 nL cells slots C Xs L (pc) (iv a :: rest) := fun H locs ls hw hS hl => lv_if_ne hC.1.1 hC.1.2.1 hdg ht (fun h => kt (fun q => h ((zi_eq h1 zi_r0).mpr q)) H locs ls hw hS hl) (fun h => kf ((zi_eq h1 zi_r0).mp h) H locs ls hw hS hl)
theorem zq_if_lt (hC : zC p s m args c D (tysC tc) (adC b) okC A H0 cc nL own) {a : Int} {off : Int} (tgt : Nat) (hdg : decode cc pc = .ok (.ifCond .lt off, 3)) (ht : (pc : Int) + off = (tgt : Int)) (h1 : -2147483648 ≤ a ∧ a < 2147483648) (kt : a < 0 → zQ p l e R s m args below meth c Q D tc b A H0 nL cells slots C Xs L (tgt) (rest)) (kf : 0 ≤ a → zQ p l e R s m args below meth c Q D tc b A H0 nL cells slots C Xs L (pc + 3) (rest)) : zQ p l e R s m args below meth c Q D tc b A H0 nL cells slots C Xs L (pc) (iv a :: rest) := fun H locs ls hw hS hl => lv_if_lt hC.1.1 hC.1.2.1 hdg ht (fun h => kt ((zi_lt h1 zi_r0).mp h) H locs ls hw hS hl) (fun h => kf (Int.not_lt.mp fun q => h ((zi_lt h1 zi_r0).mpr q)) H locs ls hw hS hl)
theorem zq_if_ge (hC : zC p s m args c D (tysC tc) (adC b) okC A H0 cc nL own) {a : Int} {off : Int} (tgt : Nat) (hdg : decode cc pc = .ok (.ifCond .ge off, 3)) (ht : (pc : Int) + off = (tgt : Int)) (h1 : -2147483648 ≤ a ∧ a < 2147483648) (kt : 0 ≤ a → zQ p l e R s m args below meth c Q D tc b A H0 nL cells slots C Xs L (tgt) (rest)) (kf : a < 0 → zQ p l e R s m args below meth c Q D tc b A H0 nL cells slots C Xs L (pc + 3) (rest)) : zQ p l e R s m args below meth c Q D tc b A H0 nL cells slots C Xs L (pc) (iv a :: rest) := fun H locs ls hw hS hl => lv_if_ge hC.1.1 hC.1.2.1 hdg ht (fun h => kt ((zi_le zi_r0 h1).mp h) H locs ls hw hS hl) (fun h => kf (Int.not_le.mp fun q => h ((zi_le zi_r0 h1).mpr q)) H locs ls hw hS hl)
theorem zq_if_gt (hC : zC p s m args c D (tysC tc) (adC b) okC A H0 cc nL own) {a : Int} {off : Int} (tgt : Nat) (hdg : decode cc pc = .ok (.ifCond .gt off, 3)) (ht : (pc : Int) + off = (tgt : Int)) (h1 : -2147483648 ≤ a ∧ a < 2147483648) (kt : 0 < a → zQ p l e R s m args below meth c Q D tc b A H0 nL cells slots C Xs L (tgt) (rest)) (kf : a ≤ 0 → zQ p l e R s m args below meth c Q D tc b A H0 nL cells slots C Xs L (pc + 3) (rest)) : zQ p l e R s m args below meth c Q D tc b A H0 nL cells slots C Xs L (pc) (iv a :: rest) := fun H locs ls hw hS hl => lv_if_gt hC.1.1 hC.1.2.1 hdg ht (fun h => kt ((zi_lt zi_r0 h1).mp h) H locs ls hw hS hl) (fun h => kf (Int.not_lt.mp fun q => h ((zi_lt zi_r0 h1).mpr q)) H locs ls hw hS hl)
theorem zq_if_le (hC : zC p s m args c D (tysC tc) (adC b) okC A H0 cc nL own) {a : Int} {off : Int} (tgt : Nat) (hdg : decode cc pc = .ok (.ifCond .le off, 3)) (ht : (pc : Int) + off = (tgt : Int)) (h1 : -2147483648 ≤ a ∧ a < 2147483648) (kt : a ≤ 0 → zQ p l e R s m args below meth c Q D tc b A H0 nL cells slots C Xs L (tgt) (rest)) (kf : 0 < a → zQ p l e R s m args below meth c Q D tc b A H0 nL cells slots C Xs L (pc + 3) (rest)) : zQ p l e R s m args below meth c Q D tc b A H0 nL cells slots C Xs L (pc) (iv a :: rest) := fun H locs ls hw hS hl => lv_if_le hC.1.1 hC.1.2.1 hdg ht (fun h => kt ((zi_le h1 zi_r0).mp h) H locs ls hw hS hl) (fun h => kf (Int.not_le.mp fun q => h ((zi_le h1 zi_r0).mpr q)) H locs ls hw hS hl)
theorem zq_goto (hC : zC p s m args c D (tysC tc) (adC b) okC A H0 cc nL own) {off : Int} (tgt : Nat) (hdg : decode cc pc = .ok (.goto off, 3)) (ht : (pc : Int) + off = (tgt : Int)) (kk : zQ p l e R s m args below meth c Q D tc b A H0 nL cells slots C Xs L (tgt) (rest)) : zQ p l e R s m args below meth c Q D tc b A H0 nL cells slots C Xs L (pc) (rest) := fun H locs ls hw hS hl => lv_goto hC.1.1 hC.1.2.1 hdg ht (kk H locs ls hw hS hl)
theorem zq_perm {L' : List (Nat × Value)} (ks : List Nat) (h : lv_pick L ks = L') (kk : zQ p l e R s m args below meth c Q D tc b A H0 nL cells slots C Xs L' (pc) (rest)) : zQ p l e R s m args below meth c Q D tc b A H0 nL cells slots C Xs L (pc) (rest) := fun H locs ls hw hS hl => kk H locs ls hw hS (lv_sub hl ks h)
theorem zq_widen {k n : Nat} (h1 : cells ≤ k) (h2 : slots ≤ n) (kk : zQ p l e R s m args below meth c Q D tc b A H0 nL k n C Xs L (pc) (rest)) : zQ p l e R s m args below meth c Q D tc b A H0 nL cells slots C Xs L (pc) (rest) := fun H locs ls hw hS hl => W.widen h1 h2 (kk H locs ls hw hS hl)
theorem zq_conv {C2 : zM} {Xs2 : List (Nat × (Nat → Int))} {L2 : List (Nat × Value)} {St2 : List Value} (kk : zQ p l e R s m args below meth c Q D tc b A H0 nL cells slots C2 Xs2 L2 pc St2) (hC : C = C2) (hX : Xs = Xs2) (hL : L = L2) (hSt : St = St2) : zQ p l e R s m args below meth c Q D tc b A H0 nL cells slots C Xs L pc St := by subst hC; subst hX; subst hL; subst hSt; exact kk
theorem zq_drop (kk : zQ p l e R s m args below meth c Q D tc b A H0 nL cells slots C [] L pc St) : zQ p l e R s m args below meth c Q D tc b A H0 nL cells slots C Xs L pc St := fun H locs ls hw hS hl => kk H locs ls ⟨hw.1, fun x hx => absurd hx List.not_mem_nil⟩ hS hl
/-- what is shifted out of the script is any int -/
theorem zq_ishr_any (hC : zC p s m args c D (tysC tc) (adC b) okC A H0 cc nL own) {x y : Int32} (hdg : decode cc pc = .ok (.ishr, 1)) (kk : ∀ z : Int32, zQ p l e R s m args below meth c Q D tc b A H0 nL cells slots C Xs L (pc + 1) (.int z :: rest)) : zQ p l e R s m args below meth c Q D tc b A H0 nL cells slots C Xs L pc (.int y :: .int x :: rest) := fun H locs ls hw hS hl => lv_ishr hC.1.1 hC.1.2.1 hdg (kk _ H locs ls hw hS hl)
theorem zq_ishr (hC : zC p s m args c D (tysC tc) (adC b) okC A H0 cc nL own) {x y : Int32} (hdg : decode cc pc = .ok (.ishr, 1)) (kk : zQ p l e R s m args below meth c Q D tc b A H0 nL cells slots C Xs L (pc + 1) (.int (x >>> (y &&& 31)) :: rest)) : zQ p l e R s m args below meth c Q D tc b A H0 nL cells slots C Xs L pc (.int y :: .int x :: rest) := fun H locs ls hw hS hl => lv_ishr hC.1.1 hC.1.2.1 hdg (kk H locs ls hw hS hl)
theorem zq_ishl (hC : zC p s m args c D (tysC tc) (adC b) okC A H0 cc nL own) {x y : Int32} (hdg : decode cc pc = .ok (.ishl, 1)) (kk : zQ p l e R s m args below meth c Q D tc b A H0 nL cells slots C Xs L (pc + 1) (.int (x <<< (y &&& 31)) :: rest)) : zQ p l e R s m args below meth c Q D tc b A H0 nL cells slots C Xs L pc (.int y :: .int x :: rest) := fun H locs ls hw hS hl => lv_ishl hC.1.1 hC.1.2.1 hdg (kk H locs ls hw hS hl)
theorem zq_iand (hC : zC p s m args c D (tysC tc) (adC b) okC A H0 cc nL own) {x y : Int32} (hdg : decode cc pc = .ok (.iand, 1)) (kk : zQ p l e R s m args below meth c Q D tc b A H0 nL cells slots C Xs L (pc + 1) (.int (x &&& y) :: rest)) : zQ p l e R s m args below meth c Q D tc b A H0 nL cells slots C Xs L pc (.int y :: .int x :: rest) := fun H locs ls hw hS hl => lv_iand hC.1.1 hC.1.2.1 hdg (kk H locs ls hw hS hl)
theorem zq_ior (hC : zC p s m args c D (tysC tc) (adC b) okC A H0 cc nL own) {x y : Int32} (hdg : decode cc pc = .ok (.ior, 1)) (kk : zQ p l e R s m args below meth c Q D tc b A H0 nL cells slots C Xs L (pc + 1) (.int (x ||| y) :: rest)) : zQ p l e R s m args below meth c Q D tc b A H0 nL cells slots C Xs L pc (.int y :: .int x :: rest) := fun H locs ls hw hS hl => lv_ior hC.1.1 hC.1.2.1 hdg (kk H locs ls hw hS hl)
theorem zq_lcmp (hC : zC p s m args c D (tysC tc) (adC b) okC A H0 cc nL own) {x y : Int64} (hxy : x = y) (hdg : decode cc pc = .ok (.lcmp, 1)) (kk : zQ p l e R s m args below meth c Q D tc b A H0 nL cells slots C Xs L (pc + 1) (iv 0 :: rest)) : zQ p l e R s m args below meth c Q D tc b A H0 nL cells slots C Xs L pc (.long y :: .long x :: rest) := by
  intro H locs ls hw hS hl
  subst hxy
  refine W.lcmp hC.1.1 hC.1.2.1 hdg ?_
  rw [show lg_cmp x x = Int32.ofInt 0 by simp [lg_cmp]]
  exact kk H locs ls hw hS hl
theorem zq_newarr (hC : zC p s m args c D (tysC tc) (adC b) okC A H0 cc nL own) (hR : cells + 1 ≤ R.cells ∧ slots + 12 ≤ R.slots) (hdg : decode cc pc = .ok (.newarray .int, 2))
    (kk : ∀ w : Nat, (∀ x ∈ Xs, x.1 ≠ w) → zQ p l e R s m args below meth c Q D tc b A H0 nL (cells + 1) (slots + 12) C ((w, fun _ => 0) :: Xs) L (pc + 2) (.ref w :: rest)) : zQ p l e R s m args below meth c Q D tc b A H0 nL cells slots C Xs L pc (iv 12 :: rest) := by
  intro H locs ls hw hS hl
  have hnn : ¬ Int32.ofInt (12 : Int) < 0 := by decide
  have hN9 : (Int32.ofInt (12 : Int)).toNatClampNeg = 12 := by decide
  have hbig := hw.big
  refine va_newaK (atype := .int) hC.1.1 hC.1.2.1 (hC.1.2.2.2.2 _ zwint) rfl hdg rfl hnn hN9 (show 12 * 4 ≤ 536870912 by omega) hR.1 hR.2 rfl fun H1 cA e1 z1 o1 hAr hNm => ?_
  have hcA : cA = tc 0 := Option.some.inj (hNm.symm.trans (hC.2.1.2 0 _ rfl).2)
  subst hcA
  refine kk H.size (fun x hx e9 => by have := hw.lt hx; omega) H1 locs ls ⟨hw.1.kept (fun f i ho => o1 _ (hw.1 f i ho).lt), fun x hx => ?_⟩ ⟨Nat.le_trans hS.1 (by omega), fun x h1 h2 => (o1 x (Nat.lt_of_lt_of_le h1 hS.1)).trans (hS.2.1 x h1 h2), hS.2.2⟩ hl
  rcases List.mem_cons.mp hx with rfl | hx
  · refine ⟨hbig, ?_⟩
    show H1[H.size]? = some (vp_cell (tc 0) (12, .inl (fun k => Int32.ofInt 0)))
    rw [e1, vp_cell_i]
    rfl
  · exact ⟨(hw.2 x hx).1, (o1 _ (hw.lt hx)).trans (hw.2 x hx).2⟩
theorem zq_xload (hC : zC p s m args c D (tysC tc) (adC b) okC A H0 cc nL own) {w : Nat} {f : Nat → Int} (hx : (w, f) ∈ Xs) {a : Int} (k : Nat) (hk : a = (k : Int)) (h1 : k < 12) {x : Int} (hfx : f k = x) (hdg : decode cc pc = .ok (.iaload, 1)) (kk : zQ p l e R s m args below meth c Q D tc b A H0 nL cells slots C Xs L (pc + 1) (iv x :: rest)) : zQ p l e R s m args below meth c Q D tc b A H0 nL cells slots C Xs L pc (iv a :: .ref w :: rest) := by
  subst hfx
  intro H locs ls hw hS hl
  have hP : va_P D vwCl [(w, .inl (tc 0, 12, .inl (fun k => Int32.ofInt (f k))))] H := by
    intro j q hj
    match j, hj with
    | 0, hj => cases hj; exact (hw.2 _ hx).2
    | j + 1, hj => simp at hj
  refine va_iald hC.1.1 hC.1.2.1 hC.2.1 hP 0 0 rfl rfl (zi_in (n := 12) (by omega) (by omega)) hdg ?_
  rw [zi_nat (by omega), show a.toNat = k by omega]
  exact kk H locs ls hw hS hl
/-- a row of ints of the frame is written -/
theorem zq_xstore (hC : zC p s m args c D (tysC tc) (adC b) okC A H0 cc nL own) (hA : ∀ q, b ≤ q → A q) {w : Nat} {f f' : Nat → Int} {Xs' : List (Nat × (Nat → Int))} (hx : (w, f) ∈ Xs) {a x : Int} (k : Nat) (hk : a = (k : Int)) (h1 : k < 12) (hf : ∀ j, f' j = if j = k then x else f j) (hX' : ∀ y ∈ Xs', y = (w, f') ∨ (y ∈ Xs ∧ y.1 ≠ w)) (hdg : decode cc pc = .ok (.iastore, 1)) (kk : zQ p l e R s m args below meth c Q D tc b A H0 nL cells slots C Xs' L (pc + 1) rest) : zQ p l e R s m args below meth c Q D tc b A H0 nL cells slots C Xs L pc (iv x :: iv a :: .ref w :: rest) := by
  intro H locs ls hw hS hl
  subst hk
  have hb9 : b + 181 ≤ w := (hw.2 _ hx).1
  have hw0 : H[w]? = some (vp_cell (tc 0) (12, .inl (fun k => Int32.ofInt (f k)))) := (hw.2 _ hx).2
  have hin := zi_in (a := (k : Int)) (n := 12) (by omega) (by omega)
  refine W.iast hC.1.1 hC.1.2.1 hw0 ((hC.2.1.2 0 (tc 0, .int) rfl).1 12 (fun j => .int (Int32.ofInt (f j)))) (fun q => by cases q) (by show ¬ (Int32.ofInt (k : Int) < 0 ∨ (arrV _ _ _).slots.size ≤ _); rw [arrV_size]; exact hin) rfl rfl hdg fun H1 e z oq => ?_
  refine kk H1 _ ls ⟨hw.1.kept (fun g i ho => oq _ (fun e9 => by have e10 : adC b g i = w := e9; have := adC_lt (b := b) ho; have h8 : b + 181 ≤ w := hb9; omega)), fun y hy => ?_⟩ (hS.put z oq (hA _ (by have h8 : b + 181 ≤ w := hb9; omega))) hl
  rcases hX' y hy with rfl | ⟨hy1, hy2⟩
  · refine ⟨hb9, ?_⟩
    show H1[w]? = some (vp_cell (tc 0) (12, .inl (fun k => Int32.ofInt (f' k))))
    rw [e]
    rw [vp_cell_i, vp_cell_i, arrV_store]
    congr 2
    funext q
    rw [zi_nat (by omega), Int.toNat_natCast, hf]
    by_cases hq : q = k
    · subst hq
      simp [updV]
    · simp [updV, hq]
  · exact ⟨(hw.2 y hy1).1, (oq _ hy2).trans (hw.2 y hy1).2⟩
variable {y : MethodName} {bytes : ByteArray} {maxL index n d : Nat} {As : List Value}
/-- a call of the class that answers -/
theorem zq_call (hC : zC p s m args c D (tysC tc) (adC b) okC A H0 cc nL own) (hX : zXf A s H0) (hL : zLV own index y bytes maxL (some .int) n) {T : u_T} {N : Nat} (hci : vwCl[8]? = some (y.cls, T, N)) {k : Nat} {r r2 : Int} (hM : zMx l y bytes maxL (some .int) d D (tysC tc) (adC b) okC (tmC (adC b) tc) (.ref (adC b 0 0) :: As) C k r C') (hk : k = 0) (hrr : r = r2) (hst : St = As.reverse ++ .ref (adC b 0 0) :: rest) (hn : As.length = n) (hW : (rest.map fun v => v.category).sum ≤ 8) (hR : d + 1 ≤ R.frames ∧ 8 + (maxL + 11) + 40 * d ≤ R.locals) (hf : cells + 1 ≤ R.cells ∧ slots + 6 ≤ R.slots) (hdg : decode cc pc = .ok (.invokevirtual index, 3)) (kk : zQ p l e R s m args below meth c Q D tc b A H0 nL (cells + 1) (slots + 6) C' Xs L (pc + 3) (iv r2 :: rest)) : zQ p l e R s m args below meth c Q D tc b A H0 nL cells slots C Xs L pc St := by
  intro H locs ls hw hS hl
  subst hst
  subst hrr
  have hts := hC.1.2.2.2.2
  have ht : tmC (adC b) tc 0 0 = .inl (8, [some (.ref (adC b 1 (0))), some (.ref (adC b 12 (0))), some (.ref (adC b 12 (1))), some (.ref (adC b 9 (12)))]) := tmC_0 (adC b) tc 0
  have cw : CallW R s args own y.cls index y bytes maxL (some .int) (zws y bytes maxL (some .int)) (zrm d 1 6) 1 6 n := ⟨z_callB hC (fun w h => hL.1 w (by simp only [List.mem_cons, List.not_mem_nil, or_false] at h ⊢; rcases h with h | h | h <;> simp [h])) hL.2 hR, hts _ (hL.1 _ (by simp)), hts _ (hL.1 _ (by simp))⟩
  have hfree := z_free hC hS
  have hXH : zXf (zA (adC b) okC H.size) s H := zXf.narrow (A := A) ⟨hX.1, hX.2.1.kept (fun a h1 h2 => hS.2.1 a h1 h2), hX.2.2.kept (fun a h1 h2 => hS.2.1 a h1 h2)⟩ hfree
  refine vx_calli (vx_runV (As := As) (rest := rest) hC.1 (hM H.size) cw ⟨zPreX_blind, z_recv hC hw.1 ht hci (okC_0 (by omega)), fun U hU hW2 => ⟨rfl, by rw [hU], by rw [hU]; exact hw.1, va_K.moved hW2.alike hC.2.1, znl_moved hW2 hC.2.2.2.2.2, by rw [hU]; exact hXH.warm hW2⟩⟩ rfl hn hl.1 rfl (lv_room hW) hdg hf) hS (fun q _ h => hfree q h) hfree (fun q _ h => hfree q h) ?_ ?_
  · intro E ce q9 u t H1 locs1 ht1 hvm hk9
    exact absurd hk hk9
  · intro r9 u t H1 locs1 ht1 hvm hr hB hz1 hk1 hS1
    obtain ⟨-, rfl⟩ := hr
    rw [ht1] at hB
    exact kk H1 locs1 ls (hw.call hB hk1) hS1 hl
theorem zq_calll (hC : zC p s m args c D (tysC tc) (adC b) okC A H0 cc nL own) (hL : zLV own index y bytes maxL (some .long) n) {T : u_T} {N : Nat} (hci : vwCl[8]? = some (y.cls, T, N)) {r : Int64} (hM : zMl l y bytes maxL (some .long) d D (tysC tc) (adC b) okC (tmC (adC b) tc) (.ref (adC b 0 0) :: As) C r C' 0 0) (hst : St = As.reverse ++ .ref (adC b 0 0) :: rest) (hn : As.length = n) (hW : (rest.map fun v => v.category).sum ≤ 8) (hR : d + 1 ≤ R.frames ∧ 8 + (maxL + 11) + 40 * d ≤ R.locals) (hf : cells + 0 ≤ R.cells ∧ slots + 0 ≤ R.slots) (hdg : decode cc pc = .ok (.invokevirtual index, 3)) (kk : zQ p l e R s m args below meth c Q D tc b A H0 nL cells slots C' Xs L (pc + 3) (.long r :: rest)) : zQ p l e R s m args below meth c Q D tc b A H0 nL cells slots C Xs L pc St := by
  intro H locs ls hw hS hl
  subst hst
  refine va_calll (z_runV hC hL (hM H.size) (tmC_0 (adC b) tc 0) hci (okC_0 (by omega)) hn hW hR hf hdg hw.1 hl.1) hS (fun q _ h => z_free hC hS q h) (z_free hC hS) (fun r2 u t H1 locs1 ht1 hvm hr hB hz1 hk1 hS1 => ?_)
  subst hr
  rw [ht1] at hB
  exact kk H1 locs1 ls (hw.call hB hk1) hS1 hl
end ZQR
/-! the law's two small methods -/
def blw (v : Int32) (n : Int) : Int := (v &&& Int32.ofInt 2147483647).toInt % n
theorem blw_pos (v : Int32) : 0 ≤ (v &&& Int32.ofInt 2147483647).toInt ∧ (v &&& Int32.ofInt 2147483647).toInt < 2147483648 := by
  have h1 : (v &&& Int32.ofInt 2147483647).toInt = (v.toBitVec &&& 2147483647#32).toInt := rfl
  have h2 : (v.toBitVec &&& 2147483647#32).toNat ≤ 2147483647 := by rw [BitVec.toNat_and]; exact Nat.and_le_right
  rw [h1, BitVec.toInt_eq_toNat_of_lt (by omega)]
  omega
theorem blw_bd (v : Int32) {n : Int} (hn : 0 < n) : 0 ≤ blw v n ∧ blw v n < n := ⟨Int.emod_nonneg _ (by omega), Int.emod_lt_of_pos _ hn⟩
section ZSM
variable {p : Program} {l : Launch} {e : Env} {R : Room} {s : State} {m : MethodId} {args : Array Value} {below : List Frame} {meth : Method} {c : Code} {Q : State → Prop} {D : va_G} {tys : List (ClassId × FieldType)} {ad : Nat → Nat → Nat} {ok : Nat → Nat → Prop} {tm : Nat → Nat → zT} {A : Nat → Prop} {H0 : Heap} {nL : Nat} {cells slots : Nat} {M : zM} {L : List (Nat × Value)} {pc : Nat} {rest : List Value} {cc : ByteArray} {own : String}
theorem z_ldci (hC : zC p s m args c D tys ad ok A H0 cc nL own) {index : Nat} {v : Int32} (hdg : decode cc pc = .ok (.ldc index, 2)) (hk : Cond.constant own index v ∈ zbig) (kk : zV p l e R s m args below meth c Q D ad ok tm A H0 nL cells slots M L (pc + 2) (.int v :: rest)) : zV p l e R s m args below meth c Q D ad ok tm A H0 nL cells slots M L pc rest := fun H locs ls hw hS hl => lv_ldc hC.1.1 hC.1.2.1 hC.1.2.2.2.1 (hC.1.2.2.2.2 _ hk) hdg (kk H locs ls hw hS hl)
theorem z_iandx (hC : zC p s m args c D tys ad ok A H0 cc nL own) {x y : Int32} (hdg : decode cc pc = .ok (.iand, 1)) (kk : zV p l e R s m args below meth c Q D ad ok tm A H0 nL cells slots M L (pc + 1) (.int (x &&& y) :: rest)) : zV p l e R s m args below meth c Q D ad ok tm A H0 nL cells slots M L pc (.int y :: .int x :: rest) := fun H locs ls hw hS hl => lv_iand hC.1.1 hC.1.2.1 hdg (kk H locs ls hw hS hl)
theorem z_sld (hC : zC p s m args c D tys ad ok A H0 cc nL own) {sb Ls : Nat} {xs : Nat → Int32} (hX : va_X sb Ls xs s H0) (hbl : sb < H0.size) (hbA : ¬ A sb) {a : Int} (k : Nat) (hk : a = (k : Int)) (h1 : k < Ls) (h2 : Ls < 100000) (hdg : decode cc pc = .ok (.iaload, 1)) (kk : zV p l e R s m args below meth c Q D ad ok tm A H0 nL cells slots M L (pc + 1) (iv (xs k).toInt :: rest)) : zV p l e R s m args below meth c Q D ad ok tm A H0 nL cells slots M L pc (iv a :: .ref sb :: rest) := by
  intro H locs ls hw hS hl
  subst hk
  refine va_sld hC.1.1 hC.1.2.1 hX hbl hbA hS (zi_in (n := Ls) (by omega) (by omega)) hdg ?_
  rw [zi_nat (by omega), Int.toNat_natCast]
  have := kk H locs ls hw hS hl
  rw [show iv (xs k).toInt = .int (xs k) by show Value.int (Int32.ofInt (xs k).toInt) = _; rw [Int32.ofInt_toInt]] at this
  exact this
theorem z_slen (hC : zC p s m args c D tys ad ok A H0 cc nL own) {sb Ls : Nat} {xs : Nat → Int32} (hX : va_X sb Ls xs s H0) (hbl : sb < H0.size) (hbA : ¬ A sb) (hdg : decode cc pc = .ok (.arraylength, 1)) (kk : zV p l e R s m args below meth c Q D ad ok tm A H0 nL cells slots M L (pc + 1) (iv (Ls : Int) :: rest)) : zV p l e R s m args below meth c Q D ad ok tm A H0 nL cells slots M L pc (.ref sb :: rest) := by
  intro H locs ls hw hS hl
  refine va_slen hC.1.1 hC.1.2.1 hX hbl hbA hS hdg ?_
  exact kk H locs ls hw hS hl
end ZSM
set_option maxRecDepth 100000 in
theorem k_L_below (l : Launch) (D : va_G) (tys : List (ClassId × FieldType)) (ad : Nat → Nat → Nat) (ok : Nat → Nat → Prop) (tm : Nat → Nat → zT) (hI : zI ad ok) (M : zM) (v : Int32) (n : Int) (hn : 0 < n ∧ n < 2147483648) : zMi l yL_below cL_below 2 (some .int) 0 D tys ad ok tm [.int v, iv n] M (blw v n) M 0 0 := by
  refine z_met hI (plainFor_of_name (by decide)) (Nat.le_of_ble_eq_true rfl) ?_
  intro p e s m args below meth c hC hret hlk
  refine z_conv (L2 := [(0, .int v), (1, iv n)]) ?_ rfl rfl rfl
  refine z_iload_n hC 0 rfl dL_below_0 rfl ?_
  refine z_ldci hC (v := Int32.ofInt 2147483647) dL_below_1 (zin 439 (by decide +kernel) rfl) ?_
  refine z_iandx hC dL_below_3 ?_
  refine z_iload_n hC 1 rfl dL_below_4 rfl ?_
  refine z_conv (St2 := [iv n, iv (v &&& Int32.ofInt 2147483647).toInt]) ?_ rfl rfl (by rw [show iv (v &&& Int32.ofInt 2147483647).toInt = .int (v &&& Int32.ofInt 2147483647) from congrArg Value.int (Int32.ofInt_toInt _)])
  refine z_irem hC dL_below_5 (blw_pos v) hn ?_
  exact z_iret hC hret hlk rfl rfl rfl dL_below_6
def cellv (xs : Nat → Int32) (Ls k : Nat) : Int := if k < Ls then (xs k).toInt else 790386105 * ((k : Int) + 3)
abbrev zPreS (D : va_G) (tys : List (ClassId × FieldType)) (ad : Nat → Nat → Nat) (ok : Nat → Nat → Prop) (tm : Nat → Nat → zT) (sb Ls : Nat) (xs : Nat → Int32) (av : List Value) (M : zM) (sz : Nat) : Array Value → State → Prop := va_Pc av (fun U => U.heap.size = sz ∧ zH D ad ok tm M U.heap ∧ va_K D vwCl tys U ∧ (∀ w ∈ znl, va_Nw w U) ∧ va_X sb Ls xs U U.heap ∧ sb < sz ∧ ¬ zA ad ok sz sb)
theorem zPreS_blind {D : va_G} {tys : List (ClassId × FieldType)} {ad : Nat → Nat → Nat} {ok : Nat → Nat → Prop} {tm : Nat → Nat → zT} {sb Ls : Nat} {xs : Nat → Int32} {av : List Value} {M : zM} {sz : Nat} : FrameBlind (zPreS D tys ad ok tm sb Ls xs av M sz) := fun a U g mk q => by
  obtain ⟨q0, q1, qP, qK, qN, qX, q2⟩ := q
  exact ⟨q0, q1, qP, va_K.moved (u := U) (U := U.calling g mk a) (Vm.Alike.refl U.vm) qK, znl_same (u := U) (U := U.calling g mk a) rfl qN, va_X.moved (u := U) (U := U.calling g mk a) (Vm.Alike.refl U.vm) qX, q2⟩
set_option maxRecDepth 100000 in
theorem k_L_cell (l : Launch) (D : va_G) (tys : List (ClassId × FieldType)) (ad : Nat → Nat → Nat) (ok : Nat → Nat → Prop) (tm : Nat → Nat → zT) (hI : zI ad ok) (M : zM) (sb Ls : Nat) (xs : Nat → Int32) (k : Nat) (hk : k < 1000) (hL : Ls ≤ 260) (sz : Nat) : Met l yL_cell (zws yL_cell cL_cell 2 (some .int)) (zrm 0 0 0) (zPreS D tys ad ok tm sb Ls xs [.ref sb, iv (k : Int)] M sz) (zQi D ad ok tm (cellv xs Ls k) M (zA ad ok sz)) 0 0 (zA ad ok sz) := by
  refine z_ofW (cc := cL_cell) (maxL := 2) (ret := some .int) (plainFor_of_name (by decide)) rfl ?_
  intro p e s m args below meth c s₁ B hml hv
  obtain ⟨rfl, hsz, hP, hK, hN, hX, hb1, hb2⟩ := hv
  subst hsz
  have hts := atoms_spec (ws := zws yL_cell cL_cell 2 (some .int)) B.pre
  have hown : s.vm.findClass RL = some m.cls := findClass_of_methodNamed B.named
  rw [lg_entry_eq]
  have hC : zC p s m [Value.ref sb, iv (k : Int)].toArray c D tys ad ok (zA ad ok s.heap.size) s.heap cL_cell 2 RL := ⟨⟨B.exec, B.bytes, hml, hown, fun x h => hts x (List.mem_cons_of_mem _ h)⟩, hK, hI, fun f i h => Or.inl ⟨f, i, h, rfl⟩, fun q h => Or.inr h, hN⟩
  have hret := B.returns
  have hlk := B.notSynchronized
  have hgo : zV p l e (zrm 0 0 0) s m [Value.ref sb, iv (k : Int)].toArray below meth c (MQ below (zQi D ad ok tm (cellv xs Ls k) M (zA ad ok s.heap.size)) [Value.ref sb, iv (k : Int)].toArray s 0 0 (zA ad ok s.heap.size)) D ad ok tm (zA ad ok s.heap.size) s.heap 2 0 0 M [(0, .ref sb), (1, iv (k : Int))] 0 [] := by
    refine z_iload_n hC 1 rfl dL_cell_0 rfl ?_
    refine z_aload_n hC 0 rfl dL_cell_1 rfl ?_
    refine z_slen hC hX hb1 hb2 dL_cell_2 ?_
    refine z_icmp_ge hC 12 dL_cell_3 (by decide) (by omega) (by omega) (fun c3 => ?_) (fun c3 => ?_)
    · refine z_ldci hC (v := Int32.ofInt 790386105) dL_cell_12 (zin 443 (by decide +kernel) rfl) ?_
      refine z_iload_n hC 1 rfl dL_cell_14 rfl ?_
      refine z_iconst hC dL_cell_15 ?_
      refine z_iadd hC dL_cell_16 ?_
      refine z_imul hC dL_cell_17 ?_
      exact z_iret hC hret hlk rfl (by unfold cellv; rw [if_neg (by omega)]) rfl dL_cell_18
    · refine z_aload_n hC 0 rfl dL_cell_6 rfl ?_
      refine z_iload_n hC 1 rfl dL_cell_7 rfl ?_
      refine z_sld hC hX hb1 hb2 k rfl (by omega) (by omega) dL_cell_8 ?_
      refine z_goto hC 18 dL_cell_9 (by decide) ?_
      exact z_iret hC hret hlk rfl (by unfold cellv; rw [if_pos (by omega)]) rfl dL_cell_18
  exact hgo s.heap [] _ hP va_S.rf (lv_entry _ (Nat.le_of_ble_eq_true rfl))
/-- what stands beside a frame of the law -/
def zLK (p : Program) (s : State) (m : MethodId) (args : Array Value) (c : Code) (D : va_G) (tc : Nat → ClassId) (b : Nat) (A : Nat → Prop) (H0 : Heap) (cc : ByteArray) (nL : Nat) (sb Ls : Nat) (xs : Nat → Int32) : Prop :=
  zC p s m args c D (tysC tc) (adC b) okC A H0 cc nL RL ∧ zXf A s H0 ∧ va_X sb Ls xs s H0 ∧ sb < H0.size ∧ ¬ A sb ∧ sb < b ∧ Ls ≤ 260
section ZQS
variable {p : Program} {l : Launch} {e : Env} {R : Room} {s : State} {m : MethodId} {args : Array Value} {below : List Frame} {meth : Method} {c : Code} {Q : State → Prop} {D : va_G} {tc : Nat → ClassId} {b : Nat} {A : Nat → Prop} {H0 : Heap} {nL : Nat} {cells slots : Nat} {C : zM} {Xs : List (Nat × (Nat → Int))} {L : List (Nat × Value)} {pc : Nat} {rest : List Value} {cc : ByteArray} {sb Ls : Nat} {xs : Nat → Int32}
theorem zq_below (hK : zLK p s m args c D tc b A H0 cc nL sb Ls xs) {v : Int32} {n : Int} (hn : 0 < n ∧ n < 2147483648) (hW : (rest.map fun v => v.category).sum ≤ 8) (hR : 0 + 1 ≤ R.frames ∧ 8 + (2 + 11) + 40 * 0 ≤ R.locals) (hf : cells + 0 ≤ R.cells ∧ slots + 0 ≤ R.slots) (hdg : decode cc pc = .ok (.invokestatic 18, 3)) (kk : ∀ r : Int, 0 ≤ r → r < n → zQ p l e R s m args below meth c Q D tc b A H0 nL cells slots C Xs L (pc + 3) (iv r :: rest)) : zQ p l e R s m args below meth c Q D tc b A H0 nL cells slots C Xs L pc (iv n :: .int v :: rest) := by
  intro H locs ls hw hS hl
  have hC := hK.1
  refine va_calli (z_runS (As := [.int v, iv n]) hC zlL_18 (k_L_below l D (tysC tc) (adC b) okC (tmC (adC b) tc) hC.2.2.1 C v n hn H.size) rfl hW hR hf hdg hw.1 hl.1) hS (fun q _ h => z_free hC hS q h) (z_free hC hS) (fun r2 u t H1 locs1 ht1 hvm hr hB hz1 hk1 hS1 => ?_)
  subst hr
  rw [ht1] at hB
  have hb := blw_bd v hn.1
  exact kk _ hb.1 hb.2 H1 locs1 ls (hw.call hB hk1) hS1 hl
theorem zq_cell (hK : zLK p s m args c D tc b A H0 cc nL sb Ls xs) {a : Int} (k : Nat) (hk : a = (k : Int)) (hk2 : k < 1000) (hW : (rest.map fun v => v.category).sum ≤ 8) (hR : 0 + 1 ≤ R.frames ∧ 8 + (2 + 11) + 40 * 0 ≤ R.locals) (hf : cells + 0 ≤ R.cells ∧ slots + 0 ≤ R.slots) (hdg : decode cc pc = .ok (.invokestatic 12, 3)) (kk : ∀ z : Int32, zQ p l e R s m args below meth c Q D tc b A H0 nL cells slots C Xs L (pc + 3) (.int z :: rest)) : zQ p l e R s m args below meth c Q D tc b A H0 nL cells slots C Xs L pc (iv a :: .ref sb :: rest) := by
  intro H locs ls hw hS hl
  subst hk
  obtain ⟨hC, hX, hXs, hbl, hbA, hbb, hLs⟩ := hK
  have hts := hC.1.2.2.2.2
  have hfree := z_free hC hS
  have cw : CallB R s args RL 12 yL_cell cL_cell 2 (some .int) (zws yL_cell cL_cell 2 (some .int)) (zrm 0 0 0) 0 0 2 ∧ (Cond.static yL_cell).before args s = true := ⟨z_callB hC (fun w h => zlL_12.1 w (by simp only [List.mem_cons, List.not_mem_nil, or_false] at h ⊢; rcases h with h | h | h <;> simp [h])) zlL_12.2 hR, hts _ (zlL_12.1 _ (by simp))⟩
  refine va_calli (va_runS (As := [Value.ref sb, iv (k : Int)]) (rest := rest) hC.1 (k_L_cell l D (tysC tc) (adC b) okC (tmC (adC b) tc) hC.2.2.1 C sb Ls xs k hk2 hLs H.size) cw ⟨zPreS_blind, fun U hU hW2 => ⟨rfl, by rw [hU], by rw [hU]; exact hw.1, va_K.moved hW2.alike hC.2.1, znl_moved hW2 hC.2.2.2.2.2, by rw [hU]; exact va_X.moved hW2.alike (hXs.kept (hS.2.1 sb hbl hbA)), Nat.lt_of_lt_of_le hbl hS.1, fun z => hbA (hfree sb z)⟩⟩ rfl rfl hl.1 rfl (lv_room hW) hdg hf) hS (fun q _ h => hfree q h) hfree (fun r2 u t H1 locs1 ht1 hvm hr hB hz1 hk1 hS1 => ?_)
  rw [ht1] at hB
  exact kk r2 H1 locs1 ls (hw.call hB hk1) hS1 hl
end ZQS
