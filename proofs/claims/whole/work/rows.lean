section
-- ===== PART A: goes FIRST, ahead of the names: the tables' words, and 'selects' of the private methods out of them =====
/-- a private method of a class that the tables say can be made, by its rows of tables_1 -/
def lw_okq (q : MethodName × Nat) : Prop := (q.1.cls ≠ "java/lang/invoke/MethodHandle" ∧ q.1.cls ≠ "java/lang/invoke/VarHandle") ∧ Cond.instantiable q.1.cls q.2 ∈ tables_1 ∧ Cond.privateMethod q.1 ∈ tables_1 ∧ Cond.instanceMethod q.1 ∈ tables_1
theorem lw_p0 : lw_okq (⟨"ZipCanopy", "countFact", "(I)I"⟩, 4) := ⟨⟨by decide +kernel, by decide +kernel⟩, List.mem_of_getElem? (i := 21) (by decide +kernel), List.mem_of_getElem? (i := 294) (by decide +kernel), List.mem_of_getElem? (i := 295) (by decide +kernel)⟩
theorem lw_p1 : lw_okq (⟨"ZipCanopy", "digestPlatform", "(JI)J"⟩, 4) := ⟨⟨by decide +kernel, by decide +kernel⟩, List.mem_of_getElem? (i := 21) (by decide +kernel), List.mem_of_getElem? (i := 314) (by decide +kernel), List.mem_of_getElem? (i := 315) (by decide +kernel)⟩
theorem lw_p2 : lw_okq (⟨"ZipCanopy", "platformFact", "(II)I"⟩, 4) := ⟨⟨by decide +kernel, by decide +kernel⟩, List.mem_of_getElem? (i := 21) (by decide +kernel), List.mem_of_getElem? (i := 318) (by decide +kernel), List.mem_of_getElem? (i := 319) (by decide +kernel)⟩
theorem lw_p3 : lw_okq (⟨"ZipCanopy", "lineFact", "(II)I"⟩, 4) := ⟨⟨by decide +kernel, by decide +kernel⟩, List.mem_of_getElem? (i := 21) (by decide +kernel), List.mem_of_getElem? (i := 342) (by decide +kernel), List.mem_of_getElem? (i := 343) (by decide +kernel)⟩
theorem lw_p4 : lw_okq (⟨"ZipCanopy", "riderFact", "(II)I"⟩, 4) := ⟨⟨by decide +kernel, by decide +kernel⟩, List.mem_of_getElem? (i := 21) (by decide +kernel), List.mem_of_getElem? (i := 358) (by decide +kernel), List.mem_of_getElem? (i := 359) (by decide +kernel)⟩
theorem lw_p5 : lw_okq (⟨"java/lang/Throwable", "fillInStackTrace", "(I)Ljava/lang/Throwable;"⟩, 6) := ⟨⟨by decide +kernel, by decide +kernel⟩, List.mem_of_getElem? (i := 424) (by decide +kernel), List.mem_of_getElem? (i := 422) (by decide +kernel), List.mem_of_getElem? (i := 423) (by decide +kernel)⟩
theorem lw_p6 : lw_okq (⟨"ZipCanopy", "isPlatform", "(I)Z"⟩, 4) := ⟨⟨by decide +kernel, by decide +kernel⟩, List.mem_of_getElem? (i := 21) (by decide +kernel), List.mem_of_getElem? (i := 486) (by decide +kernel), List.mem_of_getElem? (i := 487) (by decide +kernel)⟩
theorem lw_p7 : lw_okq (⟨"ZipCanopy$Route", "extend", "(LZipCanopy$Line;III)V"⟩, 2) := ⟨⟨by decide +kernel, by decide +kernel⟩, List.mem_of_getElem? (i := 99) (by decide +kernel), List.mem_of_getElem? (i := 531) (by decide +kernel), List.mem_of_getElem? (i := 532) (by decide +kernel)⟩
theorem lw_p8 : lw_okq (⟨"ZipCanopy", "isLine", "(I)Z"⟩, 4) := ⟨⟨by decide +kernel, by decide +kernel⟩, List.mem_of_getElem? (i := 21) (by decide +kernel), List.mem_of_getElem? (i := 551) (by decide +kernel), List.mem_of_getElem? (i := 552) (by decide +kernel)⟩
theorem lw_p9 : lw_okq (⟨"ZipCanopy", "isRider", "(I)Z"⟩, 4) := ⟨⟨by decide +kernel, by decide +kernel⟩, List.mem_of_getElem? (i := 21) (by decide +kernel), List.mem_of_getElem? (i := 636) (by decide +kernel), List.mem_of_getElem? (i := 637) (by decide +kernel)⟩
theorem lw_p10 : lw_okq (⟨"ZipCanopy$Traffic", "moveTrolleys", "(LZipCanopy$Line;LZipCanopy$Trolleys;)V"⟩, 6) := ⟨⟨by decide +kernel, by decide +kernel⟩, List.mem_of_getElem? (i := 171) (by decide +kernel), List.mem_of_getElem? (i := 666) (by decide +kernel), List.mem_of_getElem? (i := 667) (by decide +kernel)⟩
theorem lw_p11 : lw_okq (⟨"ZipCanopy$Traffic", "beginRide", "(LZipCanopy$Line;I)V"⟩, 6) := ⟨⟨by decide +kernel, by decide +kernel⟩, List.mem_of_getElem? (i := 171) (by decide +kernel), List.mem_of_getElem? (i := 684) (by decide +kernel), List.mem_of_getElem? (i := 685) (by decide +kernel)⟩
theorem lw_p12 : lw_okq (⟨"ZipCanopy$Traffic", "firstWaitingFor", "(I)I"⟩, 6) := ⟨⟨by decide +kernel, by decide +kernel⟩, List.mem_of_getElem? (i := 171) (by decide +kernel), List.mem_of_getElem? (i := 688) (by decide +kernel), List.mem_of_getElem? (i := 689) (by decide +kernel)⟩
theorem lw_p13 : lw_okq (⟨"ZipCanopy$Traffic", "leaveWaiting", "(I)V"⟩, 6) := ⟨⟨by decide +kernel, by decide +kernel⟩, List.mem_of_getElem? (i := 171) (by decide +kernel), List.mem_of_getElem? (i := 698) (by decide +kernel), List.mem_of_getElem? (i := 699) (by decide +kernel)⟩
theorem lw_p14 : lw_okq (⟨"ZipCanopy$Traffic", "tireWaiting", "()V"⟩, 6) := ⟨⟨by decide +kernel, by decide +kernel⟩, List.mem_of_getElem? (i := 171) (by decide +kernel), List.mem_of_getElem? (i := 711) (by decide +kernel), List.mem_of_getElem? (i := 712) (by decide +kernel)⟩
theorem lw_p15 : lw_okq (⟨"ZipCanopy", "arrivalsWithOneMore", "(II)I"⟩, 4) := ⟨⟨by decide +kernel, by decide +kernel⟩, List.mem_of_getElem? (i := 21) (by decide +kernel), List.mem_of_getElem? (i := 772) (by decide +kernel), List.mem_of_getElem? (i := 773) (by decide +kernel)⟩
def lw_privs_1 : List (MethodName × Nat) := [(⟨"ZipCanopy", "countFact", "(I)I"⟩, 4), (⟨"ZipCanopy", "digestPlatform", "(JI)J"⟩, 4), (⟨"ZipCanopy", "platformFact", "(II)I"⟩, 4), (⟨"ZipCanopy", "lineFact", "(II)I"⟩, 4), (⟨"ZipCanopy", "riderFact", "(II)I"⟩, 4), (⟨"java/lang/Throwable", "fillInStackTrace", "(I)Ljava/lang/Throwable;"⟩, 6), (⟨"ZipCanopy", "isPlatform", "(I)Z"⟩, 4), (⟨"ZipCanopy$Route", "extend", "(LZipCanopy$Line;III)V"⟩, 2), (⟨"ZipCanopy", "isLine", "(I)Z"⟩, 4), (⟨"ZipCanopy", "isRider", "(I)Z"⟩, 4), (⟨"ZipCanopy$Traffic", "moveTrolleys", "(LZipCanopy$Line;LZipCanopy$Trolleys;)V"⟩, 6), (⟨"ZipCanopy$Traffic", "beginRide", "(LZipCanopy$Line;I)V"⟩, 6), (⟨"ZipCanopy$Traffic", "firstWaitingFor", "(I)I"⟩, 6), (⟨"ZipCanopy$Traffic", "leaveWaiting", "(I)V"⟩, 6), (⟨"ZipCanopy$Traffic", "tireWaiting", "()V"⟩, 6), (⟨"ZipCanopy", "arrivalsWithOneMore", "(II)I"⟩, 4)]
theorem lw_r1 : ∀ q ∈ lw_privs_1, lw_okq q := List.forall_mem_cons.mpr ⟨lw_p0, List.forall_mem_cons.mpr ⟨lw_p1, List.forall_mem_cons.mpr ⟨lw_p2, List.forall_mem_cons.mpr ⟨lw_p3, List.forall_mem_cons.mpr ⟨lw_p4, List.forall_mem_cons.mpr ⟨lw_p5, List.forall_mem_cons.mpr ⟨lw_p6, List.forall_mem_cons.mpr ⟨lw_p7, List.forall_mem_cons.mpr ⟨lw_p8, List.forall_mem_cons.mpr ⟨lw_p9, List.forall_mem_cons.mpr ⟨lw_p10, List.forall_mem_cons.mpr ⟨lw_p11, List.forall_mem_cons.mpr ⟨lw_p12, List.forall_mem_cons.mpr ⟨lw_p13, List.forall_mem_cons.mpr ⟨lw_p14, List.forall_mem_cons.mpr ⟨lw_p15, fun _ h => absurd h List.not_mem_nil⟩⟩⟩⟩⟩⟩⟩⟩⟩⟩⟩⟩⟩⟩⟩⟩
theorem lw_p16 : lw_okq (⟨"ZipCanopyModel", "no", "(I)I"⟩, 16) := ⟨⟨by decide +kernel, by decide +kernel⟩, List.mem_of_getElem? (i := 776) (by decide +kernel), List.mem_of_getElem? (i := 913) (by decide +kernel), List.mem_of_getElem? (i := 914) (by decide +kernel)⟩
theorem lw_p17 : lw_okq (⟨"ZipCanopyModel", "isPlatform", "(I)Z"⟩, 16) := ⟨⟨by decide +kernel, by decide +kernel⟩, List.mem_of_getElem? (i := 776) (by decide +kernel), List.mem_of_getElem? (i := 921) (by decide +kernel), List.mem_of_getElem? (i := 922) (by decide +kernel)⟩
theorem lw_p18 : lw_okq (⟨"ZipCanopyModel", "isLine", "(I)Z"⟩, 16) := ⟨⟨by decide +kernel, by decide +kernel⟩, List.mem_of_getElem? (i := 776) (by decide +kernel), List.mem_of_getElem? (i := 929) (by decide +kernel), List.mem_of_getElem? (i := 930) (by decide +kernel)⟩
theorem lw_p19 : lw_okq (⟨"ZipCanopyModel", "platformTold", "(II)I"⟩, 16) := ⟨⟨by decide +kernel, by decide +kernel⟩, List.mem_of_getElem? (i := 776) (by decide +kernel), List.mem_of_getElem? (i := 941) (by decide +kernel), List.mem_of_getElem? (i := 942) (by decide +kernel)⟩
theorem lw_p20 : lw_okq (⟨"ZipCanopyModel", "lineTold", "(II)I"⟩, 16) := ⟨⟨by decide +kernel, by decide +kernel⟩, List.mem_of_getElem? (i := 776) (by decide +kernel), List.mem_of_getElem? (i := 949) (by decide +kernel), List.mem_of_getElem? (i := 950) (by decide +kernel)⟩
theorem lw_p21 : lw_okq (⟨"ZipCanopyModel", "lengthOf", "(I)I"⟩, 16) := ⟨⟨by decide +kernel, by decide +kernel⟩, List.mem_of_getElem? (i := 776) (by decide +kernel), List.mem_of_getElem? (i := 953) (by decide +kernel), List.mem_of_getElem? (i := 954) (by decide +kernel)⟩
theorem lw_p22 : lw_okq (⟨"ZipCanopyModel", "dropOf", "(I)I"⟩, 16) := ⟨⟨by decide +kernel, by decide +kernel⟩, List.mem_of_getElem? (i := 776) (by decide +kernel), List.mem_of_getElem? (i := 958) (by decide +kernel), List.mem_of_getElem? (i := 959) (by decide +kernel)⟩
theorem lw_p23 : lw_okq (⟨"ZipCanopyModel", "isClosed", "(II)Z"⟩, 16) := ⟨⟨by decide +kernel, by decide +kernel⟩, List.mem_of_getElem? (i := 776) (by decide +kernel), List.mem_of_getElem? (i := 966) (by decide +kernel), List.mem_of_getElem? (i := 967) (by decide +kernel)⟩
theorem lw_p24 : lw_okq (⟨"ZipCanopyModel", "rideOf", "(II)I"⟩, 16) := ⟨⟨by decide +kernel, by decide +kernel⟩, List.mem_of_getElem? (i := 776) (by decide +kernel), List.mem_of_getElem? (i := 974) (by decide +kernel), List.mem_of_getElem? (i := 975) (by decide +kernel)⟩
theorem lw_p25 : lw_okq (⟨"ZipCanopyModel", "riderTold", "(II)I"⟩, 16) := ⟨⟨by decide +kernel, by decide +kernel⟩, List.mem_of_getElem? (i := 776) (by decide +kernel), List.mem_of_getElem? (i := 990) (by decide +kernel), List.mem_of_getElem? (i := 991) (by decide +kernel)⟩
theorem lw_p26 : lw_okq (⟨"ZipCanopyModel", "fewest", "(III)I"⟩, 16) := ⟨⟨by decide +kernel, by decide +kernel⟩, List.mem_of_getElem? (i := 776) (by decide +kernel), List.mem_of_getElem? (i := 998) (by decide +kernel), List.mem_of_getElem? (i := 999) (by decide +kernel)⟩
theorem lw_p27 : lw_okq (⟨"ZipCanopyModel", "first", "(III)I"⟩, 16) := ⟨⟨by decide +kernel, by decide +kernel⟩, List.mem_of_getElem? (i := 776) (by decide +kernel), List.mem_of_getElem? (i := 1003) (by decide +kernel), List.mem_of_getElem? (i := 1004) (by decide +kernel)⟩
theorem lw_p28 : lw_okq (⟨"ZipCanopyModel$State", "roll", "(I)V"⟩, 15) := ⟨⟨by decide +kernel, by decide +kernel⟩, List.mem_of_getElem? (i := 782) (by decide +kernel), List.mem_of_getElem? (i := 1023) (by decide +kernel), List.mem_of_getElem? (i := 1024) (by decide +kernel)⟩
theorem lw_p29 : lw_okq (⟨"ZipCanopyModel$State", "begin", "(I)V"⟩, 15) := ⟨⟨by decide +kernel, by decide +kernel⟩, List.mem_of_getElem? (i := 782) (by decide +kernel), List.mem_of_getElem? (i := 1030) (by decide +kernel), List.mem_of_getElem? (i := 1031) (by decide +kernel)⟩
theorem lw_p30 : lw_okq (⟨"ZipCanopyModel$State", "strike", "(I)V"⟩, 15) := ⟨⟨by decide +kernel, by decide +kernel⟩, List.mem_of_getElem? (i := 782) (by decide +kernel), List.mem_of_getElem? (i := 1035) (by decide +kernel), List.mem_of_getElem? (i := 1036) (by decide +kernel)⟩
theorem lw_p31 : lw_okq (⟨"ZipCanopyModel", "counted", "(I)I"⟩, 16) := ⟨⟨by decide +kernel, by decide +kernel⟩, List.mem_of_getElem? (i := 776) (by decide +kernel), List.mem_of_getElem? (i := 1046) (by decide +kernel), List.mem_of_getElem? (i := 1047) (by decide +kernel)⟩
def lw_privs_2 : List (MethodName × Nat) := [(⟨"ZipCanopyModel", "no", "(I)I"⟩, 16), (⟨"ZipCanopyModel", "isPlatform", "(I)Z"⟩, 16), (⟨"ZipCanopyModel", "isLine", "(I)Z"⟩, 16), (⟨"ZipCanopyModel", "platformTold", "(II)I"⟩, 16), (⟨"ZipCanopyModel", "lineTold", "(II)I"⟩, 16), (⟨"ZipCanopyModel", "lengthOf", "(I)I"⟩, 16), (⟨"ZipCanopyModel", "dropOf", "(I)I"⟩, 16), (⟨"ZipCanopyModel", "isClosed", "(II)Z"⟩, 16), (⟨"ZipCanopyModel", "rideOf", "(II)I"⟩, 16), (⟨"ZipCanopyModel", "riderTold", "(II)I"⟩, 16), (⟨"ZipCanopyModel", "fewest", "(III)I"⟩, 16), (⟨"ZipCanopyModel", "first", "(III)I"⟩, 16), (⟨"ZipCanopyModel$State", "roll", "(I)V"⟩, 15), (⟨"ZipCanopyModel$State", "begin", "(I)V"⟩, 15), (⟨"ZipCanopyModel$State", "strike", "(I)V"⟩, 15), (⟨"ZipCanopyModel", "counted", "(I)I"⟩, 16)]
theorem lw_r2 : ∀ q ∈ lw_privs_2, lw_okq q := List.forall_mem_cons.mpr ⟨lw_p16, List.forall_mem_cons.mpr ⟨lw_p17, List.forall_mem_cons.mpr ⟨lw_p18, List.forall_mem_cons.mpr ⟨lw_p19, List.forall_mem_cons.mpr ⟨lw_p20, List.forall_mem_cons.mpr ⟨lw_p21, List.forall_mem_cons.mpr ⟨lw_p22, List.forall_mem_cons.mpr ⟨lw_p23, List.forall_mem_cons.mpr ⟨lw_p24, List.forall_mem_cons.mpr ⟨lw_p25, List.forall_mem_cons.mpr ⟨lw_p26, List.forall_mem_cons.mpr ⟨lw_p27, List.forall_mem_cons.mpr ⟨lw_p28, List.forall_mem_cons.mpr ⟨lw_p29, List.forall_mem_cons.mpr ⟨lw_p30, List.forall_mem_cons.mpr ⟨lw_p31, fun _ h => absurd h List.not_mem_nil⟩⟩⟩⟩⟩⟩⟩⟩⟩⟩⟩⟩⟩⟩⟩⟩
theorem lw_p32 : lw_okq (⟨"ZipCanopyModel$State", "copy", "([I[I)V"⟩, 15) := ⟨⟨by decide +kernel, by decide +kernel⟩, List.mem_of_getElem? (i := 782) (by decide +kernel), List.mem_of_getElem? (i := 1063) (by decide +kernel), List.mem_of_getElem? (i := 1064) (by decide +kernel)⟩
theorem lw_p33 : lw_okq (⟨"ZipCanopyModel", "arrivedIn", "(I)I"⟩, 16) := ⟨⟨by decide +kernel, by decide +kernel⟩, List.mem_of_getElem? (i := 776) (by decide +kernel), List.mem_of_getElem? (i := 1074) (by decide +kernel), List.mem_of_getElem? (i := 1075) (by decide +kernel)⟩
def lw_privs_3 : List (MethodName × Nat) := [(⟨"ZipCanopyModel$State", "copy", "([I[I)V"⟩, 15), (⟨"ZipCanopyModel", "arrivedIn", "(I)I"⟩, 16)]
theorem lw_r3 : ∀ q ∈ lw_privs_3, lw_okq q := List.forall_mem_cons.mpr ⟨lw_p32, List.forall_mem_cons.mpr ⟨lw_p33, fun _ h => absurd h List.not_mem_nil⟩⟩
def lw_privs : List (MethodName × Nat) := lw_privs_1 ++ (lw_privs_2 ++ (lw_privs_3))
def lw_tbl : List Cond := k2_sels lw_privs ++ tables_1
theorem lw_privs_ok : ∀ q ∈ lw_privs, lw_okq q := by
  show ∀ q ∈ lw_privs_1 ++ (lw_privs_2 ++ (lw_privs_3)), lw_okq q
  exact List.forall_mem_append.mpr ⟨lw_r1, List.forall_mem_append.mpr ⟨lw_r2, lw_r3⟩⟩
/-- the streams that the claim lets the run draw from -/
abbrev lw_cs : List Choice := [Jvm.Choice.named "NaN.bits"]
theorem lw_bits : nanBits ∈ lw_cs := by first | decide | exact List.mem_cons_self | simp [lw_cs, nanBits]
-- ===== end of PART A; then your names; then what follows =====
def R_law : String := "ZipCanopyLaw"
/-! ===== BEGIN words of one list among another's, by their places ===== -/
theorem goodIn_r {big : List Cond} (ws : List Cond) (ps : List Nat) (hp : ws = ps.filterMap (fun i => big[i]?)) (h : ws.all goodWord = true) : GoodIn big ws := by
  intro w hw
  have h1 := List.all_eq_true.mp h w hw
  rw [hp] at hw
  obtain ⟨i, -, hi⟩ := List.mem_filterMap.mp hw
  have hm : w ∈ big := by first | exact List.mem_of_getElem? hi | exact List.getElem?_mem hi
  exact ⟨hm, good_of_word h1⟩
theorem goodIn_app {big a b : List Cond} (ha : GoodIn big a) (hb : GoodIn big b) : GoodIn big (a ++ b) := fun w h => (List.mem_append.mp h).elim (ha w) (hb w)
theorem goodIn_ca {big a b : List Cond} {c : Cond} (ha : GoodIn big (c :: a)) (hb : GoodIn big b) : GoodIn big (c :: (a ++ b)) := fun w h => (List.mem_cons.mp h).elim (fun e => ha w (List.mem_cons.mpr (Or.inl e))) (fun h => (List.mem_append.mp h).elim (fun h => ha w (List.mem_cons.mpr (Or.inr h))) (hb w))
theorem goodIn_sub {big ws : List Cond} (hm : ∀ w ∈ ws, w ∈ big) (h : ws.all goodWord = true) : GoodIn big ws := fun w hw => ⟨hm w hw, good_of_word (List.all_eq_true.mp h w hw)⟩
/-! ===== END ===== -/

/-! ===== BEGIN exceptions that leave a method, and their catching by the caller (launches without stack traces) ===== -/
section VXA
/-! The laws vx_back, vx_callV, vx_callS, vx_callSW, vx_throw0, vx_throwS follow proofs of the library, with one case more: JvmDerived/Free/Laws.lean (Back.of_free), Shelf42/LK1.lean (callV, callS), Shelf/KitTraced.lean (throwNew0V, throwNewS). -/
/-- where a method has thrown q: the class by its name, the cell, what was written, the world -/
def vx_T (XC : String → State → State → Prop) (st : State) (q : Addr) (t : State) (mc ms : Nat) (free : Addr → Prop) : Prop :=
  ∃ (E : String) (ce : Cell) (L : List Loc), XC E st t ∧ t.heap[q]? = some ce ∧ ce.vm = .none ∧ st.vm.findClass E = some ce.cls ∧ st.WarmedH t.vm ∧ st.sameButNew ({ t with vm := st.vm } : State) L mc ms ∧ ∀ z ∈ L, free z.base
def vx_Q (Qc : Array Value → State → Outcome → State → Prop) (XC : String → State → State → Prop) (mc ms : Nat) (free : Addr → Prop) : Array Value → State → Outcome → State → Prop := fun a st o t =>
  (Qc a st o t ∧ ∃ L, FrameEnd st o t L mc ms ∧ ∀ q ∈ L, free q.base) ∨ ∃ q, o = .threw q ∧ vx_T XC st q t mc ms free
/-- a callee that returns or throws -/
def vx_Met (l : Launch) (y : MethodName) (ws : List Cond) (rm : Room) (Pc : Array Value → State → Prop) (Qc : Array Value → State → Outcome → State → Prop) (XC : String → State → State → Prop) (mc ms : Nat) (free : Addr → Prop) : Prop :=
  MetFree l y (headSpec ws rm) Pc (fun _ _ _ _ _ => True) (vx_Q Qc XC mc ms free)
def vx_Post (XC : String → State → State → Prop) (mc ms : Nat) (free : Addr → Prop) : Pt → Array Value → Addr → Pt → Prop := fun A a q B =>
  ∃ (g : JFrame) (mk : MethodId) (t : State) (L : List Loc) (E : String) (ce : Cell), B.U.heap = t.heap ∧ B.U.vm = t.vm ∧ XC E (A.U.calling g mk a) t ∧ t.heap[q]? = some ce ∧ ce.vm = .none ∧ A.U.vm.findClass E = some ce.cls ∧ B.locs = A.locs ++ L ∧ (∀ z ∈ L, free z.base) ∧ B.cells = A.cells + mc ∧ B.slots = A.slots + ms
def vx_Back (l : Launch) (R : Room) (p : Program) (e : Env) (below : List Frame) (s : State) (sargs : Array Value) (y : MethodName) (len W9 : Nat)
    (Pre : Pt → Array Value → Prop) (Post : Pt → Array Value → Option Value → Pt → Prop) (PostX : Pt → Array Value → Addr → Pt → Prop) : Prop :=
  ∀ (m : MethodId) (meth : Method) (c : Code) (A : Pt) (g : JFrame) (ig : Instr) (mk : MethodId) (a : Array Value),
    Stand p l e R s m sargs below meth c A.U A.locs A.cells A.slots → g.method = m → g.locals.size = c.maxLocals → decode c.code g.pc = .ok (ig, len) →
    2 * g.monitorRoom + (g.stack.map fun v => v.category).sum ≤ W9 → A.U.methodNamed? y = some mk → Pre A a →
    (∃ (v : Option Value) (B : Pt), Stand p l e R s m sargs below meth c B.U B.locs B.cells B.slots ∧ Post A a v B ∧
      Steps p.tables e below (doInvoke e (A.U.setTop g) [] mk a).1 (B.U.setTop { g with pc := g.pc + len, stack := v.toList ++ g.stack })) ∨
    (∃ (q : Addr) (B : Pt), Stand p l e R s m sargs below meth c B.U B.locs B.cells B.slots ∧ PostX A a q B ∧
      Steps p.tables e below (doInvoke e (A.U.setTop g) [] mk a).1 ((B.U.setTop g).pushFrame (.throwing q)))
section Payer
variable {l : Launch} {R : Room} {p : Program} {e : Env} {below : List Frame} {s : State} {sargs : Array Value} {y : MethodName} {len W9 : Nat}
theorem vx_back {ws : List Cond} {rm : Room} {Pc : Array Value → State → Prop} {Qc : Array Value → State → Outcome → State → Prop} {XC : String → State → State → Prop} {mc ms : Nat} {free : Addr → Prop} {bytes : ByteArray} {maxL : Nat} {ret : Option FieldType}
    (hM : vx_Met l y ws rm Pc Qc XC mc ms free) (hblind : FrameBlind Pc) (hrc : rm.cells = mc) (hrs : rm.slots = ms)
    (hframes : rm.frames + 1 ≤ R.frames) (hlocals : W9 + (maxL + 11) + rm.locals ≤ R.locals)
    (hws : ∀ w ∈ ws, ∀ a' U, s.WarmedH U.vm → w.before a' U = true) (hcode : Cond.code y bytes maxL ret ∈ ws) (hinit : ∀ a' U, s.WarmedH U.vm → (Cond.initialized y.cls).before a' U = true) :
    vx_Back l R p e below s sargs y len W9 (PreOf R mc ms Pc) (PostOf Qc mc ms free) (vx_Post XC mc ms free) := by
  intro m meth c A g ig mk a X hg hsize hdg hW hn hp
  have h1 : (headSpec ws rm).pre.before a A.U = true := atoms_intro fun w hw => hws w hw _ _ X.warmed
  have h2 : (Cond.code y bytes maxL ret).before a A.U = true := hws _ hcode _ _ X.warmed
  have h3 : (Cond.initialized y.cls).before a A.U = true := hinit _ _ X.warmed
  have h4 : A.cells + (headSpec ws rm).room.cells ≤ R.cells := by rw [show (headSpec ws rm).room.cells = mc from hrc]; exact hp.1
  have h5 : A.slots + (headSpec ws rm).room.slots ≤ R.slots := by rw [show (headSpec ws rm).room.slots = ms from hrs]; exact hp.2.1
  have hPc : Pc a (A.U.calling g mk a) := hblind _ _ _ _ hp.2.2
  obtain ⟨U, Ls, c0, s0⟩ := A
  dsimp only [Pt.U, Pt.locs, Pt.cells, Pt.slots] at h1 h2 h3 h4 h5 X hn hPc ⊢
  obtain ⟨methY, cY, hmY, hcY, -, hlY, -, -, -, -⟩ := Cond.code_spec hn h2
  obtain ⟨kY, hkY, -⟩ := className_of_methodNamed hn
  have hinitY : kY.init = .initialized := Cond.initialized_spec (findClass_of_methodNamed hn) hkY h3
  have h : At U g.method c below := by rw [hg]; exact X.here
  have hlocals9 : W9 + (maxL + 11) + (headSpec ws rm).room.locals ≤ R.locals := hlocals
  have happ : (headSpec ws rm).appliesLoose y e.platform (U.calling g mk a) = true :=
    Spec.appliesLoose_calling (g := g) h hdg hn hkY hinitY
      (X.room_calling (g := g) (R' := (headSpec ws rm).room) hsize hmY hcY hframes (by rw [hlY]; omega) h4 h5) h1
  obtain ⟨mid, hmid⟩ := h.above
  have hfr : (U.setTop g).frames = (.java g :: mid) ++ below := by rw [State.frames_setTop' g h.top, hmid]; rfl
  obtain ⟨o, s₂, hsteps, -, hend, hq⟩ := Steps.callFree hM p X.admits X.cas X.clock (acts := []) hfr happ hPc trivial
  have hq' : vx_Q Qc XC mc ms free a (U.calling g mk a) o s₂ := hq
  rw [State.frames_setTop' g h.top] at hend
  obtain ⟨g₀, hg0⟩ := Option.isSome_iff_exists.mp h.top
  obtain ⟨r, hr⟩ := State.topJava?_eq_some.mp hg0
  have hr' : (({ U with heap := s₂.heap, slotsUsed := s₂.slotsUsed } : State).setVm s₂.vm).frames = .java g₀ :: r := hr
  rcases hq' with ⟨hqc, L, hfe, hL⟩ | ⟨q, rfl, E, ce, L, hx, hce, hcv, hcl, hW₂, hsm, hL⟩
  · obtain ⟨⟨v, rfl⟩, hW₂, e2, q2, q3, q4, q5, q6⟩ := id hfe
    have e3 : s₂ = ({ (U.calling g mk a).setFrames s₂.frames with heap := s₂.heap, slotsUsed := s₂.slotsUsed } : State).setVm s₂.vm := by
      have : s₂ = ({ s₂ with vm := (U.calling g mk a).vm } : State).setVm s₂.vm := rfl
      rw [e2] at this
      exact this
    obtain ⟨c₂, i₂, len₂, hc₂, hd₂, hf₂⟩ := hend
    have hW' : U.WarmedH s₂.vm := hW₂
    have hcc : c₂ = c := by
      have h1 : s₂.code? g.method = U.code? g.method := by
        rw [State.code?_eq, State.code?_eq, hW'.alike.method?]
      exact Option.some.inj (hc₂.symm.trans (h1.trans h.code))
    subst hcc
    have hlen : len₂ = len := by rw [hdg] at hd₂; cases hd₂; rfl
    subst hlen
    have hs₂ : s₂ = (({ U with heap := s₂.heap, slotsUsed := s₂.slotsUsed } : State).setVm s₂.vm).setTop { g with pc := g.pc + len₂, stack := v.toList ++ g.stack } := by
      refine e3.trans ?_
      rw [hf₂, State.calling_eq h.top, State.setFrames_setFrames, State.setTop_of_frames _ hr', hr]
      rfl
    have hsame : U.sameButNew ({ U with heap := s₂.heap, slotsUsed := s₂.slotsUsed } : State) L mc ms := by
      refine ⟨?_, q2, q3, q4, q5, q6⟩
      obtain ⟨t, ht, -⟩ := State.frames_cons hr
      show ({ U with heap := s₂.heap, slotsUsed := s₂.slotsUsed } : State) = { U.setFrames U.frames with heap := s₂.heap, slotsUsed := s₂.slotsUsed }
      rw [State.setFrames_self ht]
    subst hg
    refine Or.inl ⟨v, ⟨(({ U with heap := s₂.heap, slotsUsed := s₂.slotsUsed } : State).setVm s₂.vm), Ls ++ L, c0 + mc, s0 + ms⟩,
      ⟨X.admits, X.cas, X.clock, X.frames, X.room, X.hears, X.method, X.code, (X.here.setHeapUsed s₂.heap s₂.slotsUsed).setVm hW'.alike, X.tail, State.WarmedH.trans X.warmed hW', X.limits, X.bytes, X.same.trans (hsame.setVm s.vm)⟩,
      ⟨g, mk, s₂, L, rfl, rfl, hqc, rfl, hL, rfl, rfl⟩, ?_⟩
    show Steps p.tables e below _ ((({ U with heap := s₂.heap, slotsUsed := s₂.slotsUsed } : State).setVm s₂.vm).setTop { g with pc := g.pc + len₂, stack := v.toList ++ g.stack })
    rw [← hs₂]
    exact hsteps
  · obtain ⟨e2, q2, q3, q4, q5, q6⟩ := id hsm
    have e3 : s₂ = ({ (U.calling g mk a).setFrames s₂.frames with heap := s₂.heap, slotsUsed := s₂.slotsUsed } : State).setVm s₂.vm := by
      have : s₂ = ({ s₂ with vm := (U.calling g mk a).vm } : State).setVm s₂.vm := rfl
      rw [e2] at this
      exact this
    have hf₂ : s₂.frames = .throwing q :: .java g :: U.frames.tail := hend
    have hW' : U.WarmedH s₂.vm := hW₂
    have hs₂ : s₂ = ((({ U with heap := s₂.heap, slotsUsed := s₂.slotsUsed } : State).setVm s₂.vm).setTop g).pushFrame (.throwing q) := by
      refine e3.trans ?_
      rw [hf₂, State.calling_eq h.top, State.setFrames_setFrames, State.pushFrame, State.frames_setTop _ hr', State.setTop_of_frames _ hr', State.setFrames_setFrames, hr]
      rfl
    have hsame : U.sameButNew ({ U with heap := s₂.heap, slotsUsed := s₂.slotsUsed } : State) L mc ms := by
      refine ⟨?_, q2, q3, q4, q5, q6⟩
      obtain ⟨t, ht, -⟩ := State.frames_cons hr
      show ({ U with heap := s₂.heap, slotsUsed := s₂.slotsUsed } : State) = { U.setFrames U.frames with heap := s₂.heap, slotsUsed := s₂.slotsUsed }
      rw [State.setFrames_self ht]
    subst hg
    refine Or.inr ⟨q, ⟨(({ U with heap := s₂.heap, slotsUsed := s₂.slotsUsed } : State).setVm s₂.vm), Ls ++ L, c0 + mc, s0 + ms⟩,
      ⟨X.admits, X.cas, X.clock, X.frames, X.room, X.hears, X.method, X.code, (X.here.setHeapUsed s₂.heap s₂.slotsUsed).setVm hW'.alike, X.tail, State.WarmedH.trans X.warmed hW', X.limits, X.bytes, X.same.trans (hsame.setVm s.vm)⟩,
      ⟨g, mk, s₂, L, E, ce, rfl, rfl, hx, hce, hcv, hcl, rfl, hL, rfl, rfl⟩, ?_⟩
    show Steps p.tables e below _ (((({ U with heap := s₂.heap, slotsUsed := s₂.slotsUsed } : State).setVm s₂.vm).setTop g).pushFrame (.throwing q))
    rw [← hs₂]
    exact hsteps
end Payer
section Calls
variable {p : Program} {l : Launch} {e : Env} {R : Room} {s : State} {m : MethodId} {args : Array Value} {below : List Frame} {meth : Method} {c : Code} {T : State} {locs : List Loc} {cells slots : Nat}
theorem vx_callV (X : Stand p l e R s m args below meth c T locs cells slots) (hexec : p.tables.exec = Jvm.exec) {own C : String} {index : Nat} {y : MethodName} {bytes : ByteArray} {maxL : Nat} {ret : Option FieldType}
    (hown : s.vm.findClass own = some m.cls) (hlink : (Cond.methodLink own index y).before args s = true) (hinst : (Cond.instanceMethod y).before args s = true) (hsel : (Cond.selects C y y).before args s = true)
    (hcode : (Cond.code y bytes maxL ret).before args s = true) (hy : y.cls ≠ "java/lang/invoke/MethodHandle" ∧ y.cls ≠ "java/lang/invoke/VarHandle")
    {W9 : Nat} {Pre : Pt → Array Value → Prop} {Post : Pt → Array Value → Option Value → Pt → Prop} {PostX : Pt → Array Value → Addr → Pt → Prop} (hK : vx_Back l R p e below s args y 3 W9 Pre Post PostX)
    {b : Addr} {cellB : Cell} (hcell : T.heap[b]? = some cellB) (hobj : cellB.vm.isStatics = false) (hcls : s.vm.findClass C = some cellB.cls)
    {g : JFrame} (hg : g.method = m) (hsize : g.locals.size = c.maxLocals) {argsL rest : List Value} (hlen : ∀ sig, parseMethodDescriptor y.desc = some sig → argsL.length = sig.parameters.length)
    (hstack : g.stack = argsL.reverse ++ .ref b :: rest) (hW : 2 * g.monitorRoom + (rest.map fun v => v.category).sum ≤ W9) (hdg : decode c.code g.pc = .ok (.invokevirtual index, 3))
    (hpre : ∀ vm₁, s.WarmedH vm₁ → Pre ⟨T.setVm vm₁, locs, cells, slots⟩ (Value.ref b :: argsL).toArray) :
    (∃ (v : Option Value) (vm₁ : Vm) (B : Pt), s.WarmedH vm₁ ∧ Stand p l e R s m args below meth c B.U B.locs B.cells B.slots ∧ Post ⟨T.setVm vm₁, locs, cells, slots⟩ (Value.ref b :: argsL).toArray v B ∧
      ∀ target, Steps p.tables e below (B.U.setTop { g with pc := g.pc + 3, stack := v.toList ++ rest }) target → Steps p.tables e below (T.setTop g) target) ∨
    (∃ (q : Addr) (vm₁ : Vm) (B : Pt), s.WarmedH vm₁ ∧ Stand p l e R s m args below meth c B.U B.locs B.cells B.slots ∧ PostX ⟨T.setVm vm₁, locs, cells, slots⟩ (Value.ref b :: argsL).toArray q B ∧
      Steps p.tables e below (T.setTop g) ((B.U.setTop { g with stack := rest }).pushFrame (.throwing q))) := by
  obtain ⟨mk, methM, hnamed, hmethM, hstM, habM⟩ := Cond.instanceMethod_spec hinst
  obtain ⟨methM', cM, hmethM', -, -, -, -, -, -, hsigM⟩ := Cond.code_spec hnamed hcode
  cases hmethM.symm.trans hmethM'
  obtain ⟨c2, r2, m2, q1, q2, q3, q4, kP, hkP, hkPi⟩ := Cond.selects_spec hsel
  cases hcls.symm.trans q1
  cases (State.methodFound?_of_named hnamed hy).symm.trans q2
  cases hnamed.symm.trans q3
  have hselP : selectMethod e.platform s.vm cellB.cls mk = .method mk := by rw [Launch.admits_selectMethod X.admits]; exact q4
  obtain ⟨vm₁, X₁, hstep₁⟩ := X.invokevirtual hexec hown hlink hnamed hmethM hstM hkP hkPi hy (a := b) (cell := cellB) hcell
    (fun z h => by rw [h] at hobj; cases hobj) hselP hmethM habM hkP hkPi (g := g) hg (argsL := argsL) (rest := rest) (hlen _ hsigM) hstack hdg
  rcases hK m meth c ⟨T.setVm vm₁, locs, cells, slots⟩ { g with stack := rest } (.invokevirtual index) mk (Value.ref b :: argsL).toArray X₁ hg hsize hdg hW (X₁.named hnamed) (hpre vm₁ X₁.warmed) with ⟨v, B, X', hpost, hsteps⟩ | ⟨q, B, X', hpost, hsteps⟩
  · exact Or.inl ⟨v, vm₁, B, X₁.warmed, X', hpost, fun target h => hstep₁ _ fun acts => by rw [doInvoke_state]; exact hsteps.trans h⟩
  · exact Or.inr ⟨q, vm₁, B, X₁.warmed, X', hpost, hstep₁ _ fun acts => by rw [doInvoke_state]; exact hsteps⟩
theorem vx_callS (X : Stand p l e R s m args below meth c T locs cells slots) (hexec : p.tables.exec = Jvm.exec) {own : String} {index : Nat} {y : MethodName} {bytes : ByteArray} {maxL : Nat} {ret : Option FieldType}
    (hown : s.vm.findClass own = some m.cls) (hlink : (Cond.methodLink own index y).before args s = true) (hstat : (Cond.static y).before args s = true) (hinit : (Cond.initialized y.cls).before args s = true)
    (hcode : (Cond.code y bytes maxL ret).before args s = true) (hy : y.cls ≠ "java/lang/invoke/MethodHandle" ∧ y.cls ≠ "java/lang/invoke/VarHandle")
    {W9 : Nat} {Pre : Pt → Array Value → Prop} {Post : Pt → Array Value → Option Value → Pt → Prop} {PostX : Pt → Array Value → Addr → Pt → Prop} (hK : vx_Back l R p e below s args y 3 W9 Pre Post PostX)
    {g : JFrame} (hg : g.method = m) (hsize : g.locals.size = c.maxLocals) {argsL rest : List Value} (hlen : ∀ sig, parseMethodDescriptor y.desc = some sig → argsL.length = sig.parameters.length)
    (hstack : g.stack = argsL.reverse ++ rest) (hW : 2 * g.monitorRoom + (rest.map fun v => v.category).sum ≤ W9) (hdg : decode c.code g.pc = .ok (.invokestatic index, 3))
    (hpre : ∀ vm₁, s.WarmedH vm₁ → Pre ⟨T.setVm vm₁, locs, cells, slots⟩ argsL.toArray) :
    (∃ (v : Option Value) (vm₁ : Vm) (B : Pt), s.WarmedH vm₁ ∧ Stand p l e R s m args below meth c B.U B.locs B.cells B.slots ∧ Post ⟨T.setVm vm₁, locs, cells, slots⟩ argsL.toArray v B ∧
      ∀ target, Steps p.tables e below (B.U.setTop { g with pc := g.pc + 3, stack := v.toList ++ rest }) target → Steps p.tables e below (T.setTop g) target) ∨
    (∃ (q : Addr) (vm₁ : Vm) (B : Pt), s.WarmedH vm₁ ∧ Stand p l e R s m args below meth c B.U B.locs B.cells B.slots ∧ PostX ⟨T.setVm vm₁, locs, cells, slots⟩ argsL.toArray q B ∧
      Steps p.tables e below (T.setTop g) ((B.U.setTop { g with stack := rest }).pushFrame (.throwing q))) := by
  obtain ⟨mk, hnamed⟩ := Cond.code_named hcode
  obtain ⟨methM, cM, hmethM, -, -, -, -, -, -, hsigM⟩ := Cond.code_spec hnamed hcode
  have hstatic : methM.isStatic = true := Cond.static_spec hnamed hmethM hstat
  obtain ⟨kP, hkP, -⟩ := className_of_methodNamed hnamed
  have hinitP : kP.init = .initialized := Cond.initialized_spec (findClass_of_methodNamed hnamed) hkP hinit
  obtain ⟨vm₁, X₁, hstep₁⟩ := X.invokestatic hexec hown hlink hnamed hmethM hstatic hkP hinitP hy (g := g) hg (argsL := argsL) (rest := rest) (hlen _ hsigM) hstack hdg
  rcases hK m meth c ⟨T.setVm vm₁, locs, cells, slots⟩ { g with stack := rest } (.invokestatic index) mk argsL.toArray X₁ hg hsize hdg hW (X₁.named hnamed) (hpre vm₁ X₁.warmed) with ⟨v, B, X', hpost, hsteps⟩ | ⟨q, B, X', hpost, hsteps⟩
  · exact Or.inl ⟨v, vm₁, B, X₁.warmed, X', hpost, fun target h => hstep₁ _ fun acts => by rw [doInvoke_state]; exact hsteps.trans h⟩
  · exact Or.inr ⟨q, vm₁, B, X₁.warmed, X', hpost, hstep₁ _ fun acts => by rw [doInvoke_state]; exact hsteps⟩
end Calls
theorem vx_cls {s : State} {T : State} {vm₁ : Vm} {E : String} {k : ClassId} (hW : s.WarmedH vm₁) (h : (T.setVm vm₁).vm.findClass E = some k) : s.vm.findClass E = some k := by
  have h1 : vm₁.findClass E = some k := h
  rw [hW.alike.findClass] at h1
  exact h1
/-- the method's frame g, with q thrown over it -/
def vx_W (p : Program) (l : Launch) (e : Env) (R : Room) (s : State) (m : MethodId) (args : Array Value) (below : List Frame) (meth : Method) (c : Code) (H : Heap) (locs : List Loc) (cells slots : Nat) (Q : State → Prop) (g : JFrame) (q : Addr) : Prop :=
  ∀ T : State, T.heap = H → Stand p l e R s m args below meth c T locs cells slots → ∃ t, Steps p.tables e below ((T.setTop g).pushFrame (.throwing q)) t ∧ Q t
def vx_Run (p : Program) (l : Launch) (e : Env) (R : Room) (s : State) (m : MethodId) (args : Array Value) (below : List Frame) (meth : Method) (c : Code) (H : Heap) (locs : List Loc) (cells slots mc ms : Nat) (g : JFrame) (rest : List Value) (Qa : State → Outcome → State → Prop) (XC : String → State → State → Prop) (free : Addr → Prop) : Prop :=
  ∀ T : State, T.heap = H → Stand p l e R s m args below meth c T locs cells slots →
    (∃ (v : Option Value) (st₀ t T' : State) (L : List Loc), st₀.heap = H ∧ Stand p l e R s m args below meth c T' (locs ++ L) (cells + mc) (slots + ms) ∧ (∀ q ∈ L, free q.base) ∧ T'.heap = t.heap ∧ T'.vm = t.vm ∧ Qa st₀ (.returned v) t ∧
      Goes p e below T g T' { g with pc := g.pc + 3, stack := v.toList ++ rest }) ∨
    (∃ (q : Addr) (st₀ t T' : State) (L : List Loc) (E : String) (ce : Cell), st₀.heap = H ∧ Stand p l e R s m args below meth c T' (locs ++ L) (cells + mc) (slots + ms) ∧ (∀ z ∈ L, free z.base) ∧ T'.heap = t.heap ∧ T'.vm = t.vm ∧ XC E st₀ t ∧ t.heap[q]? = some ce ∧ ce.vm = .none ∧ s.vm.findClass E = some ce.cls ∧
      Steps p.tables e below (T.setTop g) ((T'.setTop { g with stack := rest }).pushFrame (.throwing q)))
def vx_X {S : Type} (px : S → Prop) (B : String → S → State → Prop) (A : Nat → Prop) : String → State → State → Prop := fun E st t => ∃ u : S, px u ∧ B E u t ∧ va_F A st t
section Runs
variable {p : Program} {l : Launch} {e : Env} {R : Room} {s : State} {m : MethodId} {args : Array Value} {below : List Frame} {meth : Method} {c : Code} {H : Heap} {locs : List Loc} {cells slots : Nat}
variable {y : MethodName} {bytes cc : ByteArray} {maxL nL mc ms n index : Nat} {ret : Option FieldType} {ws : List Cond} {rm : Room} {Pc : Array Value → State → Prop} {Qc : Array Value → State → Outcome → State → Prop} {XC : String → State → State → Prop} {free : Addr → Prop} {Ts : List Cond} {own C : String} {b : Addr} {As rest : List Value} {g : JFrame}
theorem vx_callBack (cb : CallB R s args own index y bytes maxL ret ws rm mc ms n) (hM : vx_Met l y ws rm Pc Qc XC mc ms free) (hbl : FrameBlind Pc) : vx_Back l R p e below s args y 3 8 (PreOf R mc ms Pc) (PostOf Qc mc ms free) (vx_Post XC mc ms free) := by
  obtain ⟨hrc, hrs, hfr, hlo, hws, hcw, -, hini, -⟩ := cb
  exact vx_back (bytes := bytes) (maxL := maxL) (ret := ret) hM hbl hrc hrs hfr hlo hws hcw (fun a' U hW => word_at hW (Or.inl (by first | rfl | simp [Cond.onTables, Cond.keeps, Cond.steady])) hini)
theorem vx_runV (S : CallFix p m c cc nL s args Ts own) (hM : vx_Met l y ws rm Pc Qc XC mc ms free) (cw : CallW R s args own C index y bytes maxL ret ws rm mc ms n) (hp : PreV s H C b Pc As)
    (hg : g.method = m) (hn : As.length = n) (hsize : g.locals.size = nL) (hstack : g.stack = As.reverse ++ .ref b :: rest) (hW : 2 * g.monitorRoom + (rest.map fun v => v.category).sum ≤ 8) (hdg : decode cc g.pc = .ok (.invokevirtual index, 3)) (hf : cells + mc ≤ R.cells ∧ slots + ms ≤ R.slots) :
    vx_Run p l e R s m args below meth c H locs cells slots mc ms g rest (Qc (Value.ref b :: As).toArray) XC free := by
  have hK : vx_Back l R p e below s args y 3 8 (PreOf R mc ms Pc) (PostOf Qc mc ms free) (vx_Post XC mc ms free) := vx_callBack cw.1 hM hp.1
  obtain ⟨⟨-, -, -, -, -, -, hcode, -, hy, hlen, hl⟩, hin, hse⟩ := cw
  obtain ⟨hx, hb, hml, ho, -⟩ := S
  obtain ⟨-, ⟨cellB, hcB, hoB, hclB⟩, hPc⟩ := hp
  intro T hT X
  rcases vx_callV X hx (C := C) (bytes := bytes) (maxL := maxL) (ret := ret) ho hl hin hse hcode hy hK (by rw [hT]; exact hcB) hoB hclB hg (hsize.trans hml.symm) (argsL := As) (rest := rest) (fun sig h => hn.trans (hlen sig h)) hstack hW (by rw [hb]; exact hdg)
    (fun vm₁ hW₁ => ⟨hf.1, hf.2, hPc (T.setVm vm₁) hT hW₁⟩) with ⟨v, vm₁, ⟨U', l2, c2, s2⟩, hW₁, X', ⟨g', mk, t, L, e1, e2, hq, h1, hL, h2, h3⟩, st⟩ | ⟨q, vm₁, ⟨U', l2, c2, s2⟩, hW₁, X', ⟨g', mk, t, L, E, ce, e1, e2, hq, hce, hcv, hcl, h1, hL, h2, h3⟩, st⟩
  · dsimp only [Pt.U, Pt.locs, Pt.cells, Pt.slots] at X' e1 e2 h1 h2 h3 st
    subst h1; subst h2; subst h3
    exact Or.inl ⟨v, (T.setVm vm₁).calling g' mk (Value.ref b :: As).toArray, t, U', L, hT, X', hL, e1, e2, hq, st⟩
  · dsimp only [Pt.U, Pt.locs, Pt.cells, Pt.slots] at X' e1 e2 h1 h2 h3 st hcl
    subst h1; subst h2; subst h3
    exact Or.inr ⟨q, (T.setVm vm₁).calling g' mk (Value.ref b :: As).toArray, t, U', L, E, ce, hT, X', hL, e1, e2, hq, hce, hcv, vx_cls hW₁ hcl, st⟩
theorem vx_runS (S : CallFix p m c cc nL s args Ts own) (hM : vx_Met l y ws rm Pc Qc XC mc ms free) (cw : CallB R s args own index y bytes maxL ret ws rm mc ms n ∧ (Cond.static y).before args s = true) (hp : PreS s H Pc As)
    (hg : g.method = m) (hn : As.length = n) (hsize : g.locals.size = nL) (hstack : g.stack = As.reverse ++ rest) (hW : 2 * g.monitorRoom + (rest.map fun v => v.category).sum ≤ 8) (hdg : decode cc g.pc = .ok (.invokestatic index, 3)) (hf : cells + mc ≤ R.cells ∧ slots + ms ≤ R.slots) :
    vx_Run p l e R s m args below meth c H locs cells slots mc ms g rest (Qc As.toArray) XC free := by
  have hK : vx_Back l R p e below s args y 3 8 (PreOf R mc ms Pc) (PostOf Qc mc ms free) (vx_Post XC mc ms free) := vx_callBack cw.1 hM hp.1
  obtain ⟨⟨-, -, -, -, -, -, hcode, hini, hy, hlen, hl⟩, hstt⟩ := cw
  obtain ⟨hx, hb, hml, ho, -⟩ := S
  intro T hT X
  rcases vx_callS X hx (bytes := bytes) (maxL := maxL) (ret := ret) ho hl hstt hini hcode hy hK hg (hsize.trans hml.symm) (argsL := As) (rest := rest) (fun sig h => hn.trans (hlen sig h)) hstack hW (by rw [hb]; exact hdg)
    (fun vm₁ hW₁ => ⟨hf.1, hf.2, hp.2 (T.setVm vm₁) hT hW₁⟩) with ⟨v, vm₁, ⟨U', l2, c2, s2⟩, hW₁, X', ⟨g', mk, t, L, e1, e2, hq, h1, hL, h2, h3⟩, st⟩ | ⟨q, vm₁, ⟨U', l2, c2, s2⟩, hW₁, X', ⟨g', mk, t, L, E, ce, e1, e2, hq, hce, hcv, hcl, h1, hL, h2, h3⟩, st⟩
  · dsimp only [Pt.U, Pt.locs, Pt.cells, Pt.slots] at X' e1 e2 h1 h2 h3 st
    subst h1; subst h2; subst h3
    exact Or.inl ⟨v, (T.setVm vm₁).calling g' mk As.toArray, t, U', L, hT, X', hL, e1, e2, hq, st⟩
  · dsimp only [Pt.U, Pt.locs, Pt.cells, Pt.slots] at X' e1 e2 h1 h2 h3 st hcl
    subst h1; subst h2; subst h3
    exact Or.inr ⟨q, (T.setVm vm₁).calling g' mk As.toArray, t, U', L, E, ce, hT, X', hL, e1, e2, hq, hce, hcv, vx_cls hW₁ hcl, st⟩
end Runs
section Rows
variable {p : Program} {l : Launch} {e : Env} {R : Room} {s : State} {m : MethodId} {args : Array Value} {below : List Frame} {meth : Method} {c : Code} {H : Heap} {locs : List Loc} {cells slots : Nat} {Q : State → Prop}
variable {mc ms : Nat} {free : Addr → Prop} {A0 A1 : Nat → Prop} {H0 : Heap} {a : Array Value} {pc : Nat} {ls : Array Slot} {st0 rest : List Value}
theorem vx_keep {st₀ t T' : State} {L : List Loc} (h0 : st₀.heap = H) (e1 : T'.heap = t.heap) (hS : va_S A0 H0 H locs) (hA : ∀ q, q < H.size → A1 q → A0 q) (hf : ∀ q, free q → A0 q) (hL : ∀ q ∈ L, free q.base) (hF : va_F A1 st₀ t) :
    H.size ≤ T'.heap.size ∧ (∀ q : Nat, q < H.size → ¬ A1 q → T'.heap[q]? = H[q]?) ∧ va_S A0 H0 T'.heap (locs ++ L) := by
  obtain ⟨hz, hk⟩ := hF
  rw [h0] at hz hk
  exact ⟨by rw [e1]; exact hz, fun q h1 h2 => by rw [e1]; exact hk q h1 h2,
    ⟨Nat.le_trans hS.1 (by rw [e1]; exact hz), fun q h1 h2 => by rw [e1, hk q (Nat.lt_of_lt_of_le h1 hS.1) (fun z => h2 (hA q (Nat.lt_of_lt_of_le h1 hS.1) z))]; exact hS.2.1 q h1 h2, fun q hq => by
      rcases List.mem_append.mp hq with h | h
      · exact hS.2.2 q h
      · exact hf _ (hL q h)⟩⟩
theorem vx_calli {S SX : Type} {post : Int32 → S → Prop} {px : SX → Prop} {B : S → State → Prop} {BX : String → SX → State → Prop} {AX : Nat → Prop} (hr : vx_Run p l e R s m args below meth c H locs cells slots mc ms (F0 m pc ls st0) rest (va_Qi post B A1 a) (vx_X px BX AX) free) (hS : va_S A0 H0 H locs) (hA : ∀ q, q < H.size → A1 q → A0 q) (hf : ∀ q, free q → A0 q) (hAX : ∀ q, q < H.size → AX q → A0 q)
    (kx : ∀ (E : String) (ce : Cell) (q9 : Addr) (u : SX) (t : State) (H1 : Heap) (locs1 : List Loc), t.heap = H1 → s.vm.Alike t.vm → px u → BX E u t → H.size ≤ H1.size → (∀ q : Nat, q < H.size → ¬ AX q → H1[q]? = H[q]?) → va_S A0 H0 H1 locs1 → H1[q9]? = some ce → ce.vm = .none → s.vm.findClass E = some ce.cls → vx_W p l e R s m args below meth c H1 locs1 (cells + mc) (slots + ms) Q (F0 m pc ls rest) q9)
    (kk : ∀ (r : Int32) (u : S) (t : State) (H1 : Heap) (locs1 : List Loc), t.heap = H1 → s.vm.Alike t.vm → post r u → B u t → H.size ≤ H1.size → (∀ q : Nat, q < H.size → ¬ A1 q → H1[q]? = H[q]?) → va_S A0 H0 H1 locs1 → W p l e R s m args below meth c H1 locs1 (cells + mc) (slots + ms) Q (F0 m (pc + 3) ls (.int r :: rest))) : W p l e R s m args below meth c H locs cells slots Q (F0 m pc ls st0) := by
  intro T hT X
  rcases hr T hT X with ⟨v, st₀, t, T', L, h0, X', hL, e1, e2, ⟨⟨r, u, hv, hp, hb⟩, hF⟩, st⟩ | ⟨q, st₀, t, T', L, E, ce, h0, X', hL, e1, e2, ⟨u, hp, hb, hF⟩, hce, hcv, hcl, st⟩
  · cases hv
    obtain ⟨k1, k2, k3⟩ := vx_keep h0 e1 hS hA hf hL hF
    obtain ⟨t2, a1, b1⟩ := kk r u t T'.heap (locs ++ L) e1.symm (by rw [← e2]; exact X'.warmed.alike) hp hb k1 k2 k3 T' rfl X'
    exact ⟨t2, st t2 a1, b1⟩
  · obtain ⟨k1, k2, k3⟩ := vx_keep h0 e1 hS hAX hf hL hF
    obtain ⟨t2, a1, b1⟩ := kx E ce q u t T'.heap (locs ++ L) e1.symm (by rw [← e2]; exact X'.warmed.alike) hp hb k1 k2 k3 (by rw [e1]; exact hce) hcv hcl T' rfl X'
    exact ⟨t2, st.trans a1, b1⟩
theorem vx_calll {S SX : Type} {post : Int64 → S → Prop} {px : SX → Prop} {B : S → State → Prop} {BX : String → SX → State → Prop} {AX : Nat → Prop} (hr : vx_Run p l e R s m args below meth c H locs cells slots mc ms (F0 m pc ls st0) rest (va_Ql post B A1 a) (vx_X px BX AX) free) (hS : va_S A0 H0 H locs) (hA : ∀ q, q < H.size → A1 q → A0 q) (hf : ∀ q, free q → A0 q) (hAX : ∀ q, q < H.size → AX q → A0 q)
    (kx : ∀ (E : String) (ce : Cell) (q9 : Addr) (u : SX) (t : State) (H1 : Heap) (locs1 : List Loc), t.heap = H1 → s.vm.Alike t.vm → px u → BX E u t → H.size ≤ H1.size → (∀ q : Nat, q < H.size → ¬ AX q → H1[q]? = H[q]?) → va_S A0 H0 H1 locs1 → H1[q9]? = some ce → ce.vm = .none → s.vm.findClass E = some ce.cls → vx_W p l e R s m args below meth c H1 locs1 (cells + mc) (slots + ms) Q (F0 m pc ls rest) q9)
    (kk : ∀ (r : Int64) (u : S) (t : State) (H1 : Heap) (locs1 : List Loc), t.heap = H1 → s.vm.Alike t.vm → post r u → B u t → H.size ≤ H1.size → (∀ q : Nat, q < H.size → ¬ A1 q → H1[q]? = H[q]?) → va_S A0 H0 H1 locs1 → W p l e R s m args below meth c H1 locs1 (cells + mc) (slots + ms) Q (F0 m (pc + 3) ls (.long r :: rest))) : W p l e R s m args below meth c H locs cells slots Q (F0 m pc ls st0) := by
  intro T hT X
  rcases hr T hT X with ⟨v, st₀, t, T', L, h0, X', hL, e1, e2, ⟨⟨r, u, hv, hp, hb⟩, hF⟩, st⟩ | ⟨q, st₀, t, T', L, E, ce, h0, X', hL, e1, e2, ⟨u, hp, hb, hF⟩, hce, hcv, hcl, st⟩
  · cases hv
    obtain ⟨k1, k2, k3⟩ := vx_keep h0 e1 hS hA hf hL hF
    obtain ⟨t2, a1, b1⟩ := kk r u t T'.heap (locs ++ L) e1.symm (by rw [← e2]; exact X'.warmed.alike) hp hb k1 k2 k3 T' rfl X'
    exact ⟨t2, st t2 a1, b1⟩
  · obtain ⟨k1, k2, k3⟩ := vx_keep h0 e1 hS hAX hf hL hF
    obtain ⟨t2, a1, b1⟩ := kx E ce q u t T'.heap (locs ++ L) e1.symm (by rw [← e2]; exact X'.warmed.alike) hp hb k1 k2 k3 (by rw [e1]; exact hce) hcv hcl T' rfl X'
    exact ⟨t2, st.trans a1, b1⟩
theorem vx_callf {S SX : Type} {post : UInt32 → S → Prop} {px : SX → Prop} {B : S → State → Prop} {BX : String → SX → State → Prop} {AX : Nat → Prop} (hr : vx_Run p l e R s m args below meth c H locs cells slots mc ms (F0 m pc ls st0) rest (va_Qf post B A1 a) (vx_X px BX AX) free) (hS : va_S A0 H0 H locs) (hA : ∀ q, q < H.size → A1 q → A0 q) (hf : ∀ q, free q → A0 q) (hAX : ∀ q, q < H.size → AX q → A0 q)
    (kx : ∀ (E : String) (ce : Cell) (q9 : Addr) (u : SX) (t : State) (H1 : Heap) (locs1 : List Loc), t.heap = H1 → s.vm.Alike t.vm → px u → BX E u t → H.size ≤ H1.size → (∀ q : Nat, q < H.size → ¬ AX q → H1[q]? = H[q]?) → va_S A0 H0 H1 locs1 → H1[q9]? = some ce → ce.vm = .none → s.vm.findClass E = some ce.cls → vx_W p l e R s m args below meth c H1 locs1 (cells + mc) (slots + ms) Q (F0 m pc ls rest) q9)
    (kk : ∀ (r : UInt32) (u : S) (t : State) (H1 : Heap) (locs1 : List Loc), t.heap = H1 → s.vm.Alike t.vm → post r u → B u t → H.size ≤ H1.size → (∀ q : Nat, q < H.size → ¬ A1 q → H1[q]? = H[q]?) → va_S A0 H0 H1 locs1 → W p l e R s m args below meth c H1 locs1 (cells + mc) (slots + ms) Q (F0 m (pc + 3) ls (.float r :: rest))) : W p l e R s m args below meth c H locs cells slots Q (F0 m pc ls st0) := by
  intro T hT X
  rcases hr T hT X with ⟨v, st₀, t, T', L, h0, X', hL, e1, e2, ⟨⟨r, u, hv, hp, hb⟩, hF⟩, st⟩ | ⟨q, st₀, t, T', L, E, ce, h0, X', hL, e1, e2, ⟨u, hp, hb, hF⟩, hce, hcv, hcl, st⟩
  · cases hv
    obtain ⟨k1, k2, k3⟩ := vx_keep h0 e1 hS hA hf hL hF
    obtain ⟨t2, a1, b1⟩ := kk r u t T'.heap (locs ++ L) e1.symm (by rw [← e2]; exact X'.warmed.alike) hp hb k1 k2 k3 T' rfl X'
    exact ⟨t2, st t2 a1, b1⟩
  · obtain ⟨k1, k2, k3⟩ := vx_keep h0 e1 hS hAX hf hL hF
    obtain ⟨t2, a1, b1⟩ := kx E ce q u t T'.heap (locs ++ L) e1.symm (by rw [← e2]; exact X'.warmed.alike) hp hb k1 k2 k3 (by rw [e1]; exact hce) hcv hcl T' rfl X'
    exact ⟨t2, st.trans a1, b1⟩
theorem vx_calld {S SX : Type} {post : UInt64 → S → Prop} {px : SX → Prop} {B : S → State → Prop} {BX : String → SX → State → Prop} {AX : Nat → Prop} (hr : vx_Run p l e R s m args below meth c H locs cells slots mc ms (F0 m pc ls st0) rest (va_Qd post B A1 a) (vx_X px BX AX) free) (hS : va_S A0 H0 H locs) (hA : ∀ q, q < H.size → A1 q → A0 q) (hf : ∀ q, free q → A0 q) (hAX : ∀ q, q < H.size → AX q → A0 q)
    (kx : ∀ (E : String) (ce : Cell) (q9 : Addr) (u : SX) (t : State) (H1 : Heap) (locs1 : List Loc), t.heap = H1 → s.vm.Alike t.vm → px u → BX E u t → H.size ≤ H1.size → (∀ q : Nat, q < H.size → ¬ AX q → H1[q]? = H[q]?) → va_S A0 H0 H1 locs1 → H1[q9]? = some ce → ce.vm = .none → s.vm.findClass E = some ce.cls → vx_W p l e R s m args below meth c H1 locs1 (cells + mc) (slots + ms) Q (F0 m pc ls rest) q9)
    (kk : ∀ (r : UInt64) (u : S) (t : State) (H1 : Heap) (locs1 : List Loc), t.heap = H1 → s.vm.Alike t.vm → post r u → B u t → H.size ≤ H1.size → (∀ q : Nat, q < H.size → ¬ A1 q → H1[q]? = H[q]?) → va_S A0 H0 H1 locs1 → W p l e R s m args below meth c H1 locs1 (cells + mc) (slots + ms) Q (F0 m (pc + 3) ls (.double r :: rest))) : W p l e R s m args below meth c H locs cells slots Q (F0 m pc ls st0) := by
  intro T hT X
  rcases hr T hT X with ⟨v, st₀, t, T', L, h0, X', hL, e1, e2, ⟨⟨r, u, hv, hp, hb⟩, hF⟩, st⟩ | ⟨q, st₀, t, T', L, E, ce, h0, X', hL, e1, e2, ⟨u, hp, hb, hF⟩, hce, hcv, hcl, st⟩
  · cases hv
    obtain ⟨k1, k2, k3⟩ := vx_keep h0 e1 hS hA hf hL hF
    obtain ⟨t2, a1, b1⟩ := kk r u t T'.heap (locs ++ L) e1.symm (by rw [← e2]; exact X'.warmed.alike) hp hb k1 k2 k3 T' rfl X'
    exact ⟨t2, st t2 a1, b1⟩
  · obtain ⟨k1, k2, k3⟩ := vx_keep h0 e1 hS hAX hf hL hF
    obtain ⟨t2, a1, b1⟩ := kx E ce q u t T'.heap (locs ++ L) e1.symm (by rw [← e2]; exact X'.warmed.alike) hp hb k1 k2 k3 (by rw [e1]; exact hce) hcv hcl T' rfl X'
    exact ⟨t2, st.trans a1, b1⟩
theorem vx_callv {S SX : Type} {post : S → Prop} {px : SX → Prop} {B : S → State → Prop} {BX : String → SX → State → Prop} {AX : Nat → Prop} (hr : vx_Run p l e R s m args below meth c H locs cells slots mc ms (F0 m pc ls st0) rest (va_Qv post B A1 a) (vx_X px BX AX) free) (hS : va_S A0 H0 H locs) (hA : ∀ q, q < H.size → A1 q → A0 q) (hf : ∀ q, free q → A0 q) (hAX : ∀ q, q < H.size → AX q → A0 q)
    (kx : ∀ (E : String) (ce : Cell) (q9 : Addr) (u : SX) (t : State) (H1 : Heap) (locs1 : List Loc), t.heap = H1 → s.vm.Alike t.vm → px u → BX E u t → H.size ≤ H1.size → (∀ q : Nat, q < H.size → ¬ AX q → H1[q]? = H[q]?) → va_S A0 H0 H1 locs1 → H1[q9]? = some ce → ce.vm = .none → s.vm.findClass E = some ce.cls → vx_W p l e R s m args below meth c H1 locs1 (cells + mc) (slots + ms) Q (F0 m pc ls rest) q9)
    (kk : ∀ (u : S) (t : State) (H1 : Heap) (locs1 : List Loc), t.heap = H1 → s.vm.Alike t.vm → post u → B u t → H.size ≤ H1.size → (∀ q : Nat, q < H.size → ¬ A1 q → H1[q]? = H[q]?) → va_S A0 H0 H1 locs1 → W p l e R s m args below meth c H1 locs1 (cells + mc) (slots + ms) Q (F0 m (pc + 3) ls (rest))) : W p l e R s m args below meth c H locs cells slots Q (F0 m pc ls st0) := by
  intro T hT X
  rcases hr T hT X with ⟨v, st₀, t, T', L, h0, X', hL, e1, e2, ⟨⟨u, hv, hp, hb⟩, hF⟩, st⟩ | ⟨q, st₀, t, T', L, E, ce, h0, X', hL, e1, e2, ⟨u, hp, hb, hF⟩, hce, hcv, hcl, st⟩
  · cases hv
    obtain ⟨k1, k2, k3⟩ := vx_keep h0 e1 hS hA hf hL hF
    obtain ⟨t2, a1, b1⟩ := kk u t T'.heap (locs ++ L) e1.symm (by rw [← e2]; exact X'.warmed.alike) hp hb k1 k2 k3 T' rfl X'
    exact ⟨t2, st t2 a1, b1⟩
  · obtain ⟨k1, k2, k3⟩ := vx_keep h0 e1 hS hAX hf hL hF
    obtain ⟨t2, a1, b1⟩ := kx E ce q u t T'.heap (locs ++ L) e1.symm (by rw [← e2]; exact X'.warmed.alike) hp hb k1 k2 k3 (by rw [e1]; exact hce) hcv hcl T' rfl X'
    exact ⟨t2, st.trans a1, b1⟩
/-- caught by the row x of this method's table; the rows ahead don't take it -/
theorem vx_catch {own name : String} {E : String} {ce : Cell} {q : Addr} (hown : s.vm.findClass own = some m.cls) (pre : List ExceptionTableEntry) (x : ExceptionTableEntry) (suf : List ExceptionTableEntry) (hsplit : c.exceptionTable.toList = pre ++ x :: suf)
    (hpass : ∀ z ∈ pre, covers z pc = false ∨ (z.catchType ≠ 0 ∧ ∃ nm : String, (Cond.classLink own z.catchType nm).before args s = true ∧ va_Nc E nm s)) (hx : covers x pc = true) (h0 : x.catchType ≠ 0)
    (hlink : (Cond.classLink own x.catchType name).before args s = true) (hcast : (Cond.castable E name).before args s = true) (hcell : H[q]? = some ce) (hv : ce.vm = .none) (hcl : s.vm.findClass E = some ce.cls)
    (kk : W p l e R s m args below meth c H locs cells slots Q (F0 m x.handlerPc ls [.ref q])) : vx_W p l e R s m args below meth c H locs cells slots Q (F0 m pc ls rest) q := by
  intro T hT X
  have hpl : e.platform.magicAccessors = ({} : Platform).magicAccessors := by rw [X.admits.platform]
  obtain ⟨c3, c4, hc3, hc4, hasg⟩ := Cond.castable_spec hcast
  cases Option.some.inj (hc3.symm.trans hcl)
  obtain ⟨c5, hc5, hcl5⟩ := Cond.classLink_spec hown hlink e.platform hpl
  cases Option.some.inj (hc4.symm.trans hc5)
  obtain ⟨vm', X', st⟩ := X.thenCaughtThrough q (g := F0 m pc ls rest) rfl (Steps.refl _) (by rw [hT]; exact hcell) (by rw [hv]; rfl) (by obtain ⟨k9, h9, -⟩ := Vm.findClass_spec hcl; exact ⟨k9, h9⟩) pre x suf hsplit
    (fun z hz => by
      rcases hpass z hz with h | ⟨hz0, nm, hl1, hn1⟩
      · exact Or.inl h
      · obtain ⟨c6, hc6, hcl6⟩ := Cond.classLink_spec hown hl1 e.platform hpl
        obtain ⟨a8, b8, h1, h2, h3⟩ := hn1
        cases Option.some.inj (h1.symm.trans hcl)
        cases Option.some.inj (h2.symm.trans hc6)
        exact Or.inr ⟨hz0, _, hcl6, h3⟩) hx (Or.inr ⟨h0, c4, hcl5, hasg⟩)
  obtain ⟨t, a1, b1⟩ := kk (T.setVm vm') hT X'
  exact ⟨t, st.trans a1, b1⟩
end Rows
section Ends
variable {p : Program} {l : Launch} {e : Env} {R : Room} {s : State} {m : MethodId} {args : Array Value} {below : List Frame} {meth : Method} {c : Code} {H : Heap} {locs : List Loc} {cells slots : Nat} {Q : State → Prop}
variable {mc ms : Nat} {free : Addr → Prop} {A0 A1 : Nat → Prop} {H0 : Heap} {a : Array Value} {ls : Array Slot} {st0 rest : List Value}
variable {Qc : Array Value → State → Outcome → State → Prop} {XC : String → State → State → Prop}
/-- what a body that may throw owes at its end -/
def vx_MQ (below : List Frame) (Qc : Array Value → State → Outcome → State → Prop) (XC : String → State → State → Prop) (a : Array Value) (s : State) (mc ms : Nat) (free : Addr → Prop) : State → Prop := fun t =>
  ∃ o, t.status = .running ∧ Ended t below o ∧ vx_Q Qc XC mc ms free a s o t
theorem vx_ret {g : JFrame} {mc ms : Nat} (k : W p l e R s m args below meth c H locs cells slots (MQ below Qc args s mc ms free) g) : W p l e R s m args below meth c H locs cells slots (vx_MQ below Qc XC args s mc ms free) g := by
  intro T hT X
  obtain ⟨t, a1, o, b1, b2, b3, b4⟩ := k T hT X
  exact ⟨t, a1, o, b1, b2, Or.inl ⟨b3, b4⟩⟩
/-- not caught here: it goes on to the caller -/
theorem vx_widen {g : JFrame} {q : Addr} {k n : Nat} (h1 : cells ≤ k) (h2 : slots ≤ n) (kk : vx_W p l e R s m args below meth c H locs k n Q g q) : vx_W p l e R s m args below meth c H locs cells slots Q g q := fun T hT X => kk T hT (stand_widen X h1 h2)
theorem vx_out {pc : Nat} {E : String} {ce : Cell} {q : Addr} {mc ms : Nat} (hout : ∀ x ∈ c.exceptionTable.toList, covers x pc = false) (hlocks : meth.locks = false) (hcell : H[q]? = some ce) (hv : ce.vm = .none) (hcl : s.vm.findClass E = some ce.cls)
    (hx : ∀ t : State, t.heap = H → s.vm.Alike t.vm → XC E s t) (hf : ∀ z ∈ locs, free z.base) (hc : cells ≤ mc) (hs : slots ≤ ms) :
    vx_W p l e R s m args below meth c H locs cells slots (vx_MQ below Qc XC args s mc ms free) (F0 m pc ls rest) q := by
  intro T hT X
  obtain ⟨st1, hrun, hend, hW, hsm⟩ := X.leaveThrown q (g := F0 m pc ls rest) rfl rfl rfl hout hlocks
  have hcell9 : (T.setFrames (.throwing q :: below)).heap[q]? = some ce := by
    show T.heap[q]? = some ce
    rw [hT]; exact hcell
  exact ⟨_, st1, .threw q, hrun, hend, Or.inr ⟨q, rfl, E, ce, locs, hx _ hT hW.alike, hcell9, hv, hcl, hW, hsm.mono hc hs, hf⟩⟩
theorem vx_frame {U : State} {k n : Nat} (h : s.sameButNew ({ U with vm := s.vm } : State) locs k n) : s.heap.size ≤ U.heap.size ∧ ∀ q : Nat, q < s.heap.size → (∀ z ∈ locs, z.base ≠ q) → U.heap[q]? = s.heap[q]? := by
  obtain ⟨-, h2, -, -, -, h6⟩ := h
  refine ⟨h2, fun q hq hz => ?_⟩
  obtain ⟨c9, e1, e2, e3, e4⟩ := h6 q _ (Array.getElem?_eq_getElem hq)
  have hs : c9.slots = (s.heap[q]).slots := Array.ext_getElem? fun i => e4 i fun hm => hz _ hm rfl
  have h9 : c9 = s.heap[q] := by
    rw [hs] at e2
    exact e2
  have e5 : U.heap[q]? = some c9 := e1
  rw [e5, h9, Array.getElem?_eq_getElem hq]
/-- the words of a throw but the four that speak of the heap -/
def vx_no (w : Cond) : Bool := decide (w ≠ .isRef (.static Bundle.tN "UNASSIGNED_STACK" Bundle.steD)) && decide (w ≠ .isRef (.static Bundle.tN "SUPPRESSED_SENTINEL" Bundle.listD)) && decide (w ≠ .laysStatic Bundle.tN "UNASSIGNED_STACK" Bundle.steD) && decide (w ≠ .laysStatic Bundle.tN "SUPPRESSED_SENTINEL" Bundle.listD)
def vx_at0 (own : String) (ic : Nat) (X : String) (names : List String) : List Cond := (Bundle.ownAtoms0 own ic X names).filter vx_no
def vx_atS (own : String) (ic : Nat) (X : String) (names : List String) : List Cond := (Bundle.ownAtoms own ic X names).filter vx_no
/-- a word that the tables alone decide, or a good one -/
def vx_ot (w : Cond) : Bool := w.onTables || goodWord w
theorem vx_ot_at {args a' : Array Value} {s U : State} {w : Cond} (hW : s.WarmedH U.vm) (hvm : s.vm = U.vm) (hg : vx_ot w = true) (h : w.before args s = true) : w.before a' U = true := by
  simp only [vx_ot, Bool.or_eq_true] at hg
  rcases hg with hg | hg
  · exact va_tabs hg hvm h
  · exact word_at hW (good_of_word hg) h
/-- a list's words: the good ones out of the method's own list, the others by premises of their own -/
theorem vx_hat {args : Array Value} {s : State} {L B : List Cond} (h1 : ∀ w ∈ L.filter goodWord, w.before args s = true) (h2 : ∀ w ∈ L.filter (fun w => !goodWord w), w ∈ B) (h3 : ∀ w ∈ B, w.before args s = true) : ∀ w ∈ L, w.before args s = true := by
  intro w hw
  by_cases g : goodWord w = true
  · exact h1 w (List.mem_filter.mpr ⟨hw, g⟩)
  · refine h3 w (h2 w (List.mem_filter.mpr ⟨hw, ?_⟩))
    show (!goodWord w) = true
    cases hgw : goodWord w
    · rfl
    · exact absurd hgw g
theorem vx_c {args : Array Value} {s : State} {w : Cond} {B : List Cond} (h : w.before args s = true) (t : ∀ w ∈ B, w.before args s = true) : ∀ w' ∈ w :: B, w'.before args s = true := fun w' h' => (List.mem_cons.mp h').elim (fun e => by rw [e]; exact h) (t w')
theorem vx_n {args : Array Value} {s : State} : ∀ w ∈ ([] : List Cond), w.before args s = true := fun _ h => nomatch h
theorem vx_own {args : Array Value} {s : State} {L : List Cond} (h1 : ∀ w ∈ L.filter vx_no, w.before args s = true)
    (hU : (Cond.isRef (.static Bundle.tN "UNASSIGNED_STACK" Bundle.steD)).before args s = true) (hN : (Cond.isRef (.static Bundle.tN "SUPPRESSED_SENTINEL" Bundle.listD)).before args s = true)
    (lU : (Cond.laysStatic Bundle.tN "UNASSIGNED_STACK" Bundle.steD).before args s = true) (lN : (Cond.laysStatic Bundle.tN "SUPPRESSED_SENTINEL" Bundle.listD).before args s = true) : ∀ w ∈ L, w.before args s = true := by
  intro w hw
  by_cases e1 : w = .isRef (.static Bundle.tN "UNASSIGNED_STACK" Bundle.steD)
  · rw [e1]; exact hU
  · by_cases e2 : w = .isRef (.static Bundle.tN "SUPPRESSED_SENTINEL" Bundle.listD)
    · rw [e2]; exact hN
    · by_cases e3 : w = .laysStatic Bundle.tN "UNASSIGNED_STACK" Bundle.steD
      · rw [e3]; exact lU
      · by_cases e4 : w = .laysStatic Bundle.tN "SUPPRESSED_SENTINEL" Bundle.listD
        · rw [e4]; exact lN
        · exact h1 w (List.mem_filter.mpr ⟨hw, by unfold vx_no; rw [decide_eq_true e1, decide_eq_true e2, decide_eq_true e3, decide_eq_true e4]; rfl⟩)
/-- where a static field lies, its class's statics cell in H -/
def vx_L (C n d : String) (A : Nat → Prop) (U : State) (H : Heap) : Prop := ∃ (c : ClassId) (k : Class) (i : Nat) (f : Field) (a : Nat) (cell : Cell), U.vm.findClass C = some c ∧ U.fieldFound? C n d = some (c, k, i, f) ∧ f.isStatic = true ∧ k.statics = some a ∧ H[a]? = some cell ∧ cell.vm.isStatics = true ∧ cell.cls = c ∧ f.slot < cell.slots.size ∧ k.staticTypes[f.slot]? = some f.type ∧ ¬ A a
theorem vx_L.moved {C n d : String} {A : Nat → Prop} {u U : State} {H : Heap} (hvm : u.vm.Alike U.vm) (h : vx_L C n d A u H) : vx_L C n d A U H := by
  obtain ⟨c, k, i, f, a, cell, h1, h2, h3, h4, h5, h6, h7, h8, h9, h10⟩ := h
  obtain ⟨k', hi', he⟩ := State.fieldFound?_setVm hvm h2
  exact ⟨c, k', i, f, a, cell, by rw [hvm.findClass]; exact h1, hi', h3, by rw [he]; exact h4, h5, h6, h7, h8, by rw [he]; exact h9, h10⟩
theorem vx_L.kept {C n d : String} {A : Nat → Prop} {U : State} {H H1 : Heap} (h : vx_L C n d A U H) (hq : ∀ a : Nat, a < H.size → ¬ A a → H1[a]? = H[a]?) : vx_L C n d A U H1 := by
  obtain ⟨c, k, i, f, a, cell, h1, h2, h3, h4, h5, h6, h7, h8, h9, h10⟩ := h
  exact ⟨c, k, i, f, a, cell, h1, h2, h3, h4, by rw [hq a (Array.getElem?_eq_some_iff.mp h5).1 h10]; exact h5, h6, h7, h8, h9, h10⟩
theorem vx_L.narrow {C n d : String} {A B : Nat → Prop} {U : State} {H : Heap} (h : vx_L C n d A U H) (hAB : ∀ q, B q → A q) : vx_L C n d B U H := by
  obtain ⟨c, k, i, f, a, cell, h1, h2, h3, h4, h5, h6, h7, h8, h9, h10⟩ := h
  exact ⟨c, k, i, f, a, cell, h1, h2, h3, h4, h5, h6, h7, h8, h9, fun z => h10 (hAB _ z)⟩
theorem vx_L.word {C n d : String} {A : Nat → Prop} {s : State} {args : Array Value} (h : vx_L C n d A s s.heap) : (Cond.laysStatic C n d).before args s = true := by
  obtain ⟨c, k, i, f, a, cell, h1, h2, h3, h4, h5, h6, h7, h8, h9, -⟩ := h
  show (Cond.laysStatic C n d).holds args s none s [] = true
  exact Cond.laysStatic_of h1 h2 h3 h4 h5 h6 h7 h8 h9
/-- .. and what it holds: null or some reference -/
def vx_Zq (C n d : String) (A : Nat → Prop) (U : State) (H : Heap) : Prop := va_Zq C n d A U H ∧ vx_L C n d A U H
theorem vx_Zq.moved {C n d : String} {A : Nat → Prop} {u U : State} {H : Heap} (hvm : u.vm.Alike U.vm) (h : vx_Zq C n d A u H) : vx_Zq C n d A U H := ⟨va_Zq.moved hvm h.1, vx_L.moved hvm h.2⟩
theorem vx_Zq.kept {C n d : String} {A : Nat → Prop} {U : State} {H H1 : Heap} (h : vx_Zq C n d A U H) (hq : ∀ a : Nat, a < H.size → ¬ A a → H1[a]? = H[a]?) : vx_Zq C n d A U H1 := ⟨va_Zq.kept h.1 hq, vx_L.kept h.2 hq⟩
theorem vx_Zq.narrow {C n d : String} {A B : Nat → Prop} {U : State} {H : Heap} (h : vx_Zq C n d A U H) (hAB : ∀ q, B q → A q) : vx_Zq C n d B U H := ⟨va_Zq.narrow h.1 hAB, vx_L.narrow h.2 hAB⟩
theorem vx_Zqof {args : Array Value} {s : State} {C n d : String} {A : Nat → Prop} (hl : (Cond.laysStatic C n d).before args s = true) (hini : (Cond.initialized C).before args s = true) (h : (Cond.isRef (.static C n d)).before args s = true) (hA : ∀ a : Nat, a < s.heap.size → ¬ A a) : vx_Zq C n d A s s.heap := by
  refine ⟨va_Zqof hl hini h hA, ?_⟩
  obtain ⟨c, k, i, f, a, cell, h1, h2, h3, h4, h5, h6, h7, h8, h9⟩ := Cond.laysStatic_spec hl
  exact ⟨c, k, i, f, a, cell, h1, h2, h3, h4, h5, h6, h7, h8, h9, hA a (Array.getElem?_eq_some_iff.mp h5).1⟩
theorem vx_isRef {C n d : String} {v : Value} {A : Nat → Prop} {s : State} {args : Array Value} (h : va_Z C n d v A s s.heap) (hv : v.isRef = true) : (Cond.isRef (.static C n d)).before args s = true := by
  obtain ⟨cf, kf, fi, f, a, cell, h1, h2, h3, h4, h5, h6, h7, -⟩ := h
  have he : (Term.static C n d).eval args s none [] s = some v := by
    simp [Term.eval, State.fieldNamed?, h1, h2, h4, h5, h6, h7]
  simp only [Cond.before, Cond.holds, Cond.value, he]
  cases v <;> simp_all [Value.isRef]
theorem vx_isRefq {C n d : String} {A : Nat → Prop} {s : State} {args : Array Value} (h : va_Zq C n d A s s.heap) : (Cond.isRef (.static C n d)).before args s = true := by
  rcases h with h | ⟨t, h⟩
  · exact vx_isRef h rfl
  · exact vx_isRef h rfl
/-- the same frame, seen from here: as if the method were called anew in this heap -/
theorem vx_rebase {T : State} (X : Stand p l e R s m args below meth c T locs cells slots) {R' : Room} (hf : R'.frames ≤ R.frames) (hl : R'.locals ≤ R.locals) (hc : cells + R'.cells ≤ R.cells) (hs : slots + R'.slots ≤ R.slots) :
    Stand p l e R' ((T.setVm s.vm).setFrames (.invoking m args :: below)) m args below meth c T [] 0 0 := by
  have htop : (T.setVm s.vm).topJava?.isSome := X.here.top
  have hF : ((T.setVm s.vm).setFrames (.invoking m args :: below)).frames = .invoking m args :: below := State.frames_setFrames _ (State.cur_lt_of_top htop)
  obtain ⟨g₀, hg0⟩ := Option.isSome_iff_exists.mp htop
  obtain ⟨r, hr⟩ := State.topJava?_eq_some.mp hg0
  have hl9 : e.platform.stackLimits (T.setVm s.vm).me = e.platform.stackLimits s.me := X.limits
  have hb9 : (T.setVm s.vm).me.stackBytes = s.me.stackBytes := X.bytes
  refine ⟨X.admits, X.cas, X.clock, hF, ?_, X.hears, X.method, X.code, X.here, X.tail, X.warmed, ?_, ?_, ?_⟩
  · have h := X.room
    have hU : ((T.setVm s.vm).setFrames (.invoking m args :: below)).localsInUse = s.localsInUse := by
      rw [State.localsInUse_invoking hF (meth := meth) (c := c) X.method X.code, State.localsInUse_invoking X.frames X.method X.code]
    simp only [State.hasRoom, Bool.and_eq_true, decide_eq_true_eq] at h ⊢
    obtain ⟨⟨⟨⟨h1, h2, h3, h4, h5, h6⟩, h7⟩, h8⟩, h9⟩ := h
    rw [X.frames, List.length_cons] at h2 h3
    have q1 := X.heapSize
    have q2 := X.used
    simp only [hF, hU, List.length_cons, State.stackLimits_setFrames, State.stackBytes_setFrames, hl9, hb9]
    refine ⟨⟨⟨⟨by omega, by omega, by omega, by omega, by omega, h6⟩, ?_⟩, ?_⟩, X.book⟩
    · show T.heap.size + R'.cells ≤ e.platform.maxCells
      omega
    · show T.slotsUsed + R'.slots ≤ e.platform.maxSlots
      omega
  · rw [State.stackLimits_setFrames]; rfl
  · rw [State.stackBytes_setFrames]; rfl
  · refine ⟨?_, Nat.le_refl _, Nat.le_refl _, ?_, ?_, fun a c9 h9 => ⟨c9, h9, rfl, rfl, fun _ _ => rfl⟩⟩
    · obtain ⟨t, ht, -⟩ := State.frames_cons hr
      show T.setVm s.vm = { ((T.setVm s.vm).setFrames (.invoking m args :: below)).setFrames (T.setVm s.vm).frames with heap := T.heap, slotsUsed := T.slotsUsed }
      rw [State.setFrames_setFrames, State.setFrames_self ht]
      rfl
    · show T.slotsUsed = T.slotsUsed + ((T.heap.toList.drop T.heap.size).map (·.slots.size)).sum
      rw [List.drop_eq_nil_of_le (Nat.le_of_eq Array.length_toList)]
      rfl
    · show ((T.heap.toList.drop T.heap.size).map (·.slots.size)).sum ≤ 0
      rw [List.drop_eq_nil_of_le (Nat.le_of_eq Array.length_toList)]
      exact Nat.le_refl _
/-- 'throw new E()': new; dup; invokespecial; athrow -/
theorem vx_throw0 {cc : ByteArray} {pc : Nat} (hexec : p.tables.exec = Jvm.exec) (hb : c.code = cc) (hl : l.stackTraces = false) {own cls : String} {names : List String} {ik ic mc ms : Nat} {A : Nat → Prop}
    (hown : s.vm.findClass own = some m.cls) (hcls : Bundle.fit cls = true) (hnames : ∀ n ∈ names, Bundle.fit n = true)
    (hk : (Cond.classLink own ik cls).before args s = true) (hini : (Cond.initialized cls).before args s = true) (hat : ∀ w ∈ vx_at0 own ic cls names, w.before args s = true)
    (hgood : ∀ w ∈ Cond.classLink own ik cls :: Cond.initialized cls :: vx_at0 own ic cls names, vx_ot w = true)
    (hU : vx_Zq Bundle.tN "UNASSIGNED_STACK" Bundle.steD A s s.heap) (hN : vx_Zq Bundle.tN "SUPPRESSED_SENTINEL" Bundle.listD A s s.heap) (hS : va_S A s.heap H locs) (hsize : ls.size = c.maxLocals)
    (d0 : decode cc pc = .ok (.new ik, 3)) (d3 : decode cc (pc + 3) = .ok (.dup, 1)) (d4 : decode cc (pc + 4) = .ok (.invokespecial ic, 3)) (d7 : decode cc (pc + 7) = .ok (.athrow, 1))
    (hout : ∀ x ∈ c.exceptionTable.toList, covers x (pc + 7) = false)
    (hRframes : names.length + 3 < R.frames) (hRlocals : (rest.map fun v => v.category).sum + (13 * (names.length + 1) + 42) ≤ R.locals) (hRcells : cells + 1 ≤ R.cells) (hRslots : slots + 6 ≤ R.slots) (hlocks : meth.locks = false)
    (hx : ∀ t : State, s.vm.Alike t.vm → H.size ≤ t.heap.size → (∀ q : Nat, q < H.size → t.heap[q]? = H[q]?) → XC cls s t)
    (hf : ∀ z ∈ locs, free z.base) (hc : cells + 1 ≤ mc) (hs : slots + 6 ≤ ms) :
    W p l e R s m args below meth c H locs cells slots (vx_MQ below Qc XC args s mc ms free) (F0 m pc ls rest) := by
  intro T hT X
  have htr : e.platform.stackTraces = false := (show e.platform.stackTraces = l.stackTraces by rw [X.admits.platform]).trans hl
  have Y := vx_rebase X (R' := { frames := R.frames, locals := R.locals, cells := 1, slots := 6 }) (Nat.le_refl _) (Nat.le_refl _) hRcells hRslots
  obtain ⟨s', hA⟩ : ∃ z, z = (T.setVm s.vm).setFrames (.invoking m args :: below) := ⟨_, rfl⟩
  rw [← hA] at Y
  have hvm : s'.vm = s.vm := by rw [hA]; rfl
  have hhp : s'.heap = H := by rw [hA]; exact hT
  have hW0 : s.WarmedH s'.vm := by rw [hvm]; exact State.WarmedH.refl s
  have hat' : ∀ w ∈ vx_at0 own ic cls names, w.before args s' = true := fun w hw => vx_ot_at hW0 hvm.symm (hgood w (List.mem_cons_of_mem _ (List.mem_cons_of_mem _ hw))) (hat w hw)
  have hk' : (Cond.classLink own ik cls).before args s' = true := vx_ot_at hW0 hvm.symm (hgood _ List.mem_cons_self) hk
  have hini' : (Cond.initialized cls).before args s' = true := vx_ot_at hW0 hvm.symm (hgood _ (List.mem_cons_of_mem _ List.mem_cons_self)) hini
  have hU' : vx_Zq Bundle.tN "UNASSIGNED_STACK" Bundle.steD A s' s'.heap := by rw [hhp]; exact vx_Zq.moved hW0.alike (hU.kept hS.2.1)
  have hN' : vx_Zq Bundle.tN "SUPPRESSED_SENTINEL" Bundle.listD A s' s'.heap := by rw [hhp]; exact vx_Zq.moved hW0.alike (hN.kept hS.2.1)
  have h : ∀ w ∈ Bundle.ownAtoms0 own ic cls names, w.before args s' = true := vx_own hat' (vx_isRefq hU'.1) (vx_isRefq hN'.1) hU'.2.word hN'.2.word
  have hown' : s'.vm.findClass own = some m.cls := by rw [hvm]; exact hown
  have hins : (Cond.instantiable cls 6).before args s' = true := h _ (by simp [Bundle.ownAtoms0])
  obtain ⟨vm₁, cX, kX, hfX, hkX, -, -, X₁, st1⟩ := Y.newCold hexec (own := own) (C := cls) (index := ik) (n := 6) hown' hk' hins hini'
    (g := F0 m pc ls rest) rfl (by rw [hb]; exact d0) (Nat.le_refl _) (Nat.le_refl _)
  generalize hT1 : (T.setVm vm₁).pushCell { cls := cX, slots := kX.instanceTypes.map defaultValue, vm := .none } = T1 at X₁ st1
  have hcat : (Value.ref T.heap.size).category = 1 := rfl
  have hcellA : T1.heap[T.heap.size]? = some (freshCell cX kX) := by rw [← hT1]; exact State.heap_pushCell_size _ _
  have d3' : decode c.code (pc + 3) = .ok (.dup, 1) := by rw [hb]; exact d3
  obtain ⟨U, hsteps, hrun, hend, hW, hsame, ce, hce, hO⟩ := X₁.ctorThrow0 hexec htr (own := own) (cls := cls) (names := names) (ic := ic) hown' hcls hnames h (fun x hx => nomatch hx) hfX hkX hcellA (by rw [hhp, hT]; exact Nat.le_refl _)
    (g := { method := m, pc := pc + 4, locals := ls, stack := .ref T.heap.size :: .ref T.heap.size :: rest, locked := none }) rfl hsize rfl rfl (rest := rest) rfl
    (by rw [hb]; exact d4) (by rw [hb]; exact d7) hout hRframes (by simp only [List.map_cons, List.sum_cons, hcat]; omega) hlocks
  obtain ⟨f1, f2⟩ := vx_frame hsame
  rw [hhp] at f1 f2
  have hWs : s.WarmedH U.vm := State.WarmedH.trans hW0 hW
  have hcl : s.vm.findClass cls = some ce.cls := by
    have h9 := hO.cls
    rw [hvm] at h9
    exact h9
  have hall : s.sameButNew ({ U with vm := s.vm } : State) locs mc ms := by
    subst hA
    obtain ⟨e1, e2⟩ := hsame
    rw [State.setFrames_setFrames] at e1
    have h2 : (T.setVm s.vm).sameButNew ({ U with vm := s.vm } : State) [] (0 + 1) (0 + 6) := ⟨e1, e2⟩
    have h3 := X.same.trans h2
    rw [List.append_nil] at h3
    exact h3.mono hc hs
  refine ⟨U, ?_, .threw T.heap.size, hrun, hend, Or.inr ⟨T.heap.size, rfl, cls, ce, locs, hx U hWs.alike f1 (fun q hq => f2 q hq (fun z hz => nomatch hz)), hce, hO.vm, hcl, hWs, hall, hf⟩⟩
  refine st1 _ ?_
  show Steps p.tables e below (T1.setTop { method := m, pc := pc + 3, locals := ls, stack := .ref T.heap.size :: rest, locked := none }) _
  jvm_step X₁.here [X₁.here.top, hexec, d3', Value.category]
  exact hsteps
/-- 'throw new E("text")': new; dup; ldc; invokespecial; athrow -/
theorem vx_throwS {cc : ByteArray} {pc : Nat} (hexec : p.tables.exec = Jvm.exec) (hb : c.code = cc) (hl : l.stackTraces = false) {own cls text : String} {names : List String} {ik is ic mc ms sa : Nat} {A : Nat → Prop}
    (hown : s.vm.findClass own = some m.cls) (hcls : Bundle.fit cls = true) (hnames : ∀ n ∈ names, Bundle.fit n = true)
    (hk : (Cond.classLink own ik cls).before args s = true) (hini : (Cond.initialized cls).before args s = true) (hstr : vk_R own is text sa s) (hat : ∀ w ∈ vx_atS own ic cls names, w.before args s = true)
    (hgood : ∀ w ∈ Cond.classLink own ik cls :: Cond.initialized cls :: vx_atS own ic cls names, vx_ot w = true)
    (hU : vx_Zq Bundle.tN "UNASSIGNED_STACK" Bundle.steD A s s.heap) (hN : vx_Zq Bundle.tN "SUPPRESSED_SENTINEL" Bundle.listD A s s.heap) (hS : va_S A s.heap H locs) (hsize : ls.size = c.maxLocals)
    (d0 : decode cc pc = .ok (.new ik, 3)) (d3 : decode cc (pc + 3) = .ok (.dup, 1)) (d4 : decode cc (pc + 4) = .ok (.ldc is, 2)) (d6 : decode cc (pc + 6) = .ok (.invokespecial ic, 3)) (d9 : decode cc (pc + 9) = .ok (.athrow, 1))
    (hout : ∀ x ∈ c.exceptionTable.toList, covers x (pc + 9) = false)
    (hRframes : names.length + 3 < R.frames) (hRlocals : (rest.map fun v => v.category).sum + (13 * (names.length + 1) + 43) ≤ R.locals) (hRcells : cells + 1 ≤ R.cells) (hRslots : slots + 6 ≤ R.slots) (hlocks : meth.locks = false)
    (hx : ∀ t : State, s.vm.Alike t.vm → H.size ≤ t.heap.size → (∀ q : Nat, q < H.size → t.heap[q]? = H[q]?) → XC cls s t)
    (hf : ∀ z ∈ locs, free z.base) (hc : cells + 1 ≤ mc) (hs : slots + 6 ≤ ms) :
    W p l e R s m args below meth c H locs cells slots (vx_MQ below Qc XC args s mc ms free) (F0 m pc ls rest) := by
  intro T hT X
  have htr : e.platform.stackTraces = false := (show e.platform.stackTraces = l.stackTraces by rw [X.admits.platform]).trans hl
  have Y := vx_rebase X (R' := { frames := R.frames, locals := R.locals, cells := 1, slots := 6 }) (Nat.le_refl _) (Nat.le_refl _) hRcells hRslots
  obtain ⟨s', hA⟩ : ∃ z, z = (T.setVm s.vm).setFrames (.invoking m args :: below) := ⟨_, rfl⟩
  rw [← hA] at Y
  have hvm : s'.vm = s.vm := by rw [hA]; rfl
  have hhp : s'.heap = H := by rw [hA]; exact hT
  have hW0 : s.WarmedH s'.vm := by rw [hvm]; exact State.WarmedH.refl s
  have hat' : ∀ w ∈ vx_atS own ic cls names, w.before args s' = true := fun w hw => vx_ot_at hW0 hvm.symm (hgood w (List.mem_cons_of_mem _ (List.mem_cons_of_mem _ hw))) (hat w hw)
  have hk' : (Cond.classLink own ik cls).before args s' = true := vx_ot_at hW0 hvm.symm (hgood _ List.mem_cons_self) hk
  have hini' : (Cond.initialized cls).before args s' = true := vx_ot_at hW0 hvm.symm (hgood _ (List.mem_cons_of_mem _ List.mem_cons_self)) hini
  have hU' : vx_Zq Bundle.tN "UNASSIGNED_STACK" Bundle.steD A s' s'.heap := by rw [hhp]; exact vx_Zq.moved hW0.alike (hU.kept hS.2.1)
  have hN' : vx_Zq Bundle.tN "SUPPRESSED_SENTINEL" Bundle.listD A s' s'.heap := by rw [hhp]; exact vx_Zq.moved hW0.alike (hN.kept hS.2.1)
  have h : ∀ w ∈ Bundle.ownAtoms own ic cls names, w.before args s' = true := vx_own hat' (vx_isRefq hU'.1) (vx_isRefq hN'.1) hU'.2.word hN'.2.word
  have hown' : s'.vm.findClass own = some m.cls := by rw [hvm]; exact hown
  have hins : (Cond.instantiable cls 6).before args s' = true := h _ (by simp [Bundle.ownAtoms])
  obtain ⟨vm₁, cX, kX, hfX, hkX, -, -, X₁, st1⟩ := Y.newCold hexec (own := own) (C := cls) (index := ik) (n := 6) hown' hk' hins hini'
    (g := F0 m pc ls rest) rfl (by rw [hb]; exact d0) (Nat.le_refl _) (Nat.le_refl _)
  generalize hT1 : (T.setVm vm₁).pushCell { cls := cX, slots := kX.instanceTypes.map defaultValue, vm := .none } = T1 at X₁ st1
  have hcat : (Value.ref T.heap.size).category = 1 := rfl
  have hcellA : T1.heap[T.heap.size]? = some (freshCell cX kX) := by rw [← hT1]; exact State.heap_pushCell_size _ _
  have d3' : decode c.code (pc + 3) = .ok (.dup, 1) := by rw [hb]; exact d3
  have d4' : decode c.code (pc + 4) = .ok (.ldc is, 2) := by rw [hb]; exact d4
  have hstr' : vk_R own is text sa s' := vk_R.warm hW0 hstr
  obtain ⟨U, hsteps, hrun, hend, hW, hsame, ce, hce, hO⟩ := X₁.ctorThrowS hexec htr (own := own) (cls := cls) (names := names) (ic := ic) hown' hcls hnames h (fun x hx => nomatch hx) hfX hkX hcellA (by rw [hhp, hT]; exact Nat.le_refl _) (msg := .ref sa) rfl
    (g := { method := m, pc := pc + 6, locals := ls, stack := .ref sa :: .ref T.heap.size :: .ref T.heap.size :: rest, locked := none }) rfl hsize rfl rfl (rest := rest) rfl
    (by rw [hb]; exact d6) (by rw [hb]; exact d9) hout hRframes (by simp only [List.map_cons, List.sum_cons, hcat]; omega) hlocks
  obtain ⟨f1, f2⟩ := vx_frame hsame
  rw [hhp] at f1 f2
  have hWs : s.WarmedH U.vm := State.WarmedH.trans hW0 hW
  have hcl : s.vm.findClass cls = some ce.cls := by
    have h9 := hO.cls
    rw [hvm] at h9
    exact h9
  have hall : s.sameButNew ({ U with vm := s.vm } : State) locs mc ms := by
    subst hA
    obtain ⟨e1, e2⟩ := hsame
    rw [State.setFrames_setFrames] at e1
    have h2 : (T.setVm s.vm).sameButNew ({ U with vm := s.vm } : State) [] (0 + 1) (0 + 6) := ⟨e1, e2⟩
    have h3 := X.same.trans h2
    rw [List.append_nil] at h3
    exact h3.mono hc hs
  refine ⟨U, ?_, .threw T.heap.size, hrun, hend, Or.inr ⟨T.heap.size, rfl, cls, ce, locs, hx U hWs.alike f1 (fun q hq => f2 q hq (fun z hz => nomatch hz)), hce, hO.vm, hcl, hWs, hall, hf⟩⟩
  refine st1 _ ?_
  show Steps p.tables e below (T1.setTop { method := m, pc := pc + 3, locals := ls, stack := .ref T.heap.size :: rest, locked := none }) _
  jvm_step X₁.here [X₁.here.top, hexec, d3', Value.category]
  exact X₁.ldcString hexec (own := own) (text := text) (index := is) (a := sa) hown' hstr'.1 hstr'.2
    (g := { method := m, pc := pc + 4, locals := ls, stack := .ref T.heap.size :: .ref T.heap.size :: rest, locked := none }) rfl d4' _ hsteps
/-- 'throw new E("text")', the text by a wide index -/
theorem vx_throwSW {cc : ByteArray} {pc : Nat} (hexec : p.tables.exec = Jvm.exec) (hb : c.code = cc) (hl : l.stackTraces = false) {own cls text : String} {names : List String} {ik is ic mc ms sa : Nat} {A : Nat → Prop}
    (hown : s.vm.findClass own = some m.cls) (hcls : Bundle.fit cls = true) (hnames : ∀ n ∈ names, Bundle.fit n = true)
    (hk : (Cond.classLink own ik cls).before args s = true) (hini : (Cond.initialized cls).before args s = true) (hstr : vk_R own is text sa s) (hat : ∀ w ∈ vx_atS own ic cls names, w.before args s = true)
    (hgood : ∀ w ∈ Cond.classLink own ik cls :: Cond.initialized cls :: vx_atS own ic cls names, vx_ot w = true)
    (hU : vx_Zq Bundle.tN "UNASSIGNED_STACK" Bundle.steD A s s.heap) (hN : vx_Zq Bundle.tN "SUPPRESSED_SENTINEL" Bundle.listD A s s.heap) (hS : va_S A s.heap H locs) (hsize : ls.size = c.maxLocals)
    (d0 : decode cc pc = .ok (.new ik, 3)) (d3 : decode cc (pc + 3) = .ok (.dup, 1)) (d4 : decode cc (pc + 4) = .ok (.ldc_w is, 3)) (d7 : decode cc (pc + 7) = .ok (.invokespecial ic, 3)) (d10 : decode cc (pc + 10) = .ok (.athrow, 1))
    (hout : ∀ x ∈ c.exceptionTable.toList, covers x (pc + 10) = false)
    (hRframes : names.length + 3 < R.frames) (hRlocals : (rest.map fun v => v.category).sum + (13 * (names.length + 1) + 43) ≤ R.locals) (hRcells : cells + 1 ≤ R.cells) (hRslots : slots + 6 ≤ R.slots) (hlocks : meth.locks = false)
    (hx : ∀ t : State, s.vm.Alike t.vm → H.size ≤ t.heap.size → (∀ q : Nat, q < H.size → t.heap[q]? = H[q]?) → XC cls s t)
    (hf : ∀ z ∈ locs, free z.base) (hc : cells + 1 ≤ mc) (hs : slots + 6 ≤ ms) :
    W p l e R s m args below meth c H locs cells slots (vx_MQ below Qc XC args s mc ms free) (F0 m pc ls rest) := by
  intro T hT X
  have htr : e.platform.stackTraces = false := (show e.platform.stackTraces = l.stackTraces by rw [X.admits.platform]).trans hl
  have Y := vx_rebase X (R' := { frames := R.frames, locals := R.locals, cells := 1, slots := 6 }) (Nat.le_refl _) (Nat.le_refl _) hRcells hRslots
  obtain ⟨s', hA⟩ : ∃ z, z = (T.setVm s.vm).setFrames (.invoking m args :: below) := ⟨_, rfl⟩
  rw [← hA] at Y
  have hvm : s'.vm = s.vm := by rw [hA]; rfl
  have hhp : s'.heap = H := by rw [hA]; exact hT
  have hW0 : s.WarmedH s'.vm := by rw [hvm]; exact State.WarmedH.refl s
  have hat' : ∀ w ∈ vx_atS own ic cls names, w.before args s' = true := fun w hw => vx_ot_at hW0 hvm.symm (hgood w (List.mem_cons_of_mem _ (List.mem_cons_of_mem _ hw))) (hat w hw)
  have hk' : (Cond.classLink own ik cls).before args s' = true := vx_ot_at hW0 hvm.symm (hgood _ List.mem_cons_self) hk
  have hini' : (Cond.initialized cls).before args s' = true := vx_ot_at hW0 hvm.symm (hgood _ (List.mem_cons_of_mem _ List.mem_cons_self)) hini
  have hU' : vx_Zq Bundle.tN "UNASSIGNED_STACK" Bundle.steD A s' s'.heap := by rw [hhp]; exact vx_Zq.moved hW0.alike (hU.kept hS.2.1)
  have hN' : vx_Zq Bundle.tN "SUPPRESSED_SENTINEL" Bundle.listD A s' s'.heap := by rw [hhp]; exact vx_Zq.moved hW0.alike (hN.kept hS.2.1)
  have h : ∀ w ∈ Bundle.ownAtoms own ic cls names, w.before args s' = true := vx_own hat' (vx_isRefq hU'.1) (vx_isRefq hN'.1) hU'.2.word hN'.2.word
  have hown' : s'.vm.findClass own = some m.cls := by rw [hvm]; exact hown
  have hins : (Cond.instantiable cls 6).before args s' = true := h _ (by simp [Bundle.ownAtoms])
  obtain ⟨vm₁, cX, kX, hfX, hkX, -, -, X₁, st1⟩ := Y.newCold hexec (own := own) (C := cls) (index := ik) (n := 6) hown' hk' hins hini'
    (g := F0 m pc ls rest) rfl (by rw [hb]; exact d0) (Nat.le_refl _) (Nat.le_refl _)
  generalize hT1 : (T.setVm vm₁).pushCell { cls := cX, slots := kX.instanceTypes.map defaultValue, vm := .none } = T1 at X₁ st1
  have hcat : (Value.ref T.heap.size).category = 1 := rfl
  have hcellA : T1.heap[T.heap.size]? = some (freshCell cX kX) := by rw [← hT1]; exact State.heap_pushCell_size _ _
  have d3' : decode c.code (pc + 3) = .ok (.dup, 1) := by rw [hb]; exact d3
  have d4' : decode c.code (pc + 4) = .ok (.ldc_w is, 3) := by rw [hb]; exact d4
  have hstr' : vk_R own is text sa s' := vk_R.warm hW0 hstr
  obtain ⟨U, hsteps, hrun, hend, hW, hsame, ce, hce, hO⟩ := X₁.ctorThrowS hexec htr (own := own) (cls := cls) (names := names) (ic := ic) hown' hcls hnames h (fun x hx => nomatch hx) hfX hkX hcellA (by rw [hhp, hT]; exact Nat.le_refl _) (msg := .ref sa) rfl
    (g := { method := m, pc := pc + 7, locals := ls, stack := .ref sa :: .ref T.heap.size :: .ref T.heap.size :: rest, locked := none }) rfl hsize rfl rfl (rest := rest) rfl
    (by rw [hb]; exact d7) (by rw [hb]; exact d10) hout hRframes (by simp only [List.map_cons, List.sum_cons, hcat]; omega) hlocks
  obtain ⟨f1, f2⟩ := vx_frame hsame
  rw [hhp] at f1 f2
  have hWs : s.WarmedH U.vm := State.WarmedH.trans hW0 hW
  have hcl : s.vm.findClass cls = some ce.cls := by
    have h9 := hO.cls
    rw [hvm] at h9
    exact h9
  have hall : s.sameButNew ({ U with vm := s.vm } : State) locs mc ms := by
    subst hA
    obtain ⟨e1, e2⟩ := hsame
    rw [State.setFrames_setFrames] at e1
    have h2 : (T.setVm s.vm).sameButNew ({ U with vm := s.vm } : State) [] (0 + 1) (0 + 6) := ⟨e1, e2⟩
    have h3 := X.same.trans h2
    rw [List.append_nil] at h3
    exact h3.mono hc hs
  refine ⟨U, ?_, .threw T.heap.size, hrun, hend, Or.inr ⟨T.heap.size, rfl, cls, ce, locs, hx U hWs.alike f1 (fun q hq => f2 q hq (fun z hz => nomatch hz)), hce, hO.vm, hcl, hWs, hall, hf⟩⟩
  refine st1 _ ?_
  show Steps p.tables e below (T1.setTop { method := m, pc := pc + 3, locals := ls, stack := .ref T.heap.size :: rest, locked := none }) _
  jvm_step X₁.here [X₁.here.top, hexec, d3', Value.category]
  exact X₁.ldcStringW hexec (own := own) (text := text) (index := is) (a := sa) hown' hstr'.1 hstr'.2
    (g := { method := m, pc := pc + 4, locals := ls, stack := .ref T.heap.size :: .ref T.heap.size :: rest, locked := none }) rfl d4' _ hsteps
end Ends
section Bodies
variable {l : Launch}
theorem vx_ofW {y : MethodName} {ws ws' : List Cond} {rm : Room} {Pc : Array Value → State → Prop} {Qc : Array Value → State → Outcome → State → Prop} {XC : String → State → State → Prop} {mc ms : Nat} {free : Addr → Prop} {cc : ByteArray} {maxL : Nat} {ret : Option FieldType}
    (hy : plainName y.cls = true) (hw : ws = Cond.code y cc maxL ret :: ws')
    (body : ∀ p e s m args below meth c s₁, BodyLoose p l y (headSpec ws rm) cc maxL ret e s m args below meth c s₁ → c.maxLocals = maxL → (∀ x ∈ c.exceptionTable.toList, False) → Pc args s →
      W p l e (headSpec ws rm).room s m args below meth c s.heap [] 0 0 (vx_MQ below Qc XC args s mc ms free) (entryFrame m args maxL)) : vx_Met l y ws rm Pc Qc XC mc ms free := by
  refine MetFree.of_bodyS (code := cc) (maxLocals := maxL) (ret := ret) hy ?_ ?_
  · intro args s m h hn
    obtain ⟨meth, c, h1, h2, h3, h4, h5, h6, -, -⟩ := Cond.code_spec hn (atoms_spec (ws := ws) h _ (by rw [hw]; exact List.mem_cons_self))
    exact ⟨meth, c, h1, h2, h3, h4, h5, h6⟩
  · intro p e s m args below meth c s₁ B hml hP _
    have hh0 : s₁.heap = s.heap := by rw [B.state]; rfl
    have ht : ∀ x ∈ c.exceptionTable.toList, False := by
      obtain ⟨meth9, c9, h1, h2, -, -, -, -, h7, -⟩ := Cond.code_spec B.named (atoms_spec (ws := ws) B.pre _ (by rw [hw]; exact List.mem_cons_self))
      cases Option.some.inj (h1.symm.trans B.method)
      cases Option.some.inj (h2.symm.trans (Stand.of_body B).code)
      intro x hx
      rw [Array.isEmpty_iff.mp h7] at hx
      cases hx
    obtain ⟨t, a1, o, b1, b2, b3⟩ := body p e s m args below meth c s₁ B hml ht hP s₁ hh0 (Stand.of_body B)
    exact ⟨t, o, a1, b1, b2, b3⟩
/-- the table of a body with handlers -/
theorem vx_table {p : Program} {x y : MethodName} {S : Spec} {cc bytes : ByteArray} {maxL maxL' : Nat} {ret ret' : Option FieldType} {e : Env} {s s₁ : State} {m : MethodId} {args : Array Value} {below : List Frame} {meth : Method} {c : Code} {hh : List (Nat × Nat × Nat × Nat)}
    (B : BodyLoose p l y S cc maxL ret e s m args below meth c s₁) (h : (Cond.codeWith y bytes maxL' ret' hh).before args s = true) : c.exceptionTable.toList = tableOf hh := by
  obtain ⟨m9, meth9, c9, hn9, h1, h2, -, -, h6, -⟩ := Cond.codeWith_spec h
  cases Option.some.inj (hn9.symm.trans B.named)
  cases Option.some.inj (h1.symm.trans B.method)
  cases Option.some.inj (h2.symm.trans (Stand.of_body B).code)
  rw [← h6, table_eq]
end Bodies
end VXA
/-! ===== END ===== -/
/-! ===== BEGIN a static call of a method with an exception table ===== -/
section VXS
variable {p : Program} {l : Launch} {e : Env} {R : Room} {s : State} {m : MethodId} {args : Array Value} {below : List Frame} {meth : Method} {c : Code} {T : State} {H : Heap} {locs : List Loc} {cells slots : Nat}
abbrev vx_CSW (R : Room) (s : State) (args : Array Value) (own : String) (index : Nat) (y : MethodName) (bytes : ByteArray) (maxL : Nat) (ret : Option FieldType) (hh : List (Nat × Nat × Nat × Nat)) (ws : List Cond) (rm : Room) (mc ms n : Nat) : Prop :=
  (rm.cells = mc ∧ rm.slots = ms ∧ rm.frames + 1 ≤ R.frames ∧ 8 + (maxL + 11) + rm.locals ≤ R.locals ∧ (∀ w ∈ ws, ∀ (a' : Array Value) (U : State), s.WarmedH U.vm → w.before a' U = true) ∧ Cond.codeWith y bytes maxL ret hh ∈ ws) ∧
  (Cond.codeWith y bytes maxL ret hh).before args s = true ∧ (Cond.initialized y.cls).before args s = true ∧ (y.cls ≠ "java/lang/invoke/MethodHandle" ∧ y.cls ≠ "java/lang/invoke/VarHandle") ∧
  (∀ sig, parseMethodDescriptor y.desc = some sig → n = sig.parameters.length) ∧ (Cond.methodLink own index y).before args s = true ∧ (Cond.static y).before args s = true
theorem vx_cwSW {own : String} {index maxL mc ms : Nat} {y : MethodName} {bytes : ByteArray} {ret : Option FieldType} {hh : List (Nat × Nat × Nat × Nat)} {Ts ws ws' : List Cond} {rm : Room} (n : Nat) (ht : ∀ w ∈ Ts, w.before args s = true) (hT : GoodIn Ts (va_wsS own index y ws)) (hw : ws = Cond.codeWith y bytes maxL ret hh :: ws') (hrc : rm.cells = mc) (hrs : rm.slots = ms)
    (hd : y.cls ≠ "java/lang/invoke/MethodHandle" ∧ y.cls ≠ "java/lang/invoke/VarHandle" ∧ (parseMethodDescriptor y.desc).map (fun d => d.parameters.length) = some n) (hR : rm.frames + 1 ≤ R.frames ∧ 8 + (maxL + 11) + rm.locals ≤ R.locals) :
    vx_CSW R s args own index y bytes maxL ret hh ws rm mc ms n := by
  have ok : ∀ w ∈ va_wsS own index y ws, w.before args s = true := fun w h => ht w (hT w h).1
  have hG : GoodIn Ts ws := fun w h => hT w (by unfold va_wsS; exact List.mem_append_right _ h)
  have hc : Cond.codeWith y bytes maxL ret hh ∈ ws := by rw [hw]; exact List.mem_cons_self
  refine ⟨⟨hrc, hrs, hR.1, hR.2, pay_in ht hG, hc⟩, ht _ (hG _ hc).1, ok _ (by simp [va_wsS]), ⟨hd.1, hd.2.1⟩, fun sig h => ?_, ok _ (by simp [va_wsS]), ok _ (by simp [va_wsS])⟩
  have h2 := hd.2.2
  rw [h] at h2
  exact (Option.some.inj h2).symm
theorem vx_callSW (X : Stand p l e R s m args below meth c T locs cells slots) (hexec : p.tables.exec = Jvm.exec) {own : String} {index : Nat} {y : MethodName} {bytes : ByteArray} {maxL : Nat} {ret : Option FieldType} {hh : List (Nat × Nat × Nat × Nat)}
    (hown : s.vm.findClass own = some m.cls) (hlink : (Cond.methodLink own index y).before args s = true) (hstat : (Cond.static y).before args s = true) (hinit : (Cond.initialized y.cls).before args s = true)
    (hcode : (Cond.codeWith y bytes maxL ret hh).before args s = true) (hy : y.cls ≠ "java/lang/invoke/MethodHandle" ∧ y.cls ≠ "java/lang/invoke/VarHandle")
    {W9 : Nat} {Pre : Pt → Array Value → Prop} {Post : Pt → Array Value → Option Value → Pt → Prop} (hK : Back l R p e below s args y 3 W9 Pre Post)
    {g : JFrame} (hg : g.method = m) (hsize : g.locals.size = c.maxLocals) {argsL rest : List Value} (hlen : ∀ sig, parseMethodDescriptor y.desc = some sig → argsL.length = sig.parameters.length)
    (hstack : g.stack = argsL.reverse ++ rest) (hW : 2 * g.monitorRoom + (rest.map fun v => v.category).sum ≤ W9) (hdg : decode c.code g.pc = .ok (.invokestatic index, 3))
    (hpre : ∀ vm₁, s.WarmedH vm₁ → Pre ⟨T.setVm vm₁, locs, cells, slots⟩ argsL.toArray) :
    ∃ (v : Option Value) (vm₁ : Vm) (B : Pt), s.WarmedH vm₁ ∧ Stand p l e R s m args below meth c B.U B.locs B.cells B.slots ∧ Post ⟨T.setVm vm₁, locs, cells, slots⟩ argsL.toArray v B ∧
      ∀ target, Steps p.tables e below (B.U.setTop { g with pc := g.pc + 3, stack := v.toList ++ rest }) target → Steps p.tables e below (T.setTop g) target := by
  obtain ⟨mk, methM, cM, hnamed, hmethM, -, -, -, -, -, -, hsigM⟩ := Cond.codeWith_spec hcode
  have hstatic : methM.isStatic = true := Cond.static_spec hnamed hmethM hstat
  obtain ⟨kP, hkP, -⟩ := className_of_methodNamed hnamed
  have hinitP : kP.init = .initialized := Cond.initialized_spec (findClass_of_methodNamed hnamed) hkP hinit
  obtain ⟨vm₁, X₁, hstep₁⟩ := X.invokestatic hexec hown hlink hnamed hmethM hstatic hkP hinitP hy (g := g) hg (argsL := argsL) (rest := rest) (hlen _ hsigM) hstack hdg
  obtain ⟨v, B, X', hpost, hsteps⟩ := hK m meth c ⟨T.setVm vm₁, locs, cells, slots⟩ { g with stack := rest } (.invokestatic index) mk argsL.toArray X₁ hg hsize hdg hW (X₁.named hnamed) (hpre vm₁ X₁.warmed)
  exact ⟨v, vm₁, B, X₁.warmed, X', hpost, fun target h => hstep₁ _ fun acts => by rw [doInvoke_state]; exact hsteps.trans h⟩
theorem vx_runSW {y : MethodName} {bytes cc : ByteArray} {maxL nL mc ms n index : Nat} {ret : Option FieldType} {hh : List (Nat × Nat × Nat × Nat)} {ws : List Cond} {rm : Room} {Pc : Array Value → State → Prop} {Qc : Array Value → State → Outcome → State → Prop} {free : Addr → Prop} {Ts : List Cond} {own : String} {As rest : List Value} {g : JFrame}
    (S : CallFix p m c cc nL s args Ts own) (hM : Met l y ws rm Pc Qc mc ms free) (cw : vx_CSW R s args own index y bytes maxL ret hh ws rm mc ms n) (hp : PreS s H Pc As)
    (hg : g.method = m) (hn : As.length = n) (hsize : g.locals.size = nL) (hstack : g.stack = As.reverse ++ rest) (hW : 2 * g.monitorRoom + (rest.map fun v => v.category).sum ≤ 8) (hdg : decode cc g.pc = .ok (.invokestatic index, 3)) (hf : cells + mc ≤ R.cells ∧ slots + ms ≤ R.slots) :
    va_Run p l e R s m args below meth c H locs cells slots mc ms g rest (Qc As.toArray) (free) := by
  obtain ⟨⟨hrc, hrs, hfr, hlo, hws, hcw⟩, hcode, hini, hy, hlen, hl, hstt⟩ := cw
  have hK : Back l R p e below s args y 3 8 (PreOf R mc ms Pc) (PostOf Qc mc ms free) := va_backW (hh := hh) (bytes := bytes) (maxL := maxL) (ret := ret) hM hp.1 hrc hrs hfr hlo hws hcw (fun a' U hW => word_at hW (Or.inl (by first | rfl | simp [Cond.onTables, Cond.keeps, Cond.steady])) hini)
  obtain ⟨hx, hb, hml, ho, -⟩ := S
  intro T hT X
  obtain ⟨v, vm₁, ⟨U', l2, c2, s2⟩, hW₁, X', ⟨g', mk, t, L, e1, e2, hq, h1, hL, h2, h3⟩, st⟩ := vx_callSW X hx (hh := hh) (bytes := bytes) (maxL := maxL) (ret := ret) ho hl hstt hini hcode hy hK hg (hsize.trans hml.symm) (argsL := As) (rest := rest) (fun sig h => hn.trans (hlen sig h)) hstack hW (by rw [hb]; exact hdg)
    (fun vm₁ hW₁ => ⟨hf.1, hf.2, hp.2 (T.setVm vm₁) hT hW₁⟩)
  dsimp only [Pt.U, Pt.locs, Pt.cells, Pt.slots] at X' e1 e2 h1 h2 h3 st
  subst h1; subst h2; subst h3
  exact ⟨v, (T.setVm vm₁).calling g' mk As.toArray, t, U', L, hT, X', hL, e1, e2, hq, st⟩
/-- not caught here, past rows that name other classes: it goes on to the caller -/
theorem vx_outP {p : Program} {l : Launch} {e : Env} {R : Room} {s : State} {m : MethodId} {args : Array Value} {below : List Frame} {meth : Method} {c : Code} {H : Heap} {locs : List Loc} {cells slots : Nat} {free : Addr → Prop} {ls : Array Slot} {rest : List Value} {Qc : Array Value → State → Outcome → State → Prop} {XC : String → State → State → Prop}
    {pc : Nat} {own E : String} {ce : Cell} {q : Addr} {mc ms : Nat} (hown : s.vm.findClass own = some m.cls) (hlocks : meth.locks = false)
    (hpass : ∀ z ∈ c.exceptionTable.toList, covers z pc = false ∨ (z.catchType ≠ 0 ∧ ∃ nm : String, (Cond.classLink own z.catchType nm).before args s = true ∧ va_Nc E nm s)) (hcell : H[q]? = some ce) (hv : ce.vm = .none) (hcl : s.vm.findClass E = some ce.cls)
    (hx : ∀ t : State, t.heap = H → s.vm.Alike t.vm → XC E s t) (hf : ∀ z ∈ locs, free z.base) (hc : cells ≤ mc) (hs : slots ≤ ms) :
    vx_W p l e R s m args below meth c H locs cells slots (vx_MQ below Qc XC args s mc ms free) (F0 m pc ls rest) q := by
  intro T hT X
  have hpl : e.platform.magicAccessors = ({} : Platform).magicAccessors := by rw [X.admits.platform]
  obtain ⟨vm', hW', X', st⟩ := X.outThrough hlocks q (g := F0 m pc ls rest) rfl rfl rfl (cell := ce) (by rw [hT]; exact hcell) (by rw [hv]; rfl)
    (by obtain ⟨k9, h9, -⟩ := Vm.findClass_spec hcl; exact ⟨k9, h9⟩) (fun z hz => by
      rcases hpass z hz with h | ⟨hz0, nm, hl1, hn1⟩
      · exact Or.inl h
      · obtain ⟨c6, hc6, hcl6⟩ := Cond.classLink_spec hown hl1 e.platform hpl
        obtain ⟨a8, b8, h1, h2, h3⟩ := hn1
        cases Option.some.inj (h1.symm.trans hcl)
        cases Option.some.inj (h2.symm.trans hc6)
        exact Or.inr ⟨hz0, _, hcl6, h3⟩)
  obtain ⟨g₀, hfr⟩ := X'.frames_eq
  have hcell9 : ((T.setVm vm').setFrames (.throwing q :: below)).heap[q]? = some ce := by
    show T.heap[q]? = some ce
    rw [hT]; exact hcell
  have hend : Ended ((T.setVm vm').setFrames (.throwing q :: below)) below (.threw q) := State.frames_setFrames _ (State.cur_lt_of_frames hfr)
  refine ⟨(T.setVm vm').setFrames (.throwing q :: below), ?_, .threw q, X'.here.running, hend, Or.inr ⟨q, rfl, E, ce, locs, hx _ hT (X'.ends _).1.alike, hcell9, hv, hcl, (X'.ends _).1, (X'.ends _).2.mono hc hs, hf⟩⟩
  rw [X.pushThrowing_eq]
  exact st
/-- a thing of a world lies in the heap -/
theorem vx_lt {D : va_G} {cl : List vw_C} {ws : va_W} {H1 : Heap} (h : va_P D cl ws H1) {k : Nat} {q : Nat × va_E} (hk : ws[k]? = some q) : q.1 < H1.size := (h k q hk).lt
end VXS
/-! ===== END ===== -/
/-! ===== BEGIN methods with a table of their own: called by a name, returning or throwing ===== -/
section VXH
/-! vx_backW, vx_callVX, vx_callSX, vx_callVW, vx_runVW, vx_runVX, vx_runSX, vx_ofWH follow the same proofs as their sisters above (Free/Laws.lean, Shelf42/LK1.lean); vx_outP calls Shelf42/NT130.lean (outThrough). -/
section
variable {l : Launch} {R : Room} {p : Program} {e : Env} {below : List Frame} {s : State} {sargs : Array Value} {y : MethodName} {len W9 : Nat}
theorem vx_backW {ws : List Cond} {rm : Room} {Pc : Array Value → State → Prop} {Qc : Array Value → State → Outcome → State → Prop} {XC : String → State → State → Prop} {mc ms : Nat} {free : Addr → Prop} {bytes : ByteArray} {maxL : Nat} {ret : Option FieldType} {hh : List (Nat × Nat × Nat × Nat)}
    (hM : vx_Met l y ws rm Pc Qc XC mc ms free) (hblind : FrameBlind Pc) (hrc : rm.cells = mc) (hrs : rm.slots = ms)
    (hframes : rm.frames + 1 ≤ R.frames) (hlocals : W9 + (maxL + 11) + rm.locals ≤ R.locals)
    (hws : ∀ w ∈ ws, ∀ a' U, s.WarmedH U.vm → w.before a' U = true) (hcode : Cond.codeWith y bytes maxL ret hh ∈ ws) (hinit : ∀ a' U, s.WarmedH U.vm → (Cond.initialized y.cls).before a' U = true) :
    vx_Back l R p e below s sargs y len W9 (PreOf R mc ms Pc) (PostOf Qc mc ms free) (vx_Post XC mc ms free) := by
  intro m meth c A g ig mk a X hg hsize hdg hW hn hp
  have h1 : (headSpec ws rm).pre.before a A.U = true := atoms_intro fun w hw => hws w hw _ _ X.warmed
  have h2 : (Cond.codeWith y bytes maxL ret hh).before a A.U = true := hws _ hcode _ _ X.warmed
  have h3 : (Cond.initialized y.cls).before a A.U = true := hinit _ _ X.warmed
  have h4 : A.cells + (headSpec ws rm).room.cells ≤ R.cells := by rw [show (headSpec ws rm).room.cells = mc from hrc]; exact hp.1
  have h5 : A.slots + (headSpec ws rm).room.slots ≤ R.slots := by rw [show (headSpec ws rm).room.slots = ms from hrs]; exact hp.2.1
  have hPc : Pc a (A.U.calling g mk a) := hblind _ _ _ _ hp.2.2
  obtain ⟨U, Ls, c0, s0⟩ := A
  dsimp only [Pt.U, Pt.locs, Pt.cells, Pt.slots] at h1 h2 h3 h4 h5 X hn hPc ⊢
  obtain ⟨m9, methY, cY, hn9, hmY, hcY, -, hlY, -⟩ := Cond.codeWith_spec h2
  cases Option.some.inj (hn9.symm.trans hn)
  obtain ⟨kY, hkY, -⟩ := className_of_methodNamed hn
  have hinitY : kY.init = .initialized := Cond.initialized_spec (findClass_of_methodNamed hn) hkY h3
  have h : At U g.method c below := by rw [hg]; exact X.here
  have hlocals9 : W9 + (maxL + 11) + (headSpec ws rm).room.locals ≤ R.locals := hlocals
  have happ : (headSpec ws rm).appliesLoose y e.platform (U.calling g mk a) = true :=
    Spec.appliesLoose_calling (g := g) h hdg hn hkY hinitY
      (X.room_calling (g := g) (R' := (headSpec ws rm).room) hsize hmY hcY hframes (by rw [hlY]; omega) h4 h5) h1
  obtain ⟨mid, hmid⟩ := h.above
  have hfr : (U.setTop g).frames = (.java g :: mid) ++ below := by rw [State.frames_setTop' g h.top, hmid]; rfl
  obtain ⟨o, s₂, hsteps, -, hend, hq⟩ := Steps.callFree hM p X.admits X.cas X.clock (acts := []) hfr happ hPc trivial
  have hq' : vx_Q Qc XC mc ms free a (U.calling g mk a) o s₂ := hq
  rw [State.frames_setTop' g h.top] at hend
  obtain ⟨g₀, hg0⟩ := Option.isSome_iff_exists.mp h.top
  obtain ⟨r, hr⟩ := State.topJava?_eq_some.mp hg0
  have hr' : (({ U with heap := s₂.heap, slotsUsed := s₂.slotsUsed } : State).setVm s₂.vm).frames = .java g₀ :: r := hr
  rcases hq' with ⟨hqc, L, hfe, hL⟩ | ⟨q, rfl, E, ce, L, hx, hce, hcv, hcl, hW₂, hsm, hL⟩
  · obtain ⟨⟨v, rfl⟩, hW₂, e2, q2, q3, q4, q5, q6⟩ := id hfe
    have e3 : s₂ = ({ (U.calling g mk a).setFrames s₂.frames with heap := s₂.heap, slotsUsed := s₂.slotsUsed } : State).setVm s₂.vm := by
      have : s₂ = ({ s₂ with vm := (U.calling g mk a).vm } : State).setVm s₂.vm := rfl
      rw [e2] at this
      exact this
    obtain ⟨c₂, i₂, len₂, hc₂, hd₂, hf₂⟩ := hend
    have hW' : U.WarmedH s₂.vm := hW₂
    have hcc : c₂ = c := by
      have h1 : s₂.code? g.method = U.code? g.method := by
        rw [State.code?_eq, State.code?_eq, hW'.alike.method?]
      exact Option.some.inj (hc₂.symm.trans (h1.trans h.code))
    subst hcc
    have hlen : len₂ = len := by rw [hdg] at hd₂; cases hd₂; rfl
    subst hlen
    have hs₂ : s₂ = (({ U with heap := s₂.heap, slotsUsed := s₂.slotsUsed } : State).setVm s₂.vm).setTop { g with pc := g.pc + len₂, stack := v.toList ++ g.stack } := by
      refine e3.trans ?_
      rw [hf₂, State.calling_eq h.top, State.setFrames_setFrames, State.setTop_of_frames _ hr', hr]
      rfl
    have hsame : U.sameButNew ({ U with heap := s₂.heap, slotsUsed := s₂.slotsUsed } : State) L mc ms := by
      refine ⟨?_, q2, q3, q4, q5, q6⟩
      obtain ⟨t, ht, -⟩ := State.frames_cons hr
      show ({ U with heap := s₂.heap, slotsUsed := s₂.slotsUsed } : State) = { U.setFrames U.frames with heap := s₂.heap, slotsUsed := s₂.slotsUsed }
      rw [State.setFrames_self ht]
    subst hg
    refine Or.inl ⟨v, ⟨(({ U with heap := s₂.heap, slotsUsed := s₂.slotsUsed } : State).setVm s₂.vm), Ls ++ L, c0 + mc, s0 + ms⟩,
      ⟨X.admits, X.cas, X.clock, X.frames, X.room, X.hears, X.method, X.code, (X.here.setHeapUsed s₂.heap s₂.slotsUsed).setVm hW'.alike, X.tail, State.WarmedH.trans X.warmed hW', X.limits, X.bytes, X.same.trans (hsame.setVm s.vm)⟩,
      ⟨g, mk, s₂, L, rfl, rfl, hqc, rfl, hL, rfl, rfl⟩, ?_⟩
    show Steps p.tables e below _ ((({ U with heap := s₂.heap, slotsUsed := s₂.slotsUsed } : State).setVm s₂.vm).setTop { g with pc := g.pc + len₂, stack := v.toList ++ g.stack })
    rw [← hs₂]
    exact hsteps
  · obtain ⟨e2, q2, q3, q4, q5, q6⟩ := id hsm
    have e3 : s₂ = ({ (U.calling g mk a).setFrames s₂.frames with heap := s₂.heap, slotsUsed := s₂.slotsUsed } : State).setVm s₂.vm := by
      have : s₂ = ({ s₂ with vm := (U.calling g mk a).vm } : State).setVm s₂.vm := rfl
      rw [e2] at this
      exact this
    have hf₂ : s₂.frames = .throwing q :: .java g :: U.frames.tail := hend
    have hW' : U.WarmedH s₂.vm := hW₂
    have hs₂ : s₂ = ((({ U with heap := s₂.heap, slotsUsed := s₂.slotsUsed } : State).setVm s₂.vm).setTop g).pushFrame (.throwing q) := by
      refine e3.trans ?_
      rw [hf₂, State.calling_eq h.top, State.setFrames_setFrames, State.pushFrame, State.frames_setTop _ hr', State.setTop_of_frames _ hr', State.setFrames_setFrames, hr]
      rfl
    have hsame : U.sameButNew ({ U with heap := s₂.heap, slotsUsed := s₂.slotsUsed } : State) L mc ms := by
      refine ⟨?_, q2, q3, q4, q5, q6⟩
      obtain ⟨t, ht, -⟩ := State.frames_cons hr
      show ({ U with heap := s₂.heap, slotsUsed := s₂.slotsUsed } : State) = { U.setFrames U.frames with heap := s₂.heap, slotsUsed := s₂.slotsUsed }
      rw [State.setFrames_self ht]
    subst hg
    refine Or.inr ⟨q, ⟨(({ U with heap := s₂.heap, slotsUsed := s₂.slotsUsed } : State).setVm s₂.vm), Ls ++ L, c0 + mc, s0 + ms⟩,
      ⟨X.admits, X.cas, X.clock, X.frames, X.room, X.hears, X.method, X.code, (X.here.setHeapUsed s₂.heap s₂.slotsUsed).setVm hW'.alike, X.tail, State.WarmedH.trans X.warmed hW', X.limits, X.bytes, X.same.trans (hsame.setVm s.vm)⟩,
      ⟨g, mk, s₂, L, E, ce, rfl, rfl, hx, hce, hcv, hcl, rfl, hL, rfl, rfl⟩, ?_⟩
    show Steps p.tables e below _ (((({ U with heap := s₂.heap, slotsUsed := s₂.slotsUsed } : State).setVm s₂.vm).setTop g).pushFrame (.throwing q))
    rw [← hs₂]
    exact hsteps
end
variable {p : Program} {l : Launch} {e : Env} {R : Room} {s : State} {m : MethodId} {args : Array Value} {below : List Frame} {meth : Method} {c : Code} {T : State} {H : Heap} {locs : List Loc} {cells slots : Nat}
theorem vx_callVX (X : Stand p l e R s m args below meth c T locs cells slots) (hexec : p.tables.exec = Jvm.exec) {own C : String} {index : Nat} {y : MethodName} {bytes : ByteArray} {maxL : Nat} {ret : Option FieldType} {hh : List (Nat × Nat × Nat × Nat)}
    (hown : s.vm.findClass own = some m.cls) (hlink : (Cond.methodLink own index y).before args s = true) (hinst : (Cond.instanceMethod y).before args s = true) (hsel : (Cond.selects C y y).before args s = true)
    (hcode : (Cond.codeWith y bytes maxL ret hh).before args s = true) (hy : y.cls ≠ "java/lang/invoke/MethodHandle" ∧ y.cls ≠ "java/lang/invoke/VarHandle")
    {W9 : Nat} {Pre : Pt → Array Value → Prop} {Post : Pt → Array Value → Option Value → Pt → Prop} {PostX : Pt → Array Value → Addr → Pt → Prop} (hK : vx_Back l R p e below s args y 3 W9 Pre Post PostX)
    {b : Addr} {cellB : Cell} (hcell : T.heap[b]? = some cellB) (hobj : cellB.vm.isStatics = false) (hcls : s.vm.findClass C = some cellB.cls)
    {g : JFrame} (hg : g.method = m) (hsize : g.locals.size = c.maxLocals) {argsL rest : List Value} (hlen : ∀ sig, parseMethodDescriptor y.desc = some sig → argsL.length = sig.parameters.length)
    (hstack : g.stack = argsL.reverse ++ .ref b :: rest) (hW : 2 * g.monitorRoom + (rest.map fun v => v.category).sum ≤ W9) (hdg : decode c.code g.pc = .ok (.invokevirtual index, 3))
    (hpre : ∀ vm₁, s.WarmedH vm₁ → Pre ⟨T.setVm vm₁, locs, cells, slots⟩ (Value.ref b :: argsL).toArray) :
    (∃ (v : Option Value) (vm₁ : Vm) (B : Pt), s.WarmedH vm₁ ∧ Stand p l e R s m args below meth c B.U B.locs B.cells B.slots ∧ Post ⟨T.setVm vm₁, locs, cells, slots⟩ (Value.ref b :: argsL).toArray v B ∧
      ∀ target, Steps p.tables e below (B.U.setTop { g with pc := g.pc + 3, stack := v.toList ++ rest }) target → Steps p.tables e below (T.setTop g) target) ∨
    (∃ (q : Addr) (vm₁ : Vm) (B : Pt), s.WarmedH vm₁ ∧ Stand p l e R s m args below meth c B.U B.locs B.cells B.slots ∧ PostX ⟨T.setVm vm₁, locs, cells, slots⟩ (Value.ref b :: argsL).toArray q B ∧
      Steps p.tables e below (T.setTop g) ((B.U.setTop { g with stack := rest }).pushFrame (.throwing q))) := by
  obtain ⟨mk, methM, hnamed, hmethM, hstM, habM⟩ := Cond.instanceMethod_spec hinst
  obtain ⟨m8, methM', cM, hn8, hmethM', -, -, -, -, -, -, hsigM⟩ := Cond.codeWith_spec hcode
  cases Option.some.inj (hn8.symm.trans hnamed)
  cases hmethM.symm.trans hmethM'
  obtain ⟨c2, r2, m2, q1, q2, q3, q4, kP, hkP, hkPi⟩ := Cond.selects_spec hsel
  cases hcls.symm.trans q1
  cases (State.methodFound?_of_named hnamed hy).symm.trans q2
  cases hnamed.symm.trans q3
  have hselP : selectMethod e.platform s.vm cellB.cls mk = .method mk := by rw [Launch.admits_selectMethod X.admits]; exact q4
  obtain ⟨vm₁, X₁, hstep₁⟩ := X.invokevirtual hexec hown hlink hnamed hmethM hstM hkP hkPi hy (a := b) (cell := cellB) hcell
    (fun z h => by rw [h] at hobj; cases hobj) hselP hmethM habM hkP hkPi (g := g) hg (argsL := argsL) (rest := rest) (hlen _ hsigM) hstack hdg
  rcases hK m meth c ⟨T.setVm vm₁, locs, cells, slots⟩ { g with stack := rest } (.invokevirtual index) mk (Value.ref b :: argsL).toArray X₁ hg hsize hdg hW (X₁.named hnamed) (hpre vm₁ X₁.warmed) with ⟨v, B, X', hpost, hsteps⟩ | ⟨q, B, X', hpost, hsteps⟩
  · exact Or.inl ⟨v, vm₁, B, X₁.warmed, X', hpost, fun target h => hstep₁ _ fun acts => by rw [doInvoke_state]; exact hsteps.trans h⟩
  · exact Or.inr ⟨q, vm₁, B, X₁.warmed, X', hpost, hstep₁ _ fun acts => by rw [doInvoke_state]; exact hsteps⟩
theorem vx_callSX (X : Stand p l e R s m args below meth c T locs cells slots) (hexec : p.tables.exec = Jvm.exec) {own : String} {index : Nat} {y : MethodName} {bytes : ByteArray} {maxL : Nat} {ret : Option FieldType} {hh : List (Nat × Nat × Nat × Nat)}
    (hown : s.vm.findClass own = some m.cls) (hlink : (Cond.methodLink own index y).before args s = true) (hstat : (Cond.static y).before args s = true) (hinit : (Cond.initialized y.cls).before args s = true)
    (hcode : (Cond.codeWith y bytes maxL ret hh).before args s = true) (hy : y.cls ≠ "java/lang/invoke/MethodHandle" ∧ y.cls ≠ "java/lang/invoke/VarHandle")
    {W9 : Nat} {Pre : Pt → Array Value → Prop} {Post : Pt → Array Value → Option Value → Pt → Prop} {PostX : Pt → Array Value → Addr → Pt → Prop} (hK : vx_Back l R p e below s args y 3 W9 Pre Post PostX)
    {g : JFrame} (hg : g.method = m) (hsize : g.locals.size = c.maxLocals) {argsL rest : List Value} (hlen : ∀ sig, parseMethodDescriptor y.desc = some sig → argsL.length = sig.parameters.length)
    (hstack : g.stack = argsL.reverse ++ rest) (hW : 2 * g.monitorRoom + (rest.map fun v => v.category).sum ≤ W9) (hdg : decode c.code g.pc = .ok (.invokestatic index, 3))
    (hpre : ∀ vm₁, s.WarmedH vm₁ → Pre ⟨T.setVm vm₁, locs, cells, slots⟩ argsL.toArray) :
    (∃ (v : Option Value) (vm₁ : Vm) (B : Pt), s.WarmedH vm₁ ∧ Stand p l e R s m args below meth c B.U B.locs B.cells B.slots ∧ Post ⟨T.setVm vm₁, locs, cells, slots⟩ argsL.toArray v B ∧
      ∀ target, Steps p.tables e below (B.U.setTop { g with pc := g.pc + 3, stack := v.toList ++ rest }) target → Steps p.tables e below (T.setTop g) target) ∨
    (∃ (q : Addr) (vm₁ : Vm) (B : Pt), s.WarmedH vm₁ ∧ Stand p l e R s m args below meth c B.U B.locs B.cells B.slots ∧ PostX ⟨T.setVm vm₁, locs, cells, slots⟩ argsL.toArray q B ∧
      Steps p.tables e below (T.setTop g) ((B.U.setTop { g with stack := rest }).pushFrame (.throwing q))) := by
  obtain ⟨mk, methM, cM, hnamed, hmethM, -, -, -, -, -, -, hsigM⟩ := Cond.codeWith_spec hcode
  have hstatic : methM.isStatic = true := Cond.static_spec hnamed hmethM hstat
  obtain ⟨kP, hkP, -⟩ := className_of_methodNamed hnamed
  have hinitP : kP.init = .initialized := Cond.initialized_spec (findClass_of_methodNamed hnamed) hkP hinit
  obtain ⟨vm₁, X₁, hstep₁⟩ := X.invokestatic hexec hown hlink hnamed hmethM hstatic hkP hinitP hy (g := g) hg (argsL := argsL) (rest := rest) (hlen _ hsigM) hstack hdg
  rcases hK m meth c ⟨T.setVm vm₁, locs, cells, slots⟩ { g with stack := rest } (.invokestatic index) mk argsL.toArray X₁ hg hsize hdg hW (X₁.named hnamed) (hpre vm₁ X₁.warmed) with ⟨v, B, X', hpost, hsteps⟩ | ⟨q, B, X', hpost, hsteps⟩
  · exact Or.inl ⟨v, vm₁, B, X₁.warmed, X', hpost, fun target h => hstep₁ _ fun acts => by rw [doInvoke_state]; exact hsteps.trans h⟩
  · exact Or.inr ⟨q, vm₁, B, X₁.warmed, X', hpost, hstep₁ _ fun acts => by rw [doInvoke_state]; exact hsteps⟩
theorem vx_callVW (X : Stand p l e R s m args below meth c T locs cells slots) (hexec : p.tables.exec = Jvm.exec) {own C : String} {index : Nat} {y : MethodName} {bytes : ByteArray} {maxL : Nat} {ret : Option FieldType} {hh : List (Nat × Nat × Nat × Nat)}
    (hown : s.vm.findClass own = some m.cls) (hlink : (Cond.methodLink own index y).before args s = true) (hinst : (Cond.instanceMethod y).before args s = true) (hsel : (Cond.selects C y y).before args s = true)
    (hcode : (Cond.codeWith y bytes maxL ret hh).before args s = true) (hy : y.cls ≠ "java/lang/invoke/MethodHandle" ∧ y.cls ≠ "java/lang/invoke/VarHandle")
    {W9 : Nat} {Pre : Pt → Array Value → Prop} {Post : Pt → Array Value → Option Value → Pt → Prop} (hK : Back l R p e below s args y 3 W9 Pre Post)
    {b : Addr} {cellB : Cell} (hcell : T.heap[b]? = some cellB) (hobj : cellB.vm.isStatics = false) (hcls : s.vm.findClass C = some cellB.cls)
    {g : JFrame} (hg : g.method = m) (hsize : g.locals.size = c.maxLocals) {argsL rest : List Value} (hlen : ∀ sig, parseMethodDescriptor y.desc = some sig → argsL.length = sig.parameters.length)
    (hstack : g.stack = argsL.reverse ++ .ref b :: rest) (hW : 2 * g.monitorRoom + (rest.map fun v => v.category).sum ≤ W9) (hdg : decode c.code g.pc = .ok (.invokevirtual index, 3))
    (hpre : ∀ vm₁, s.WarmedH vm₁ → Pre ⟨T.setVm vm₁, locs, cells, slots⟩ (Value.ref b :: argsL).toArray) :
    ∃ (v : Option Value) (vm₁ : Vm) (B : Pt), s.WarmedH vm₁ ∧ Stand p l e R s m args below meth c B.U B.locs B.cells B.slots ∧ Post ⟨T.setVm vm₁, locs, cells, slots⟩ (Value.ref b :: argsL).toArray v B ∧
      ∀ target, Steps p.tables e below (B.U.setTop { g with pc := g.pc + 3, stack := v.toList ++ rest }) target → Steps p.tables e below (T.setTop g) target := by
  obtain ⟨mk, methM, hnamed, hmethM, hstM, habM⟩ := Cond.instanceMethod_spec hinst
  obtain ⟨m8, methM', cM, hn8, hmethM', -, -, -, -, -, -, hsigM⟩ := Cond.codeWith_spec hcode
  cases Option.some.inj (hn8.symm.trans hnamed)
  cases hmethM.symm.trans hmethM'
  obtain ⟨c2, r2, m2, q1, q2, q3, q4, kP, hkP, hkPi⟩ := Cond.selects_spec hsel
  cases hcls.symm.trans q1
  cases (State.methodFound?_of_named hnamed hy).symm.trans q2
  cases hnamed.symm.trans q3
  have hselP : selectMethod e.platform s.vm cellB.cls mk = .method mk := by rw [Launch.admits_selectMethod X.admits]; exact q4
  obtain ⟨vm₁, X₁, hstep₁⟩ := X.invokevirtual hexec hown hlink hnamed hmethM hstM hkP hkPi hy (a := b) (cell := cellB) hcell
    (fun z h => by rw [h] at hobj; cases hobj) hselP hmethM habM hkP hkPi (g := g) hg (argsL := argsL) (rest := rest) (hlen _ hsigM) hstack hdg
  obtain ⟨v, B, X', hpost, hsteps⟩ := hK m meth c ⟨T.setVm vm₁, locs, cells, slots⟩ { g with stack := rest } (.invokevirtual index) mk (Value.ref b :: argsL).toArray X₁ hg hsize hdg hW (X₁.named hnamed) (hpre vm₁ X₁.warmed)
  exact ⟨v, vm₁, B, X₁.warmed, X', hpost, fun target h => hstep₁ _ fun acts => by rw [doInvoke_state]; exact hsteps.trans h⟩
abbrev vx_CVW (R : Room) (s : State) (args : Array Value) (own C : String) (index : Nat) (y : MethodName) (bytes : ByteArray) (maxL : Nat) (ret : Option FieldType) (hh : List (Nat × Nat × Nat × Nat)) (ws : List Cond) (rm : Room) (mc ms n : Nat) : Prop :=
  (rm.cells = mc ∧ rm.slots = ms ∧ rm.frames + 1 ≤ R.frames ∧ 8 + (maxL + 11) + rm.locals ≤ R.locals ∧ (∀ w ∈ ws, ∀ (a' : Array Value) (U : State), s.WarmedH U.vm → w.before a' U = true) ∧ Cond.codeWith y bytes maxL ret hh ∈ ws) ∧
  (Cond.codeWith y bytes maxL ret hh).before args s = true ∧ (Cond.initialized y.cls).before args s = true ∧ (y.cls ≠ "java/lang/invoke/MethodHandle" ∧ y.cls ≠ "java/lang/invoke/VarHandle") ∧
  (∀ sig, parseMethodDescriptor y.desc = some sig → n = sig.parameters.length) ∧ (Cond.methodLink own index y).before args s = true ∧ (Cond.instanceMethod y).before args s = true ∧ (Cond.selects C y y).before args s = true
theorem vx_cwVW {own C : String} {index maxL mc ms : Nat} {y : MethodName} {bytes : ByteArray} {ret : Option FieldType} {hh : List (Nat × Nat × Nat × Nat)} {Ts ws ws' : List Cond} {rm : Room} (n : Nat) (ht : ∀ w ∈ Ts, w.before args s = true) (hT : GoodIn Ts (wsV own index C y ws)) (hw : ws = Cond.codeWith y bytes maxL ret hh :: ws') (hrc : rm.cells = mc) (hrs : rm.slots = ms)
    (hd : y.cls = C ∧ y.cls ≠ "java/lang/invoke/MethodHandle" ∧ y.cls ≠ "java/lang/invoke/VarHandle" ∧ (parseMethodDescriptor y.desc).map (fun d => d.parameters.length) = some n) (hR : rm.frames + 1 ≤ R.frames ∧ 8 + (maxL + 11) + rm.locals ≤ R.locals) :
    vx_CVW R s args own C index y bytes maxL ret hh ws rm mc ms n := by
  obtain ⟨hC, hd⟩ := hd
  subst hC
  have ok : ∀ w ∈ wsV own index y.cls y ws, w.before args s = true := fun w h => ht w (hT w h).1
  have hG : GoodIn Ts ws := fun w h => hT w (by unfold wsV; exact List.mem_append_right _ h)
  have hc : Cond.codeWith y bytes maxL ret hh ∈ ws := by rw [hw]; exact List.mem_cons_self
  refine ⟨⟨hrc, hrs, hR.1, hR.2, pay_in ht hG, hc⟩, ht _ (hG _ hc).1, ok _ (by simp [wsV]), ⟨hd.1, hd.2.1⟩, fun sig h => ?_, ok _ (by simp [wsV]), ok _ (by simp [wsV]), ok _ (by simp [wsV])⟩
  have h2 := hd.2.2
  rw [h] at h2
  exact (Option.some.inj h2).symm
theorem vx_runVW {y : MethodName} {bytes cc : ByteArray} {maxL nL mc ms n index : Nat} {ret : Option FieldType} {hh : List (Nat × Nat × Nat × Nat)} {ws : List Cond} {rm : Room} {Pc : Array Value → State → Prop} {Qc : Array Value → State → Outcome → State → Prop} {free : Addr → Prop} {Ts : List Cond} {own C : String} {b : Addr} {As rest : List Value} {g : JFrame}
    (S : CallFix p m c cc nL s args Ts own) (hM : Met l y ws rm Pc Qc mc ms free) (cw : vx_CVW R s args own C index y bytes maxL ret hh ws rm mc ms n) (hp : PreV s H C b Pc As)
    (hg : g.method = m) (hn : As.length = n) (hsize : g.locals.size = nL) (hstack : g.stack = As.reverse ++ .ref b :: rest) (hW : 2 * g.monitorRoom + (rest.map fun v => v.category).sum ≤ 8) (hdg : decode cc g.pc = .ok (.invokevirtual index, 3)) (hf : cells + mc ≤ R.cells ∧ slots + ms ≤ R.slots) :
    va_Run p l e R s m args below meth c H locs cells slots mc ms g rest (Qc (Value.ref b :: As).toArray) free := by
  obtain ⟨⟨hrc, hrs, hfr, hlo, hws, hcw⟩, hcode, hini, hy, hlen, hl, hin, hse⟩ := cw
  have hK : Back l R p e below s args y 3 8 (PreOf R mc ms Pc) (PostOf Qc mc ms free) := va_backW (hh := hh) (bytes := bytes) (maxL := maxL) (ret := ret) hM hp.1 hrc hrs hfr hlo hws hcw (fun a' U hW => word_at hW (Or.inl (by first | rfl | simp [Cond.onTables, Cond.keeps, Cond.steady])) hini)
  obtain ⟨hx, hb, hml, ho, -⟩ := S
  obtain ⟨-, ⟨cellB, hcB, hoB, hclB⟩, hPc⟩ := hp
  intro T hT X
  obtain ⟨v, vm₁, ⟨U', l2, c2, s2⟩, hW₁, X', ⟨g', mk, t, L, e1, e2, hq, h1, hL, h2, h3⟩, st⟩ := vx_callVW X hx (C := C) (hh := hh) (bytes := bytes) (maxL := maxL) (ret := ret) ho hl hin hse hcode hy hK (by rw [hT]; exact hcB) hoB hclB hg (hsize.trans hml.symm) (argsL := As) (rest := rest) (fun sig h => hn.trans (hlen sig h)) hstack hW (by rw [hb]; exact hdg)
    (fun vm₁ hW₁ => ⟨hf.1, hf.2, hPc (T.setVm vm₁) hT hW₁⟩)
  dsimp only [Pt.U, Pt.locs, Pt.cells, Pt.slots] at X' e1 e2 h1 h2 h3 st
  subst h1; subst h2; subst h3
  exact ⟨v, (T.setVm vm₁).calling g' mk (Value.ref b :: As).toArray, t, U', L, hT, X', hL, e1, e2, hq, st⟩
section
variable {y : MethodName} {bytes cc : ByteArray} {maxL nL mc ms n index : Nat} {ret : Option FieldType} {ws : List Cond} {rm : Room} {Pc : Array Value → State → Prop} {Qc : Array Value → State → Outcome → State → Prop} {XC : String → State → State → Prop} {free : Addr → Prop} {Ts : List Cond} {own C : String} {b : Addr} {As rest : List Value} {g : JFrame}
theorem vx_runVX {hh : List (Nat × Nat × Nat × Nat)} (S : CallFix p m c cc nL s args Ts own) (hM : vx_Met l y ws rm Pc Qc XC mc ms free) (cw : vx_CVW R s args own C index y bytes maxL ret hh ws rm mc ms n) (hp : PreV s H C b Pc As)
    (hg : g.method = m) (hn : As.length = n) (hsize : g.locals.size = nL) (hstack : g.stack = As.reverse ++ .ref b :: rest) (hW : 2 * g.monitorRoom + (rest.map fun v => v.category).sum ≤ 8) (hdg : decode cc g.pc = .ok (.invokevirtual index, 3)) (hf : cells + mc ≤ R.cells ∧ slots + ms ≤ R.slots) :
    vx_Run p l e R s m args below meth c H locs cells slots mc ms g rest (Qc (Value.ref b :: As).toArray) XC free := by
  obtain ⟨⟨hrc, hrs, hfr, hlo, hws, hcw⟩, hcode, hini, hy, hlen, hl, hin, hse⟩ := cw
  have hK : vx_Back l R p e below s args y 3 8 (PreOf R mc ms Pc) (PostOf Qc mc ms free) (vx_Post XC mc ms free) := vx_backW (hh := hh) (bytes := bytes) (maxL := maxL) (ret := ret) hM hp.1 hrc hrs hfr hlo hws hcw (fun a' U hW => word_at hW (Or.inl (by first | rfl | simp [Cond.onTables, Cond.keeps, Cond.steady])) hini)
  obtain ⟨hx, hb, hml, ho, -⟩ := S
  obtain ⟨-, ⟨cellB, hcB, hoB, hclB⟩, hPc⟩ := hp
  intro T hT X
  rcases vx_callVX X hx (C := C) (hh := hh) (bytes := bytes) (maxL := maxL) (ret := ret) ho hl hin hse hcode hy hK (by rw [hT]; exact hcB) hoB hclB hg (hsize.trans hml.symm) (argsL := As) (rest := rest) (fun sig h => hn.trans (hlen sig h)) hstack hW (by rw [hb]; exact hdg)
    (fun vm₁ hW₁ => ⟨hf.1, hf.2, hPc (T.setVm vm₁) hT hW₁⟩) with ⟨v, vm₁, ⟨U', l2, c2, s2⟩, hW₁, X', ⟨g', mk, t, L, e1, e2, hq, h1, hL, h2, h3⟩, st⟩ | ⟨q, vm₁, ⟨U', l2, c2, s2⟩, hW₁, X', ⟨g', mk, t, L, E, ce, e1, e2, hq, hce, hcv, hcl, h1, hL, h2, h3⟩, st⟩
  · dsimp only [Pt.U, Pt.locs, Pt.cells, Pt.slots] at X' e1 e2 h1 h2 h3 st
    subst h1; subst h2; subst h3
    exact Or.inl ⟨v, (T.setVm vm₁).calling g' mk (Value.ref b :: As).toArray, t, U', L, hT, X', hL, e1, e2, hq, st⟩
  · dsimp only [Pt.U, Pt.locs, Pt.cells, Pt.slots] at X' e1 e2 h1 h2 h3 st hcl
    subst h1; subst h2; subst h3
    exact Or.inr ⟨q, (T.setVm vm₁).calling g' mk (Value.ref b :: As).toArray, t, U', L, E, ce, hT, X', hL, e1, e2, hq, hce, hcv, vx_cls hW₁ hcl, st⟩
theorem vx_runSX {hh : List (Nat × Nat × Nat × Nat)} (S : CallFix p m c cc nL s args Ts own) (hM : vx_Met l y ws rm Pc Qc XC mc ms free) (cw : vx_CSW R s args own index y bytes maxL ret hh ws rm mc ms n) (hp : PreS s H Pc As)
    (hg : g.method = m) (hn : As.length = n) (hsize : g.locals.size = nL) (hstack : g.stack = As.reverse ++ rest) (hW : 2 * g.monitorRoom + (rest.map fun v => v.category).sum ≤ 8) (hdg : decode cc g.pc = .ok (.invokestatic index, 3)) (hf : cells + mc ≤ R.cells ∧ slots + ms ≤ R.slots) :
    vx_Run p l e R s m args below meth c H locs cells slots mc ms g rest (Qc As.toArray) XC free := by
  obtain ⟨⟨hrc, hrs, hfr, hlo, hws, hcw⟩, hcode, hini, hy, hlen, hl, hstt⟩ := cw
  have hK : vx_Back l R p e below s args y 3 8 (PreOf R mc ms Pc) (PostOf Qc mc ms free) (vx_Post XC mc ms free) := vx_backW (hh := hh) (bytes := bytes) (maxL := maxL) (ret := ret) hM hp.1 hrc hrs hfr hlo hws hcw (fun a' U hW => word_at hW (Or.inl (by first | rfl | simp [Cond.onTables, Cond.keeps, Cond.steady])) hini)
  obtain ⟨hx, hb, hml, ho, -⟩ := S
  intro T hT X
  rcases vx_callSX X hx (hh := hh) (bytes := bytes) (maxL := maxL) (ret := ret) ho hl hstt hini hcode hy hK hg (hsize.trans hml.symm) (argsL := As) (rest := rest) (fun sig h => hn.trans (hlen sig h)) hstack hW (by rw [hb]; exact hdg)
    (fun vm₁ hW₁ => ⟨hf.1, hf.2, hp.2 (T.setVm vm₁) hT hW₁⟩) with ⟨v, vm₁, ⟨U', l2, c2, s2⟩, hW₁, X', ⟨g', mk, t, L, e1, e2, hq, h1, hL, h2, h3⟩, st⟩ | ⟨q, vm₁, ⟨U', l2, c2, s2⟩, hW₁, X', ⟨g', mk, t, L, E, ce, e1, e2, hq, hce, hcv, hcl, h1, hL, h2, h3⟩, st⟩
  · dsimp only [Pt.U, Pt.locs, Pt.cells, Pt.slots] at X' e1 e2 h1 h2 h3 st
    subst h1; subst h2; subst h3
    exact Or.inl ⟨v, (T.setVm vm₁).calling g' mk As.toArray, t, U', L, hT, X', hL, e1, e2, hq, st⟩
  · dsimp only [Pt.U, Pt.locs, Pt.cells, Pt.slots] at X' e1 e2 h1 h2 h3 st hcl
    subst h1; subst h2; subst h3
    exact Or.inr ⟨q, (T.setVm vm₁).calling g' mk As.toArray, t, U', L, E, ce, hT, X', hL, e1, e2, hq, hce, hcv, vx_cls hW₁ hcl, st⟩
end
end VXH
theorem vx_ofWH {l : Launch} {y : MethodName} {ws ws' : List Cond} {rm : Room} {Pc : Array Value → State → Prop} {Qc : Array Value → State → Outcome → State → Prop} {XC : String → State → State → Prop} {mc ms : Nat} {free : Addr → Prop} {cc : ByteArray} {maxL : Nat} {ret : Option FieldType} {hh : List (Nat × Nat × Nat × Nat)}
    (hy : plainName y.cls = true) (hw : ws = Cond.codeWith y cc maxL ret hh :: ws')
    (body : ∀ p e s m args below meth c s₁, BodyLoose p l y (headSpec ws rm) cc maxL ret e s m args below meth c s₁ → c.maxLocals = maxL → Pc args s →
      W p l e (headSpec ws rm).room s m args below meth c s.heap [] 0 0 (vx_MQ below Qc XC args s mc ms free) (entryFrame m args maxL)) : vx_Met l y ws rm Pc Qc XC mc ms free := by
  refine MetFree.of_bodyS (code := cc) (maxLocals := maxL) (ret := ret) hy ?_ ?_
  · intro args s m h hn
    obtain ⟨m9, meth, c, hn9, h1, h2, h3, h4, -, h5, h6, -⟩ := Cond.codeWith_spec (atoms_spec (ws := ws) h _ (by rw [hw]; exact List.mem_cons_self))
    cases hn.symm.trans hn9
    exact ⟨meth, c, h1, h2, h3, h4, h5, h6⟩
  · intro p e s m args below meth c s₁ B hml hP _
    have hh0 : s₁.heap = s.heap := by rw [B.state]; rfl
    obtain ⟨t, a1, o, b1, b2, b3⟩ := body p e s m args below meth c s₁ B hml hP s₁ hh0 (Stand.of_body B)
    exact ⟨t, o, a1, b1, b2, b3⟩
/-! ===== END ===== -/
end
section
def RX0 : String := "ZipCanopy$Layout"
def TX0 : u_T := fun k => match k with
  | 0 => ("ZipCanopy$Layout", "platforms", "[LZipCanopy$Platform;", true)
  | 1 => ("ZipCanopy$Layout", "lines", "[LZipCanopy$Line;", true)
  | 2 => ("ZipCanopy$Layout", "riders", "[LZipCanopy$Rider;", true)
  | 3 => ("ZipCanopy$Layout", "winds", "[I", true)
  | 4 => ("ZipCanopy$Layout", "platformCount", "I", false)
  | 5 => ("ZipCanopy$Layout", "lineCount", "I", false)
  | _ => ("ZipCanopy$Layout", "riderCount", "I", false)
def tyX0 : Nat → FieldType := fun k => match k with
  | 0 => .array (.object "ZipCanopy$Platform")
  | 1 => .array (.object "ZipCanopy$Line")
  | 2 => .array (.object "ZipCanopy$Rider")
  | 3 => .array .int
  | 4 => .int
  | 5 => .int
  | _ => .int
abbrev wsX00 : List Cond := u_ws RX0 TX0 7
theorem nmX0 : ∀ a, a < 7 → ∀ b, b < 7 → a ≠ b → (TX0 a).2.1 ≠ (TX0 b).2.1 := by decide +kernel
theorem tyX0_ok : ∀ k, k < 7 → parseFieldDescriptor (TX0 k).2.2.1 = some (tyX0 k) := by decide +kernel
abbrev cX0_init : ByteArray := prog_2_method_1_code
def yX0_init : MethodName := ⟨RX0, "<init>", "()V"⟩
abbrev cX0_hasPlatformAt : ByteArray := prog_2_method_2_code
def yX0_hasPlatformAt : MethodName := ⟨RX0, "hasPlatformAt", "(II)Z"⟩
abbrev cX0_isLower : ByteArray := prog_2_method_3_code
def yX0_isLower : MethodName := ⟨RX0, "isLower", "(II)Z"⟩
abbrev cX0_addPlatform : ByteArray := prog_2_method_4_code
def yX0_addPlatform : MethodName := ⟨RX0, "addPlatform", "(III)I"⟩
abbrev cX0_addLine : ByteArray := prog_2_method_5_code
def yX0_addLine : MethodName := ⟨RX0, "addLine", "(III)I"⟩
abbrev cX0_addRider : ByteArray := prog_2_method_6_code
def yX0_addRider : MethodName := ⟨RX0, "addRider", "(III)I"⟩
abbrev cX0_linesWithTop : ByteArray := prog_2_method_7_code
def yX0_linesWithTop : MethodName := ⟨RX0, "linesWithTop", "(I)I"⟩
abbrev cX0_linesWithBottom : ByteArray := prog_2_method_8_code
def yX0_linesWithBottom : MethodName := ⟨RX0, "linesWithBottom", "(I)I"⟩
abbrev cX0_isClosed : ByteArray := prog_2_method_9_code
def yX0_isClosed : MethodName := ⟨RX0, "isClosed", "(LZipCanopy$Line;I)Z"⟩
def RX1 : String := "ZipCanopy$Line"
def TX1 : u_T := fun k => match k with
  | 0 => ("ZipCanopy$Line", "top", "I", false)
  | 1 => ("ZipCanopy$Line", "bottom", "I", false)
  | 2 => ("ZipCanopy$Line", "most", "I", false)
  | 3 => ("ZipCanopy$Line", "length", "I", false)
  | _ => ("ZipCanopy$Line", "drop", "I", false)
def tyX1 : Nat → FieldType := fun k => match k with
  | 0 => .int
  | 1 => .int
  | 2 => .int
  | 3 => .int
  | _ => .int
abbrev wsX10 : List Cond := u_ws RX1 TX1 5
theorem nmX1 : ∀ a, a < 5 → ∀ b, b < 5 → a ≠ b → (TX1 a).2.1 ≠ (TX1 b).2.1 := by decide +kernel
theorem tyX1_ok : ∀ k, k < 5 → parseFieldDescriptor (TX1 k).2.2.1 = some (tyX1 k) := by decide +kernel
abbrev cX1_init : ByteArray := prog_3_method_1_code
def yX1_init : MethodName := ⟨RX1, "<init>", "()V"⟩
abbrev cX1_carries : ByteArray := prog_3_method_2_code
def yX1_carries : MethodName := ⟨RX1, "carries", "(I)Z"⟩
abbrev cX1_getsStuck : ByteArray := prog_3_method_3_code
def yX1_getsStuck : MethodName := ⟨RX1, "getsStuck", "(I)Z"⟩
abbrev cX1_rideMinutes : ByteArray := prog_3_method_4_code
def yX1_rideMinutes : MethodName := ⟨RX1, "rideMinutes", "(I)I"⟩
abbrev cX1_pullMinutes : ByteArray := prog_3_method_5_code
def yX1_pullMinutes : MethodName := ⟨RX1, "pullMinutes", "()I"⟩
def RX2 : String := "ZipCanopy$Platform"
def TX2 : u_T := fun k => match k with
  | 0 => ("ZipCanopy$Platform", "x", "I", false)
  | 1 => ("ZipCanopy$Platform", "y", "I", false)
  | _ => ("ZipCanopy$Platform", "height", "I", false)
def tyX2 : Nat → FieldType := fun k => match k with
  | 0 => .int
  | 1 => .int
  | _ => .int
abbrev wsX20 : List Cond := u_ws RX2 TX2 3
theorem nmX2 : ∀ a, a < 3 → ∀ b, b < 3 → a ≠ b → (TX2 a).2.1 ≠ (TX2 b).2.1 := by decide +kernel
theorem tyX2_ok : ∀ k, k < 3 → parseFieldDescriptor (TX2 k).2.2.1 = some (tyX2 k) := by decide +kernel
abbrev cX2_init : ByteArray := prog_4_method_1_code
def yX2_init : MethodName := ⟨RX2, "<init>", "()V"⟩
abbrev cX2_distanceTo : ByteArray := prog_4_method_2_code
def yX2_distanceTo : MethodName := ⟨RX2, "distanceTo", "(LZipCanopy$Platform;)I"⟩
def RX3 : String := "ZipCanopy$Rider"
def TX3 : u_T := fun k => match k with
  | 0 => ("ZipCanopy$Rider", "route", "LZipCanopy$Route;", true)
  | 1 => ("ZipCanopy$Rider", "goal", "I", false)
  | 2 => ("ZipCanopy$Rider", "weight", "I", false)
  | _ => ("ZipCanopy$Rider", "patience", "I", false)
def tyX3 : Nat → FieldType := fun k => match k with
  | 0 => .object "ZipCanopy$Route"
  | 1 => .int
  | 2 => .int
  | _ => .int
abbrev wsX30 : List Cond := u_ws RX3 TX3 4
theorem nmX3 : ∀ a, a < 4 → ∀ b, b < 4 → a ≠ b → (TX3 a).2.1 ≠ (TX3 b).2.1 := by decide +kernel
theorem tyX3_ok : ∀ k, k < 4 → parseFieldDescriptor (TX3 k).2.2.1 = some (tyX3 k) := by decide +kernel
abbrev cX3_init : ByteArray := prog_5_method_1_code
def yX3_init : MethodName := ⟨RX3, "<init>", "()V"⟩
abbrev cX3_planRoute : ByteArray := prog_5_method_2_code
def yX3_planRoute : MethodName := ⟨RX3, "planRoute", "(LZipCanopy$Layout;)V"⟩
def RX4 : String := "ZipCanopy$Route"
def TX4 : u_T := fun k => match k with
  | 0 => ("ZipCanopy$Route", "lines", "[I", true)
  | _ => ("ZipCanopy$Route", "first", "[I", true)
def tyX4 : Nat → FieldType := fun k => match k with
  | 0 => .array .int
  | _ => .array .int
abbrev wsX40 : List Cond := u_ws RX4 TX4 2
theorem nmX4 : ∀ a, a < 2 → ∀ b, b < 2 → a ≠ b → (TX4 a).2.1 ≠ (TX4 b).2.1 := by decide +kernel
theorem tyX4_ok : ∀ k, k < 2 → parseFieldDescriptor (TX4 k).2.2.1 = some (tyX4 k) := by decide +kernel
abbrev cX4_init : ByteArray := prog_6_method_1_code
def yX4_init : MethodName := ⟨RX4, "<init>", "()V"⟩
abbrev cX4_plan : ByteArray := prog_6_method_2_code
def yX4_plan : MethodName := ⟨RX4, "plan", "(LZipCanopy$Layout;II)V"⟩
abbrev cX4_extend : ByteArray := prog_6_method_3_code
def yX4_extend : MethodName := ⟨RX4, "extend", "(LZipCanopy$Line;III)V"⟩
abbrev cX4_linesFrom : ByteArray := prog_6_method_4_code
def yX4_linesFrom : MethodName := ⟨RX4, "linesFrom", "(I)I"⟩
abbrev cX4_firstFrom : ByteArray := prog_6_method_5_code
def yX4_firstFrom : MethodName := ⟨RX4, "firstFrom", "(I)I"⟩
def RX5 : String := "ZipCanopy$Traffic"
def TX5 : u_T := fun k => match k with
  | 0 => ("ZipCanopy$Traffic", "layout", "LZipCanopy$Layout;", true)
  | 1 => ("ZipCanopy$Traffic", "trips", "[LZipCanopy$Trip;", true)
  | 2 => ("ZipCanopy$Traffic", "trolleys", "[LZipCanopy$Trolleys;", true)
  | 3 => ("ZipCanopy$Traffic", "waiting", "[I", true)
  | 4 => ("ZipCanopy$Traffic", "waitingCount", "I", false)
  | _ => ("ZipCanopy$Traffic", "minute", "I", false)
def tyX5 : Nat → FieldType := fun k => match k with
  | 0 => .object "ZipCanopy$Layout"
  | 1 => .array (.object "ZipCanopy$Trip")
  | 2 => .array (.object "ZipCanopy$Trolleys")
  | 3 => .array .int
  | 4 => .int
  | _ => .int
abbrev wsX50 : List Cond := u_ws RX5 TX5 6
theorem nmX5 : ∀ a, a < 6 → ∀ b, b < 6 → a ≠ b → (TX5 a).2.1 ≠ (TX5 b).2.1 := by decide +kernel
theorem tyX5_ok : ∀ k, k < 6 → parseFieldDescriptor (TX5 k).2.2.1 = some (tyX5 k) := by decide +kernel
abbrev cX5_init : ByteArray := prog_7_method_1_code
def yX5_init : MethodName := ⟨RX5, "<init>", "(LZipCanopy$Layout;)V"⟩
abbrev cX5_copyFrom : ByteArray := prog_7_method_2_code
def yX5_copyFrom : MethodName := ⟨RX5, "copyFrom", "(LZipCanopy$Traffic;)V"⟩
abbrev cX5_addTrolleys : ByteArray := prog_7_method_3_code
def yX5_addTrolleys : MethodName := ⟨RX5, "addTrolleys", "(II)V"⟩
abbrev cX5_reach : ByteArray := prog_7_method_4_code
def yX5_reach : MethodName := ⟨RX5, "reach", "(II)V"⟩
abbrev cX5_goOn : ByteArray := prog_7_method_5_code
def yX5_goOn : MethodName := ⟨RX5, "goOn", "(I)I"⟩
abbrev cX5_passMinute : ByteArray := prog_7_method_6_code
def yX5_passMinute : MethodName := ⟨RX5, "passMinute", "()V"⟩
abbrev cX5_moveTrolleys : ByteArray := prog_7_method_7_code
def yX5_moveTrolleys : MethodName := ⟨RX5, "moveTrolleys", "(LZipCanopy$Line;LZipCanopy$Trolleys;)V"⟩
abbrev cX5_beginRide : ByteArray := prog_7_method_8_code
def yX5_beginRide : MethodName := ⟨RX5, "beginRide", "(LZipCanopy$Line;I)V"⟩
abbrev cX5_firstWaitingFor : ByteArray := prog_7_method_9_code
def yX5_firstWaitingFor : MethodName := ⟨RX5, "firstWaitingFor", "(I)I"⟩
abbrev cX5_leaveWaiting : ByteArray := prog_7_method_10_code
def yX5_leaveWaiting : MethodName := ⟨RX5, "leaveWaiting", "(I)V"⟩
abbrev cX5_tireWaiting : ByteArray := prog_7_method_11_code
def yX5_tireWaiting : MethodName := ⟨RX5, "tireWaiting", "()V"⟩
abbrev cX5_givesUp : ByteArray := prog_7_method_12_code
def yX5_givesUp : MethodName := ⟨RX5, "givesUp", "(LZipCanopy$Rider;LZipCanopy$Trip;)Z"⟩
abbrev cX5_queueLength : ByteArray := prog_7_method_13_code
def yX5_queueLength : MethodName := ⟨RX5, "queueLength", "(I)I"⟩
abbrev cX5_inQueue : ByteArray := prog_7_method_14_code
def yX5_inQueue : MethodName := ⟨RX5, "inQueue", "(II)I"⟩
abbrev cX5_arrivedAt : ByteArray := prog_7_method_15_code
def yX5_arrivedAt : MethodName := ⟨RX5, "arrivedAt", "(I)I"⟩
abbrev cX5_ridersIn : ByteArray := prog_7_method_16_code
def yX5_ridersIn : MethodName := ⟨RX5, "ridersIn", "(I)I"⟩
abbrev cX5_trolleysInAll : ByteArray := prog_7_method_17_code
def yX5_trolleysInAll : MethodName := ⟨RX5, "trolleysInAll", "()I"⟩
abbrev cX5_ridesInAll : ByteArray := prog_7_method_18_code
def yX5_ridesInAll : MethodName := ⟨RX5, "ridesInAll", "()I"⟩
def RX6 : String := "ZipCanopy$Trip"
def TX6 : u_T := fun k => match k with
  | 0 => ("ZipCanopy$Trip", "state", "I", false)
  | 1 => ("ZipCanopy$Trip", "platform", "I", false)
  | 2 => ("ZipCanopy$Trip", "line", "I", false)
  | 3 => ("ZipCanopy$Trip", "minutes", "I", false)
  | 4 => ("ZipCanopy$Trip", "taken", "I", false)
  | _ => ("ZipCanopy$Trip", "arrival", "I", false)
def tyX6 : Nat → FieldType := fun k => match k with
  | 0 => .int
  | 1 => .int
  | 2 => .int
  | 3 => .int
  | 4 => .int
  | _ => .int
abbrev wsX60 : List Cond := u_ws RX6 TX6 6
theorem nmX6 : ∀ a, a < 6 → ∀ b, b < 6 → a ≠ b → (TX6 a).2.1 ≠ (TX6 b).2.1 := by decide +kernel
theorem tyX6_ok : ∀ k, k < 6 → parseFieldDescriptor (TX6 k).2.2.1 = some (tyX6 k) := by decide +kernel
abbrev cX6_init : ByteArray := prog_8_method_1_code
def yX6_init : MethodName := ⟨RX6, "<init>", "()V"⟩
abbrev cX6_copyFrom : ByteArray := prog_8_method_2_code
def yX6_copyFrom : MethodName := ⟨RX6, "copyFrom", "(LZipCanopy$Trip;)V"⟩
abbrev cX6_isUnderWay : ByteArray := prog_8_method_3_code
def yX6_isUnderWay : MethodName := ⟨RX6, "isUnderWay", "()Z"⟩
abbrev cX6_beginWait : ByteArray := prog_8_method_4_code
def yX6_beginWait : MethodName := ⟨RX6, "beginWait", "(I)V"⟩
abbrev cX6_beginRide : ByteArray := prog_8_method_5_code
def yX6_beginRide : MethodName := ⟨RX6, "beginRide", "(II)V"⟩
abbrev cX6_arrive : ByteArray := prog_8_method_6_code
def yX6_arrive : MethodName := ⟨RX6, "arrive", "(II)V"⟩
abbrev cX6_giveUp : ByteArray := prog_8_method_7_code
def yX6_giveUp : MethodName := ⟨RX6, "giveUp", "()V"⟩
def RX7 : String := "ZipCanopy$Trolleys"
def TX7 : u_T := fun k => match k with
  | 0 => ("ZipCanopy$Trolleys", "atTop", "I", false)
  | 1 => ("ZipCanopy$Trolleys", "away", "I", false)
  | 2 => ("ZipCanopy$Trolleys", "riders", "[I", true)
  | 3 => ("ZipCanopy$Trolleys", "minutesLeft", "[I", true)
  | 4 => ("ZipCanopy$Trolleys", "rides", "I", false)
  | _ => ("ZipCanopy$Trolleys", "stuck", "I", false)
def tyX7 : Nat → FieldType := fun k => match k with
  | 0 => .int
  | 1 => .int
  | 2 => .array .int
  | 3 => .array .int
  | 4 => .int
  | _ => .int
abbrev wsX70 : List Cond := u_ws RX7 TX7 6
theorem nmX7 : ∀ a, a < 6 → ∀ b, b < 6 → a ≠ b → (TX7 a).2.1 ≠ (TX7 b).2.1 := by decide +kernel
theorem tyX7_ok : ∀ k, k < 6 → parseFieldDescriptor (TX7 k).2.2.1 = some (tyX7 k) := by decide +kernel
abbrev cX7_init : ByteArray := prog_9_method_1_code
def yX7_init : MethodName := ⟨RX7, "<init>", "()V"⟩
abbrev cX7_copyFrom : ByteArray := prog_9_method_2_code
def yX7_copyFrom : MethodName := ⟨RX7, "copyFrom", "(LZipCanopy$Trolleys;)V"⟩
abbrev cX7_inAll : ByteArray := prog_9_method_3_code
def yX7_inAll : MethodName := ⟨RX7, "inAll", "()I"⟩
abbrev cX7_ridden : ByteArray := prog_9_method_4_code
def yX7_ridden : MethodName := ⟨RX7, "ridden", "()I"⟩
abbrev cX7_canLeaveTop : ByteArray := prog_9_method_5_code
def yX7_canLeaveTop : MethodName := ⟨RX7, "canLeaveTop", "()Z"⟩
abbrev cX7_leaveTop : ByteArray := prog_9_method_6_code
def yX7_leaveTop : MethodName := ⟨RX7, "leaveTop", "(II)V"⟩
abbrev cX7_beginPull : ByteArray := prog_9_method_7_code
def yX7_beginPull : MethodName := ⟨RX7, "beginPull", "(II)V"⟩
abbrev cX7_dropPulled : ByteArray := prog_9_method_8_code
def yX7_dropPulled : MethodName := ⟨RX7, "dropPulled", "()V"⟩
def RX8 : String := "ZipCanopy"
def TX8 : u_T := fun k => match k with
  | 0 => ("ZipCanopy", "layout", "LZipCanopy$Layout;", true)
  | 1 => ("ZipCanopy", "now", "LZipCanopy$Traffic;", true)
  | 2 => ("ZipCanopy", "ahead", "LZipCanopy$Traffic;", true)
  | _ => ("ZipCanopy", "asked", "LZipCanopy$Route;", true)
def tyX8 : Nat → FieldType := fun k => match k with
  | 0 => .object "ZipCanopy$Layout"
  | 1 => .object "ZipCanopy$Traffic"
  | 2 => .object "ZipCanopy$Traffic"
  | _ => .object "ZipCanopy$Route"
abbrev wsX80 : List Cond := u_ws RX8 TX8 4
theorem nmX8 : ∀ a, a < 4 → ∀ b, b < 4 → a ≠ b → (TX8 a).2.1 ≠ (TX8 b).2.1 := by decide +kernel
theorem tyX8_ok : ∀ k, k < 4 → parseFieldDescriptor (TX8 k).2.2.1 = some (tyX8 k) := by decide +kernel
abbrev cX8_init : ByteArray := prog_1_method_1_code
def yX8_init : MethodName := ⟨RX8, "<init>", "()V"⟩
abbrev cX8_build : ByteArray := prog_1_method_2_code
def yX8_build : MethodName := ⟨RX8, "build", "(III)I"⟩
abbrev cX8_span : ByteArray := prog_1_method_3_code
def yX8_span : MethodName := ⟨RX8, "span", "(IIII)I"⟩
abbrev cX8_add : ByteArray := prog_1_method_4_code
def yX8_add : MethodName := ⟨RX8, "add", "(I)I"⟩
abbrev cX8_setWind : ByteArray := prog_1_method_5_code
def yX8_setWind : MethodName := ⟨RX8, "setWind", "(II)I"⟩
abbrev cX8_platform : ByteArray := prog_1_method_6_code
def yX8_platform : MethodName := ⟨RX8, "platform", "(II)I"⟩
abbrev cX8_line : ByteArray := prog_1_method_7_code
def yX8_line : MethodName := ⟨RX8, "line", "(II)I"⟩
abbrev cX8_ride : ByteArray := prog_1_method_8_code
def yX8_ride : MethodName := ⟨RX8, "ride", "(II)I"⟩
abbrev cX8_come : ByteArray := prog_1_method_9_code
def yX8_come : MethodName := ⟨RX8, "come", "(IIII)I"⟩
abbrev cX8_rider : ByteArray := prog_1_method_10_code
def yX8_rider : MethodName := ⟨RX8, "rider", "(II)I"⟩
abbrev cX8_queue : ByteArray := prog_1_method_11_code
def yX8_queue : MethodName := ⟨RX8, "queue", "(II)I"⟩
abbrev cX8_pass : ByteArray := prog_1_method_12_code
def yX8_pass : MethodName := ⟨RX8, "pass", "(I)I"⟩
abbrev cX8_count : ByteArray := prog_1_method_13_code
def yX8_count : MethodName := ⟨RX8, "count", "(I)I"⟩
abbrev cX8_way : ByteArray := prog_1_method_14_code
def yX8_way : MethodName := ⟨RX8, "way", "(III)I"⟩
abbrev cX8_arrives : ByteArray := prog_1_method_15_code
def yX8_arrives : MethodName := ⟨RX8, "arrives", "(I)I"⟩
abbrev cX8_advise : ByteArray := prog_1_method_16_code
def yX8_advise : MethodName := ⟨RX8, "advise", "(I)I"⟩
abbrev cX8_mean : ByteArray := prog_1_method_17_code
def yX8_mean : MethodName := ⟨RX8, "mean", "()D"⟩
abbrev cX8_digest : ByteArray := prog_1_method_18_code
def yX8_digest : MethodName := ⟨RX8, "digest", "()J"⟩
abbrev cX8_within : ByteArray := prog_1_method_19_code
def yX8_within : MethodName := ⟨RX8, "within", "(III)Z"⟩
abbrev cX8_isWeight : ByteArray := prog_1_method_20_code
def yX8_isWeight : MethodName := ⟨RX8, "isWeight", "(I)Z"⟩
abbrev cX8_isPlatform : ByteArray := prog_1_method_21_code
def yX8_isPlatform : MethodName := ⟨RX8, "isPlatform", "(I)Z"⟩
abbrev cX8_isLine : ByteArray := prog_1_method_22_code
def yX8_isLine : MethodName := ⟨RX8, "isLine", "(I)Z"⟩
abbrev cX8_isRider : ByteArray := prog_1_method_23_code
def yX8_isRider : MethodName := ⟨RX8, "isRider", "(I)Z"⟩
abbrev cX8_arrivalsWithOneMore : ByteArray := prog_1_method_24_code
def yX8_arrivalsWithOneMore : MethodName := ⟨RX8, "arrivalsWithOneMore", "(II)I"⟩
abbrev cX8_digestPlatform : ByteArray := prog_1_method_25_code
def yX8_digestPlatform : MethodName := ⟨RX8, "digestPlatform", "(JI)J"⟩
abbrev cX8_platformFact : ByteArray := prog_1_method_26_code
def yX8_platformFact : MethodName := ⟨RX8, "platformFact", "(II)I"⟩
abbrev cX8_lineFact : ByteArray := prog_1_method_27_code
def yX8_lineFact : MethodName := ⟨RX8, "lineFact", "(II)I"⟩
abbrev cX8_riderFact : ByteArray := prog_1_method_28_code
def yX8_riderFact : MethodName := ⟨RX8, "riderFact", "(II)I"⟩
abbrev cX8_countFact : ByteArray := prog_1_method_29_code
def yX8_countFact : MethodName := ⟨RX8, "countFact", "(I)I"⟩
def RX9 : String := "ZipCanopyModel$State"
def TX9 : u_T := fun k => match k with
  | 0 => ("ZipCanopyModel$State", "minute", "I", false)
  | 1 => ("ZipCanopyModel$State", "trolleys", "[I", true)
  | 2 => ("ZipCanopyModel$State", "out", "[I", true)
  | 3 => ("ZipCanopyModel$State", "with", "[I", true)
  | 4 => ("ZipCanopyModel$State", "left", "[I", true)
  | 5 => ("ZipCanopyModel$State", "rides", "[I", true)
  | 6 => ("ZipCanopyModel$State", "stuck", "[I", true)
  | 7 => ("ZipCanopyModel$State", "size", "[I", true)
  | 8 => ("ZipCanopyModel$State", "queue", "[I", true)
  | 9 => ("ZipCanopyModel$State", "is", "[I", true)
  | 10 => ("ZipCanopyModel$State", "at", "[I", true)
  | 11 => ("ZipCanopyModel$State", "waited", "[I", true)
  | 12 => ("ZipCanopyModel$State", "taken", "[I", true)
  | 13 => ("ZipCanopyModel$State", "arrival", "[I", true)
  | _ => ("ZipCanopyModel$State", "this$0", "LZipCanopyModel;", true)
def tyX9 : Nat → FieldType := fun k => match k with
  | 0 => .int
  | 1 => .array .int
  | 2 => .array .int
  | 3 => .array .int
  | 4 => .array .int
  | 5 => .array .int
  | 6 => .array .int
  | 7 => .array .int
  | 8 => .array .int
  | 9 => .array .int
  | 10 => .array .int
  | 11 => .array .int
  | 12 => .array .int
  | 13 => .array .int
  | _ => .object "ZipCanopyModel"
abbrev wsX90 : List Cond := u_ws RX9 TX9 15
theorem nmX9 : ∀ a, a < 15 → ∀ b, b < 15 → a ≠ b → (TX9 a).2.1 ≠ (TX9 b).2.1 := by decide +kernel
theorem tyX9_ok : ∀ k, k < 15 → parseFieldDescriptor (TX9 k).2.2.1 = some (tyX9 k) := by decide +kernel
abbrev cX9_init : ByteArray := prog_12_method_1_code
def yX9_init : MethodName := ⟨RX9, "<init>", "(LZipCanopyModel;)V"⟩
abbrev cX9_copy : ByteArray := prog_12_method_2_code
def yX9_copy : MethodName := ⟨RX9, "copy", "([I[I)V"⟩
abbrev cX9_become : ByteArray := prog_12_method_3_code
def yX9_become : MethodName := ⟨RX9, "become", "(LZipCanopyModel$State;)V"⟩
abbrev cX9_many : ByteArray := prog_12_method_4_code
def yX9_many : MethodName := ⟨RX9, "many", "(I)I"⟩
abbrev cX9_come : ByteArray := prog_12_method_5_code
def yX9_come : MethodName := ⟨RX9, "come", "(II)V"⟩
abbrev cX9_strike : ByteArray := prog_12_method_6_code
def yX9_strike : MethodName := ⟨RX9, "strike", "(I)V"⟩
abbrev cX9_pass : ByteArray := prog_12_method_7_code
def yX9_pass : MethodName := ⟨RX9, "pass", "()I"⟩
abbrev cX9_roll : ByteArray := prog_12_method_8_code
def yX9_roll : MethodName := ⟨RX9, "roll", "(I)V"⟩
abbrev cX9_begin : ByteArray := prog_12_method_9_code
def yX9_begin : MethodName := ⟨RX9, "begin", "(I)V"⟩
abbrev cX9_leftOf : ByteArray := prog_12_method_10_code
def yX9_leftOf : MethodName := ⟨RX9, "leftOf", "(I)I"⟩
abbrev cX9_riding : ByteArray := prog_12_method_11_code
def yX9_riding : MethodName := ⟨RX9, "riding", "(I)I"⟩
def RX10 : String := "ZipCanopyModel"
def TX10 : u_T := fun k => match k with
  | 0 => ("ZipCanopyModel", "thrown", "I", false)
  | 1 => ("ZipCanopyModel", "platforms", "I", false)
  | 2 => ("ZipCanopyModel", "x", "[I", true)
  | 3 => ("ZipCanopyModel", "y", "[I", true)
  | 4 => ("ZipCanopyModel", "height", "[I", true)
  | 5 => ("ZipCanopyModel", "lines", "I", false)
  | 6 => ("ZipCanopyModel", "top", "[I", true)
  | 7 => ("ZipCanopyModel", "bottom", "[I", true)
  | 8 => ("ZipCanopyModel", "most", "[I", true)
  | 9 => ("ZipCanopyModel", "wind", "[I", true)
  | 10 => ("ZipCanopyModel", "riders", "I", false)
  | 11 => ("ZipCanopyModel", "weight", "[I", true)
  | 12 => ("ZipCanopyModel", "patience", "[I", true)
  | 13 => ("ZipCanopyModel", "goal", "[I", true)
  | 14 => ("ZipCanopyModel", "s", "LZipCanopyModel$State;", true)
  | _ => ("ZipCanopyModel", "ahead", "LZipCanopyModel$State;", true)
def tyX10 : Nat → FieldType := fun k => match k with
  | 0 => .int
  | 1 => .int
  | 2 => .array .int
  | 3 => .array .int
  | 4 => .array .int
  | 5 => .int
  | 6 => .array .int
  | 7 => .array .int
  | 8 => .array .int
  | 9 => .array .int
  | 10 => .int
  | 11 => .array .int
  | 12 => .array .int
  | 13 => .array .int
  | 14 => .object "ZipCanopyModel$State"
  | _ => .object "ZipCanopyModel$State"
abbrev wsX100 : List Cond := u_ws RX10 TX10 16
theorem nmX10 : ∀ a, a < 16 → ∀ b, b < 16 → a ≠ b → (TX10 a).2.1 ≠ (TX10 b).2.1 := by decide +kernel
theorem tyX10_ok : ∀ k, k < 16 → parseFieldDescriptor (TX10 k).2.2.1 = some (tyX10 k) := by decide +kernel
abbrev cX10_init : ByteArray := prog_11_method_1_code
def yX10_init : MethodName := ⟨RX10, "<init>", "()V"⟩
abbrev cX10_thrown : ByteArray := prog_11_method_2_code
def yX10_thrown : MethodName := ⟨RX10, "thrown", "()I"⟩
abbrev cX10_no : ByteArray := prog_11_method_3_code
def yX10_no : MethodName := ⟨RX10, "no", "(I)I"⟩
abbrev cX10_isIn : ByteArray := prog_11_method_4_code
def yX10_isIn : MethodName := ⟨RX10, "isIn", "(III)Z"⟩
abbrev cX10_isPlatform : ByteArray := prog_11_method_5_code
def yX10_isPlatform : MethodName := ⟨RX10, "isPlatform", "(I)Z"⟩
abbrev cX10_isLine : ByteArray := prog_11_method_6_code
def yX10_isLine : MethodName := ⟨RX10, "isLine", "(I)Z"⟩
abbrev cX10_lengthOf : ByteArray := prog_11_method_7_code
def yX10_lengthOf : MethodName := ⟨RX10, "lengthOf", "(I)I"⟩
abbrev cX10_dropOf : ByteArray := prog_11_method_8_code
def yX10_dropOf : MethodName := ⟨RX10, "dropOf", "(I)I"⟩
abbrev cX10_isClosed : ByteArray := prog_11_method_9_code
def yX10_isClosed : MethodName := ⟨RX10, "isClosed", "(II)Z"⟩
abbrev cX10_rideOf : ByteArray := prog_11_method_10_code
def yX10_rideOf : MethodName := ⟨RX10, "rideOf", "(II)I"⟩
abbrev cX10_fewest : ByteArray := prog_11_method_11_code
def yX10_fewest : MethodName := ⟨RX10, "fewest", "(III)I"⟩
abbrev cX10_first : ByteArray := prog_11_method_12_code
def yX10_first : MethodName := ⟨RX10, "first", "(III)I"⟩
abbrev cX10_build : ByteArray := prog_11_method_13_code
def yX10_build : MethodName := ⟨RX10, "build", "(III)I"⟩
abbrev cX10_span : ByteArray := prog_11_method_14_code
def yX10_span : MethodName := ⟨RX10, "span", "(IIII)I"⟩
abbrev cX10_add : ByteArray := prog_11_method_15_code
def yX10_add : MethodName := ⟨RX10, "add", "(I)I"⟩
abbrev cX10_setWind : ByteArray := prog_11_method_16_code
def yX10_setWind : MethodName := ⟨RX10, "setWind", "(II)I"⟩
abbrev cX10_platformTold : ByteArray := prog_11_method_17_code
def yX10_platformTold : MethodName := ⟨RX10, "platformTold", "(II)I"⟩
abbrev cX10_platform : ByteArray := prog_11_method_18_code
def yX10_platform : MethodName := ⟨RX10, "platform", "(II)I"⟩
abbrev cX10_lineTold : ByteArray := prog_11_method_19_code
def yX10_lineTold : MethodName := ⟨RX10, "lineTold", "(II)I"⟩
abbrev cX10_line : ByteArray := prog_11_method_20_code
def yX10_line : MethodName := ⟨RX10, "line", "(II)I"⟩
abbrev cX10_ride : ByteArray := prog_11_method_21_code
def yX10_ride : MethodName := ⟨RX10, "ride", "(II)I"⟩
abbrev cX10_come : ByteArray := prog_11_method_22_code
def yX10_come : MethodName := ⟨RX10, "come", "(IIII)I"⟩
abbrev cX10_riderTold : ByteArray := prog_11_method_23_code
def yX10_riderTold : MethodName := ⟨RX10, "riderTold", "(II)I"⟩
abbrev cX10_rider : ByteArray := prog_11_method_24_code
def yX10_rider : MethodName := ⟨RX10, "rider", "(II)I"⟩
abbrev cX10_queue : ByteArray := prog_11_method_25_code
def yX10_queue : MethodName := ⟨RX10, "queue", "(II)I"⟩
abbrev cX10_pass : ByteArray := prog_11_method_26_code
def yX10_pass : MethodName := ⟨RX10, "pass", "(I)I"⟩
abbrev cX10_counted : ByteArray := prog_11_method_27_code
def yX10_counted : MethodName := ⟨RX10, "counted", "(I)I"⟩
abbrev cX10_count : ByteArray := prog_11_method_28_code
def yX10_count : MethodName := ⟨RX10, "count", "(I)I"⟩
abbrev cX10_way : ByteArray := prog_11_method_29_code
def yX10_way : MethodName := ⟨RX10, "way", "(III)I"⟩
abbrev cX10_arrives : ByteArray := prog_11_method_30_code
def yX10_arrives : MethodName := ⟨RX10, "arrives", "(I)I"⟩
abbrev cX10_arrivedIn : ByteArray := prog_11_method_31_code
def yX10_arrivedIn : MethodName := ⟨RX10, "arrivedIn", "(I)I"⟩
abbrev cX10_advise : ByteArray := prog_11_method_32_code
def yX10_advise : MethodName := ⟨RX10, "advise", "(I)I"⟩
abbrev cX10_mean : ByteArray := prog_11_method_33_code
def yX10_mean : MethodName := ⟨RX10, "mean", "()D"⟩
abbrev cX10_digest : ByteArray := prog_11_method_34_code
def yX10_digest : MethodName := ⟨RX10, "digest", "()J"⟩
def RJ9 : String := "java/lang/Math"
def TJ9 : u_T := fun k => match k with
  | _ => ("", "", "", false)
def tyJ9 : Nat → FieldType := fun k => match k with
  | _ => .int
abbrev wsJ90 : List Cond := u_ws RJ9 TJ9 0
theorem nmJ9 : ∀ a, a < 0 → ∀ b, b < 0 → a ≠ b → (TJ9 a).2.1 ≠ (TJ9 b).2.1 := by decide +kernel
theorem tyJ9_ok : ∀ k, k < 0 → parseFieldDescriptor (TJ9 k).2.2.1 = some (tyJ9 k) := by decide +kernel
abbrev cJ9_floorMod_7cf53 : ByteArray := prog_17_method_50_code
def yJ9_floorMod_7cf53 : MethodName := ⟨RJ9, "floorMod", "(II)I"⟩
abbrev cJ9_abs_0f7a4 : ByteArray := prog_17_method_59_code
def yJ9_abs_0f7a4 : MethodName := ⟨RJ9, "abs", "(I)I"⟩
abbrev cJ9_max_7cf53 : ByteArray := prog_17_method_65_code
def yJ9_max_7cf53 : MethodName := ⟨RJ9, "max", "(II)I"⟩
def RJ0 : String := "java/lang/String"
def TJ0 : u_T := fun k => match k with
  | _ => ("", "", "", false)
def tyJ0 : Nat → FieldType := fun k => match k with
  | _ => .int
abbrev wsJ00 : List Cond := u_ws RJ0 TJ0 0
theorem nmJ0 : ∀ a, a < 0 → ∀ b, b < 0 → a ≠ b → (TJ0 a).2.1 ≠ (TJ0 b).2.1 := by decide +kernel
theorem tyJ0_ok : ∀ k, k < 0 → parseFieldDescriptor (TJ0 k).2.2.1 = some (tyJ0 k) := by decide +kernel
def RJ10 : String := "java/lang/System"
def TJ10 : u_T := fun k => match k with
  | _ => ("", "", "", false)
def tyJ10 : Nat → FieldType := fun k => match k with
  | _ => .int
abbrev wsJ100 : List Cond := u_ws RJ10 TJ10 0
theorem nmJ10 : ∀ a, a < 0 → ∀ b, b < 0 → a ≠ b → (TJ10 a).2.1 ≠ (TJ10 b).2.1 := by decide +kernel
theorem tyJ10_ok : ∀ k, k < 0 → parseFieldDescriptor (TJ10 k).2.2.1 = some (tyJ10 k) := by decide +kernel
def RL : String := "ZipCanopyLaw"
abbrev cL_build : ByteArray := method_3_code
def yL_build : MethodName := ⟨RL, "build", "(LZipCanopy;III[J)I"⟩
abbrev cL_span : ByteArray := method_4_code
def yL_span : MethodName := ⟨RL, "span", "(LZipCanopy;IIII[J)I"⟩
abbrev cL_add : ByteArray := method_5_code
def yL_add : MethodName := ⟨RL, "add", "(LZipCanopy;I[J)I"⟩
abbrev cL_setWind : ByteArray := method_6_code
def yL_setWind : MethodName := ⟨RL, "setWind", "(LZipCanopy;II[J)I"⟩
abbrev cL_platform : ByteArray := method_7_code
def yL_platform : MethodName := ⟨RL, "platform", "(LZipCanopy;II[J)I"⟩
abbrev cL_line : ByteArray := method_8_code
def yL_line : MethodName := ⟨RL, "line", "(LZipCanopy;II[J)I"⟩
abbrev cL_ride : ByteArray := method_9_code
def yL_ride : MethodName := ⟨RL, "ride", "(LZipCanopy;II[J)I"⟩
abbrev cL_come : ByteArray := method_10_code
def yL_come : MethodName := ⟨RL, "come", "(LZipCanopy;IIII[J)I"⟩
abbrev cL_rider : ByteArray := method_11_code
def yL_rider : MethodName := ⟨RL, "rider", "(LZipCanopy;II[J)I"⟩
abbrev cL_queue : ByteArray := method_12_code
def yL_queue : MethodName := ⟨RL, "queue", "(LZipCanopy;II[J)I"⟩
abbrev cL_pass : ByteArray := method_13_code
def yL_pass : MethodName := ⟨RL, "pass", "(LZipCanopy;I[J)I"⟩
abbrev cL_count : ByteArray := method_14_code
def yL_count : MethodName := ⟨RL, "count", "(LZipCanopy;I[J)I"⟩
abbrev cL_way : ByteArray := method_15_code
def yL_way : MethodName := ⟨RL, "way", "(LZipCanopy;III[J)I"⟩
abbrev cL_arrives : ByteArray := method_16_code
def yL_arrives : MethodName := ⟨RL, "arrives", "(LZipCanopy;I[J)I"⟩
abbrev cL_advise : ByteArray := method_17_code
def yL_advise : MethodName := ⟨RL, "advise", "(LZipCanopy;I[J)I"⟩
abbrev cL_law : ByteArray := code
def yL_law : MethodName := ⟨RL, "law", "([I)Z"⟩
abbrev vwCl : List vw_C := [(RX0, TX0, 7), (RX1, TX1, 5), (RX2, TX2, 3), (RX3, TX3, 4), (RX4, TX4, 2), (RX5, TX5, 6), (RX6, TX6, 6), (RX7, TX7, 6), (RX8, TX8, 4), (RX9, TX9, 15), (RX10, TX10, 16)]
end
section
def wsL_law0_r1 : List Cond := [Cond.classLink RL 8 RX8, Cond.instantiable RX8 4, Cond.initialized RX8, Cond.classLink RL 65 RX10, Cond.instantiable RX10 16, Cond.initialized RX10, Cond.arrayClass .long, Cond.methodLink RL 64 yX8_init, Cond.instanceMethod yX8_init, Cond.code yX8_init cX8_init 1 none, Cond.methodLink RX8 1 objectInit, Cond.instanceMethod objectInit, Cond.code objectInit ⟨#[0xb1]⟩ 1 none, Cond.classLink RX8 7 RX0, Cond.instantiable RX0 7, Cond.initialized RX0, Cond.fieldLink RX8 10 "ZipCanopy" "layout" "LZipCanopy$Layout;", Cond.classLink RX8 16 RX5, Cond.instantiable RX5 6, Cond.initialized RX5, Cond.fieldLink RX8 21 "ZipCanopy" "now" "LZipCanopy$Traffic;", Cond.fieldLink RX8 25 "ZipCanopy" "ahead" "LZipCanopy$Traffic;", Cond.classLink RX8 28 RX4, Cond.instantiable RX4 2]
def wsL_law0_r2 : List Cond := [Cond.initialized RX4, Cond.fieldLink RX8 31 "ZipCanopy" "asked" "LZipCanopy$Route;", Cond.methodLink RX8 9 yX0_init, Cond.instanceMethod yX0_init, Cond.code yX0_init cX0_init 2 none, Cond.methodLink RX0 3 objectInit, Cond.classLink RX0 9 RX2, Cond.fieldLink RX0 11 "ZipCanopy$Layout" "platforms" "[LZipCanopy$Platform;", Cond.classLink RX0 17 RX1, Cond.fieldLink RX0 19 "ZipCanopy$Layout" "lines" "[LZipCanopy$Line;", Cond.classLink RX0 23 RX3, Cond.fieldLink RX0 25 "ZipCanopy$Layout" "riders" "[LZipCanopy$Rider;", Cond.arrayClass .int, Cond.fieldLink RX0 29 "ZipCanopy$Layout" "winds" "[I", Cond.instantiable RX2 3, Cond.initialized RX2, Cond.instantiable RX1 5, Cond.initialized RX1, Cond.instantiable RX3 4, Cond.initialized RX3, Cond.instanceMethod yX2_init, Cond.code yX2_init cX2_init 1 none, Cond.methodLink RX2 1 objectInit, Cond.instanceMethod yX1_init]
def wsL_law0_r3 : List Cond := [Cond.code yX1_init cX1_init 1 none, Cond.methodLink RX1 1 objectInit, Cond.instanceMethod yX3_init, Cond.code yX3_init cX3_init 1 none, Cond.methodLink RX3 1 objectInit, Cond.classLink RX3 7 RX4, Cond.fieldLink RX3 10 "ZipCanopy$Rider" "route" "LZipCanopy$Route;", Cond.instanceMethod yX4_init, Cond.code yX4_init cX4_init 1 none, Cond.methodLink RX4 3 objectInit, Cond.fieldLink RX4 9 "ZipCanopy$Route" "lines" "[I", Cond.fieldLink RX4 15 "ZipCanopy$Route" "first" "[I", Cond.methodLink RX8 18 yX5_init, Cond.instanceMethod yX5_init, Cond.code yX5_init cX5_init 3 none, Cond.methodLink RX5 3 objectInit, Cond.classLink RX5 9 RX6, Cond.fieldLink RX5 11 "ZipCanopy$Traffic" "trips" "[LZipCanopy$Trip;", Cond.classLink RX5 17 RX7, Cond.fieldLink RX5 19 "ZipCanopy$Traffic" "trolleys" "[LZipCanopy$Trolleys;", Cond.fieldLink RX5 23 "ZipCanopy$Traffic" "waiting" "[I", Cond.fieldLink RX5 27 "ZipCanopy$Traffic" "layout" "LZipCanopy$Layout;", Cond.instantiable RX6 6, Cond.initialized RX6]
def wsL_law0_r4 : List Cond := [Cond.instantiable RX7 6, Cond.initialized RX7, Cond.methodLink RX5 31 yX6_init, Cond.instanceMethod yX6_init, Cond.code yX6_init cX6_init 1 none, Cond.methodLink RX6 3 objectInit, Cond.fieldLink RX6 9 "ZipCanopy$Trip" "arrival" "I", Cond.instanceMethod yX7_init, Cond.code yX7_init cX7_init 1 none, Cond.methodLink RX7 3 objectInit, Cond.fieldLink RX7 9 "ZipCanopy$Trolleys" "riders" "[I", Cond.fieldLink RX7 15 "ZipCanopy$Trolleys" "minutesLeft" "[I", Cond.methodLink RL 67 yX10_init, Cond.instanceMethod yX10_init, Cond.code yX10_init cX10_init 1 none, Cond.methodLink RX10 1 objectInit, Cond.fieldLink RX10 9 "ZipCanopyModel" "x" "[I", Cond.fieldLink RX10 13 "ZipCanopyModel" "y" "[I", Cond.fieldLink RX10 16 "ZipCanopyModel" "height" "[I", Cond.fieldLink RX10 19 "ZipCanopyModel" "top" "[I", Cond.fieldLink RX10 22 "ZipCanopyModel" "bottom" "[I", Cond.fieldLink RX10 25 "ZipCanopyModel" "most" "[I", Cond.fieldLink RX10 28 "ZipCanopyModel" "wind" "[I", Cond.fieldLink RX10 31 "ZipCanopyModel" "weight" "[I"]
def wsL_law0_r5 : List Cond := [Cond.fieldLink RX10 34 "ZipCanopyModel" "patience" "[I", Cond.fieldLink RX10 37 "ZipCanopyModel" "goal" "[I", Cond.classLink RX10 40 RX9, Cond.instantiable RX9 15, Cond.initialized RX9, Cond.fieldLink RX10 45 "ZipCanopyModel" "s" "LZipCanopyModel$State;", Cond.fieldLink RX10 49 "ZipCanopyModel" "ahead" "LZipCanopyModel$State;", Cond.instanceMethod yX9_init, Cond.code yX9_init cX9_init 2 none, Cond.fieldLink RX9 3 "ZipCanopyModel$State" "this$0" "LZipCanopyModel;", Cond.methodLink RX9 9 objectInit, Cond.fieldLink RX9 15 "ZipCanopyModel$State" "trolleys" "[I", Cond.fieldLink RX9 19 "ZipCanopyModel$State" "out" "[I", Cond.fieldLink RX9 22 "ZipCanopyModel$State" "with" "[I", Cond.fieldLink RX9 25 "ZipCanopyModel$State" "left" "[I", Cond.fieldLink RX9 28 "ZipCanopyModel$State" "rides" "[I", Cond.fieldLink RX9 31 "ZipCanopyModel$State" "stuck" "[I", Cond.fieldLink RX9 34 "ZipCanopyModel$State" "size" "[I", Cond.fieldLink RX9 37 "ZipCanopyModel$State" "queue" "[I", Cond.fieldLink RX9 40 "ZipCanopyModel$State" "is" "[I", Cond.fieldLink RX9 43 "ZipCanopyModel$State" "at" "[I", Cond.fieldLink RX9 46 "ZipCanopyModel$State" "waited" "[I", Cond.fieldLink RX9 49 "ZipCanopyModel$State" "taken" "[I", Cond.fieldLink RX9 52 "ZipCanopyModel$State" "arrival" "[I"]
def wsL_law0_r6 : List Cond := [Cond.methodLink RL 68 yL_build, Cond.static yL_build, Cond.initialized RL, Cond.codeWith yL_build cL_build 6 (some .int) [(0, 12, 15, 13), (0, 12, 19, 15)], Cond.classLink RL 13 "java/lang/IllegalArgumentException", Cond.classLink RL 15 "java/lang/IllegalStateException", Cond.methodLink RL 7 yX8_build, Cond.instanceMethod yX8_build, Cond.selects RX8 yX8_build yX8_build, Cond.code yX8_build cX8_build 4 (some .int), Cond.classLink RX8 39 "java/lang/IllegalArgumentException", Cond.initialized "java/lang/IllegalArgumentException", Cond.classLink RX8 54 "java/lang/IllegalStateException", Cond.initialized "java/lang/IllegalStateException", Cond.fieldLink RX8 50 "ZipCanopy$Layout" "platformCount" "I", Cond.methodLink RX8 35 yX8_within, Cond.static yX8_within, Cond.code yX8_within cX8_within 3 (some .boolean), Cond.methodLink RX8 46 yX0_hasPlatformAt, Cond.instanceMethod yX0_hasPlatformAt, Cond.selects RX0 yX0_hasPlatformAt yX0_hasPlatformAt, Cond.code yX0_hasPlatformAt cX0_hasPlatformAt 4 (some .boolean), Cond.fieldLink RX0 36 "ZipCanopy$Layout" "platformCount" "I", Cond.fieldLink RX0 40 "ZipCanopy$Platform" "x" "I"]
def wsL_law0_r7 : List Cond := [Cond.fieldLink RX0 43 "ZipCanopy$Platform" "y" "I", Cond.methodLink RX8 59 yX0_addPlatform, Cond.instanceMethod yX0_addPlatform, Cond.selects RX0 yX0_addPlatform yX0_addPlatform, Cond.code yX0_addPlatform cX0_addPlatform 5 (some .int), Cond.fieldLink RX0 46 "ZipCanopy$Platform" "height" "I", Cond.methodLink RL 73 yX10_build, Cond.instanceMethod yX10_build, Cond.selects RX10 yX10_build yX10_build, Cond.code yX10_build cX10_build 6 (some .int), Cond.fieldLink RX10 52 "ZipCanopyModel" "thrown" "I", Cond.fieldLink RX10 56 "ZipCanopyModel" "platforms" "I", Cond.methodLink RX10 59 yX10_isIn, Cond.static yX10_isIn, Cond.code yX10_isIn cX10_isIn 3 (some .boolean), Cond.methodLink RX10 82 yX10_no, Cond.instanceMethod yX10_no, Cond.selects RX10 yX10_no yX10_no, Cond.code yX10_no cX10_no 2 (some .int), Cond.methodLink RL 74 yX10_thrown, Cond.instanceMethod yX10_thrown, Cond.selects RX10 yX10_thrown yX10_thrown, Cond.code yX10_thrown cX10_thrown 1 (some .int), Cond.methodLink RL 78 yL_span]
def wsL_law0_r8 : List Cond := [Cond.static yL_span, Cond.codeWith yL_span cL_span 7 (some .int) [(0, 14, 17, 21), (0, 14, 21, 13), (0, 14, 25, 15)], Cond.classLink RL 21 "java/lang/IndexOutOfBoundsException", Cond.methodLink RL 17 yX8_span, Cond.instanceMethod yX8_span, Cond.selects RX8 yX8_span yX8_span, Cond.code yX8_span cX8_span 6 (some .int), Cond.classLink RX8 67 "java/lang/IndexOutOfBoundsException", Cond.initialized "java/lang/IndexOutOfBoundsException", Cond.fieldLink RX8 77 "ZipCanopy$Layout" "lineCount" "I", Cond.methodLink RX8 63 yX8_isPlatform, Cond.instanceMethod yX8_isPlatform, Cond.selects RX8 yX8_isPlatform yX8_isPlatform, Cond.code yX8_isPlatform cX8_isPlatform 2 (some .boolean), Cond.methodLink RX8 72 yX0_isLower, Cond.instanceMethod yX0_isLower, Cond.selects RX0 yX0_isLower yX0_isLower, Cond.code yX0_isLower cX0_isLower 3 (some .boolean), Cond.methodLink RX8 82 yX0_addLine, Cond.instanceMethod yX0_addLine, Cond.selects RX0 yX0_addLine yX0_addLine, Cond.code yX0_addLine cX0_addLine 7 (some .int), Cond.fieldLink RX0 49 "ZipCanopy$Layout" "lineCount" "I", Cond.fieldLink RX0 52 "ZipCanopy$Line" "top" "I"]
def wsL_law0_r9 : List Cond := [Cond.fieldLink RX0 55 "ZipCanopy$Line" "bottom" "I", Cond.fieldLink RX0 58 "ZipCanopy$Line" "most" "I", Cond.fieldLink RX0 65 "ZipCanopy$Line" "length" "I", Cond.fieldLink RX0 68 "ZipCanopy$Line" "drop" "I", Cond.fieldLink RX0 71 "ZipCanopy$Layout" "riderCount" "I", Cond.methodLink RX0 61 yX2_distanceTo, Cond.instanceMethod yX2_distanceTo, Cond.selects RX2 yX2_distanceTo yX2_distanceTo, Cond.code yX2_distanceTo cX2_distanceTo 2 (some .int), Cond.fieldLink RX2 7 "ZipCanopy$Platform" "x" "I", Cond.methodLink RX2 13 Lib.Math.abs.name, Cond.static Lib.Math.abs.name, Cond.initialized "java/lang/Math", Cond.code Lib.Math.abs.name Lib.Math.abs.code 1 (some .int), Cond.fieldLink RX2 19 "ZipCanopy$Platform" "y" "I", Cond.methodLink RX0 74 yX3_planRoute, Cond.instanceMethod yX3_planRoute, Cond.selects RX3 yX3_planRoute yX3_planRoute, Cond.code yX3_planRoute cX3_planRoute 2 none, Cond.fieldLink RX3 16 "ZipCanopy$Rider" "goal" "I", Cond.fieldLink RX3 20 "ZipCanopy$Rider" "weight" "I", Cond.methodLink RX3 23 yX4_plan, Cond.instanceMethod yX4_plan, Cond.selects RX4 yX4_plan yX4_plan]
def wsL_law0_r10 : List Cond := [Cond.code yX4_plan cX4_plan 6 none, Cond.fieldLink RX4 18 "ZipCanopy$Layout" "platformCount" "I", Cond.fieldLink RX4 24 "ZipCanopy$Layout" "lineCount" "I", Cond.fieldLink RX4 27 "ZipCanopy$Layout" "lines" "[LZipCanopy$Line;", Cond.methodLink RX4 30 yX4_extend, Cond.instanceMethod yX4_extend, Cond.selects RX4 yX4_extend yX4_extend, Cond.code yX4_extend cX4_extend 6 none, Cond.fieldLink RX4 34 "ZipCanopy$Line" "top" "I", Cond.fieldLink RX4 47 "ZipCanopy$Line" "bottom" "I", Cond.methodLink RX4 43 yX1_carries, Cond.instanceMethod yX1_carries, Cond.selects RX1 yX1_carries yX1_carries, Cond.code yX1_carries cX1_carries 2 (some .boolean), Cond.fieldLink RX1 7 "ZipCanopy$Line" "most" "I", Cond.methodLink RX4 50 yX4_linesFrom, Cond.instanceMethod yX4_linesFrom, Cond.selects RX4 yX4_linesFrom yX4_linesFrom, Cond.code yX4_linesFrom cX4_linesFrom 2 (some .int), Cond.methodLink RX8 85 yX5_addTrolleys, Cond.instanceMethod yX5_addTrolleys, Cond.selects RX5 yX5_addTrolleys yX5_addTrolleys, Cond.code yX5_addTrolleys cX5_addTrolleys 3 none, Cond.fieldLink RX5 55 "ZipCanopy$Trolleys" "atTop" "I"]
def wsL_law0_r11 : List Cond := [Cond.methodLink RL 81 yX10_span, Cond.instanceMethod yX10_span, Cond.selects RX10 yX10_span yX10_span, Cond.code yX10_span cX10_span 5 (some .int), Cond.fieldLink RX10 63 "ZipCanopyModel" "lines" "I", Cond.methodLink RX10 85 yX10_isPlatform, Cond.instanceMethod yX10_isPlatform, Cond.selects RX10 yX10_isPlatform yX10_isPlatform, Cond.code yX10_isPlatform cX10_isPlatform 2 (some .boolean), Cond.methodLink RL 82 yL_add, Cond.static yL_add, Cond.codeWith yL_add cL_add 4 (some .int) [(0, 9, 12, 21), (0, 9, 15, 15)], Cond.methodLink RL 23 yX8_add, Cond.instanceMethod yX8_add, Cond.selects RX8 yX8_add yX8_add, Cond.code yX8_add cX8_add 2 (some .int), Cond.fieldLink RX8 94 "ZipCanopy$Traffic" "trolleys" "[LZipCanopy$Trolleys;", Cond.methodLink RX8 89 yX8_isLine, Cond.instanceMethod yX8_isLine, Cond.selects RX8 yX8_isLine yX8_isLine, Cond.code yX8_isLine cX8_isLine 2 (some .boolean), Cond.methodLink RX8 98 yX7_inAll, Cond.instanceMethod yX7_inAll, Cond.selects RX7 yX7_inAll yX7_inAll]
def wsL_law0_r12 : List Cond := [Cond.code yX7_inAll cX7_inAll 1 (some .int), Cond.fieldLink RX7 18 "ZipCanopy$Trolleys" "atTop" "I", Cond.fieldLink RX7 22 "ZipCanopy$Trolleys" "away" "I", Cond.methodLink RL 85 yX10_add, Cond.instanceMethod yX10_add, Cond.selects RX10 yX10_add yX10_add, Cond.code yX10_add cX10_add 2 (some .int), Cond.methodLink RX10 92 yX10_isLine, Cond.instanceMethod yX10_isLine, Cond.selects RX10 yX10_isLine yX10_isLine, Cond.code yX10_isLine cX10_isLine 2 (some .boolean), Cond.methodLink RL 86 yL_setWind, Cond.static yL_setWind, Cond.codeWith yL_setWind cL_setWind 5 (some .int) [(0, 10, 13, 21), (0, 10, 17, 13)], Cond.methodLink RL 27 yX8_setWind, Cond.instanceMethod yX8_setWind, Cond.selects RX8 yX8_setWind yX8_setWind, Cond.code yX8_setWind cX8_setWind 4 (some .int), Cond.fieldLink RX8 110 "ZipCanopy$Layout" "winds" "[I", Cond.methodLink RL 89 yX10_setWind, Cond.instanceMethod yX10_setWind, Cond.selects RX10 yX10_setWind yX10_setWind, Cond.code yX10_setWind cX10_setWind 4 (some .int), Cond.methodLink RL 90 yL_platform]
def wsL_law0_r13 : List Cond := [Cond.static yL_platform, Cond.codeWith yL_platform cL_platform 5 (some .int) [(0, 10, 13, 21)], Cond.methodLink RL 31 yX8_platform, Cond.instanceMethod yX8_platform, Cond.selects RX8 yX8_platform yX8_platform, Cond.code yX8_platform cX8_platform 3 (some .int), Cond.methodLink RX8 116 yX8_platformFact, Cond.instanceMethod yX8_platformFact, Cond.selects RX8 yX8_platformFact yX8_platformFact, Cond.code yX8_platformFact cX8_platformFact 4 (some .int), Cond.fieldLink RX8 232 "ZipCanopy$Layout" "platforms" "[LZipCanopy$Platform;", Cond.fieldLink RX8 236 "ZipCanopy$Platform" "x" "I", Cond.fieldLink RX8 241 "ZipCanopy$Platform" "y" "I", Cond.fieldLink RX8 244 "ZipCanopy$Platform" "height" "I", Cond.methodLink RX8 169 yX5_queueLength, Cond.instanceMethod yX5_queueLength, Cond.selects RX5 yX5_queueLength yX5_queueLength, Cond.code yX5_queueLength cX5_queueLength 4 (some .int), Cond.fieldLink RX5 49 "ZipCanopy$Traffic" "waitingCount" "I", Cond.fieldLink RX5 162 "ZipCanopy$Trip" "platform" "I", Cond.methodLink RX8 174 yX5_inQueue, Cond.instanceMethod yX5_inQueue, Cond.selects RX5 yX5_inQueue yX5_inQueue, Cond.code yX5_inQueue cX5_inQueue 5 (some .int)]
def wsL_law0_r14 : List Cond := [Cond.methodLink RX8 247 yX0_linesWithTop, Cond.instanceMethod yX0_linesWithTop, Cond.selects RX0 yX0_linesWithTop yX0_linesWithTop, Cond.code yX0_linesWithTop cX0_linesWithTop 4 (some .int), Cond.methodLink RX8 250 yX0_linesWithBottom, Cond.instanceMethod yX0_linesWithBottom, Cond.selects RX0 yX0_linesWithBottom yX0_linesWithBottom, Cond.code yX0_linesWithBottom cX0_linesWithBottom 4 (some .int), Cond.methodLink RX8 253 yX5_arrivedAt, Cond.instanceMethod yX5_arrivedAt, Cond.selects RX5 yX5_arrivedAt yX5_arrivedAt, Cond.code yX5_arrivedAt cX5_arrivedAt 4 (some .int), Cond.fieldLink RX5 33 "ZipCanopy$Layout" "riderCount" "I", Cond.fieldLink RX5 183 "ZipCanopy$Trip" "state" "I", Cond.methodLink RL 92 yX10_platform, Cond.instanceMethod yX10_platform, Cond.selects RX10 yX10_platform yX10_platform, Cond.code yX10_platform cX10_platform 3 (some .int), Cond.methodLink RX10 107 yX10_platformTold, Cond.instanceMethod yX10_platformTold, Cond.selects RX10 yX10_platformTold yX10_platformTold, Cond.code yX10_platformTold cX10_platformTold 7 (some .int), Cond.fieldLink RX10 95 "ZipCanopyModel" "riders" "I", Cond.methodLink RL 93 yL_line]
def wsL_law0_r15 : List Cond := [Cond.static yL_line, Cond.codeWith yL_line cL_line 5 (some .int) [(0, 10, 13, 21)], Cond.methodLink RL 34 yX8_line, Cond.instanceMethod yX8_line, Cond.selects RX8 yX8_line yX8_line, Cond.code yX8_line cX8_line 3 (some .int), Cond.methodLink RX8 122 yX8_lineFact, Cond.instanceMethod yX8_lineFact, Cond.selects RX8 yX8_lineFact yX8_lineFact, Cond.code yX8_lineFact cX8_lineFact 5 (some .int), Cond.fieldLink RX8 130 "ZipCanopy$Layout" "lines" "[LZipCanopy$Line;", Cond.fieldLink RX8 256 "ZipCanopy$Line" "top" "I", Cond.fieldLink RX8 259 "ZipCanopy$Line" "bottom" "I", Cond.fieldLink RX8 262 "ZipCanopy$Line" "most" "I", Cond.fieldLink RX8 265 "ZipCanopy$Line" "length" "I", Cond.fieldLink RX8 268 "ZipCanopy$Line" "drop" "I", Cond.fieldLink RX8 271 "ZipCanopy$Trolleys" "atTop" "I", Cond.fieldLink RX8 277 "ZipCanopy$Trolleys" "rides" "I", Cond.fieldLink RX8 280 "ZipCanopy$Trolleys" "stuck" "I", Cond.fieldLink RX8 283 "ZipCanopy$Traffic" "minute" "I", Cond.methodLink RX8 274 yX7_ridden, Cond.instanceMethod yX7_ridden, Cond.selects RX7 yX7_ridden yX7_ridden, Cond.code yX7_ridden cX7_ridden 3 (some .int)]
def wsL_law0_r16 : List Cond := [Cond.methodLink RX8 286 yX0_isClosed, Cond.instanceMethod yX0_isClosed, Cond.selects RX0 yX0_isClosed yX0_isClosed, Cond.code yX0_isClosed cX0_isClosed 4 (some .boolean), Cond.methodLink RX0 87 yJ9_floorMod_7cf53, Cond.static yJ9_floorMod_7cf53, Cond.initialized RJ9, Cond.code yJ9_floorMod_7cf53 cJ9_floorMod_7cf53 3 (some .int), Cond.methodLink RL 95 yX10_line, Cond.instanceMethod yX10_line, Cond.selects RX10 yX10_line yX10_line, Cond.code yX10_line cX10_line 3 (some .int), Cond.methodLink RX10 130 yX10_lineTold, Cond.instanceMethod yX10_lineTold, Cond.selects RX10 yX10_lineTold yX10_lineTold, Cond.code yX10_lineTold cX10_lineTold 4 (some .int), Cond.methodLink RX10 72 yX10_lengthOf, Cond.instanceMethod yX10_lengthOf, Cond.selects RX10 yX10_lengthOf yX10_lengthOf, Cond.code yX10_lengthOf cX10_lengthOf 2 (some .int), Cond.methodLink RX10 66 Lib.Math.abs.name, Cond.methodLink RX10 75 yX10_dropOf, Cond.instanceMethod yX10_dropOf, Cond.selects RX10 yX10_dropOf yX10_dropOf]
def wsL_law0_r17 : List Cond := [Cond.code yX10_dropOf cX10_dropOf 2 (some .int), Cond.methodLink RX10 114 yX9_riding, Cond.instanceMethod yX9_riding, Cond.selects RX9 yX9_riding yX9_riding, Cond.code yX9_riding cX9_riding 4 (some .int), Cond.methodLink RX10 126 yX10_isClosed, Cond.instanceMethod yX10_isClosed, Cond.selects RX10 yX10_isClosed yX10_isClosed, Cond.code yX10_isClosed cX10_isClosed 3 (some .boolean), Cond.methodLink RL 96 yL_ride, Cond.static yL_ride, Cond.codeWith yL_ride cL_ride 5 (some .int) [(0, 10, 13, 21), (0, 10, 17, 13)], Cond.methodLink RL 37 yX8_ride, Cond.instanceMethod yX8_ride, Cond.selects RX8 yX8_ride yX8_ride, Cond.code yX8_ride cX8_ride 4 (some .int), Cond.methodLink RX8 125 yX8_isWeight, Cond.static yX8_isWeight, Cond.code yX8_isWeight cX8_isWeight 1 (some .boolean), Cond.methodLink RX8 134 yX1_carries, Cond.methodLink RX8 139 yX1_getsStuck, Cond.instanceMethod yX1_getsStuck, Cond.selects RX1 yX1_getsStuck yX1_getsStuck, Cond.code yX1_getsStuck cX1_getsStuck 2 (some .boolean)]
def wsL_law0_r18 : List Cond := [Cond.fieldLink RX1 13 "ZipCanopy$Line" "drop" "I", Cond.fieldLink RX1 16 "ZipCanopy$Line" "length" "I", Cond.methodLink RX8 142 yX1_rideMinutes, Cond.instanceMethod yX1_rideMinutes, Cond.selects RX1 yX1_rideMinutes yX1_rideMinutes, Cond.code yX1_rideMinutes cX1_rideMinutes 4 (some .int), Cond.methodLink RX1 19 yX1_getsStuck, Cond.methodLink RL 98 yX10_ride, Cond.instanceMethod yX10_ride, Cond.selects RX10 yX10_ride yX10_ride, Cond.code yX10_ride cX10_ride 3 (some .int), Cond.methodLink RX10 133 yX10_rideOf, Cond.instanceMethod yX10_rideOf, Cond.selects RX10 yX10_rideOf yX10_rideOf, Cond.code yX10_rideOf cX10_rideOf 5 (some .int), Cond.methodLink RL 99 yL_come, Cond.static yL_come, Cond.codeWith yL_come cL_come 7 (some .int) [(0, 14, 17, 21), (0, 14, 21, 13), (0, 14, 25, 15)], Cond.methodLink RL 40 yX8_come, Cond.instanceMethod yX8_come, Cond.selects RX8 yX8_come yX8_come, Cond.code yX8_come cX8_come 6 (some .int), Cond.fieldLink RX8 150 "ZipCanopy$Layout" "riderCount" "I", Cond.methodLink RX8 155 yX0_addRider]
def wsL_law0_r19 : List Cond := [Cond.instanceMethod yX0_addRider, Cond.selects RX0 yX0_addRider yX0_addRider, Cond.code yX0_addRider cX0_addRider 6 (some .int), Cond.fieldLink RX0 78 "ZipCanopy$Rider" "goal" "I", Cond.fieldLink RX0 81 "ZipCanopy$Rider" "weight" "I", Cond.fieldLink RX0 84 "ZipCanopy$Rider" "patience" "I", Cond.methodLink RX8 158 yX5_reach, Cond.instanceMethod yX5_reach, Cond.selects RX5 yX5_reach yX5_reach, Cond.code yX5_reach cX5_reach 3 none, Cond.fieldLink RX5 58 "ZipCanopy$Layout" "riders" "[LZipCanopy$Rider;", Cond.fieldLink RX5 62 "ZipCanopy$Rider" "goal" "I", Cond.fieldLink RX5 52 "ZipCanopy$Traffic" "minute" "I", Cond.methodLink RX5 67 yX6_arrive, Cond.instanceMethod yX6_arrive, Cond.selects RX6 yX6_arrive yX6_arrive, Cond.code yX6_arrive cX6_arrive 3 none, Cond.fieldLink RX6 15 "ZipCanopy$Trip" "state" "I", Cond.fieldLink RX6 18 "ZipCanopy$Trip" "platform" "I", Cond.fieldLink RX6 21 "ZipCanopy$Trip" "line" "I", Cond.fieldLink RX6 24 "ZipCanopy$Trip" "minutes" "I", Cond.methodLink RX5 71 yX6_beginWait, Cond.instanceMethod yX6_beginWait, Cond.selects RX6 yX6_beginWait yX6_beginWait]
def wsL_law0_r20 : List Cond := [Cond.code yX6_beginWait cX6_beginWait 2 none, Cond.methodLink RL 101 yX10_come, Cond.instanceMethod yX10_come, Cond.selects RX10 yX10_come yX10_come, Cond.code yX10_come cX10_come 5 (some .int), Cond.methodLink RX10 139 yX9_come, Cond.instanceMethod yX9_come, Cond.selects RX9 yX9_come yX9_come, Cond.code yX9_come cX9_come 3 none, Cond.fieldLink RX9 61 "ZipCanopyModel$State" "minute" "I", Cond.methodLink RL 102 yL_rider, Cond.static yL_rider, Cond.codeWith yL_rider cL_rider 5 (some .int) [(0, 10, 13, 21)], Cond.methodLink RL 43 yX8_rider, Cond.instanceMethod yX8_rider, Cond.selects RX8 yX8_rider yX8_rider, Cond.code yX8_rider cX8_rider 3 (some .int), Cond.methodLink RX8 161 yX8_isRider, Cond.instanceMethod yX8_isRider, Cond.selects RX8 yX8_isRider yX8_isRider, Cond.code yX8_isRider cX8_isRider 2 (some .boolean), Cond.methodLink RX8 166 yX8_riderFact, Cond.instanceMethod yX8_riderFact, Cond.selects RX8 yX8_riderFact yX8_riderFact]
def wsL_law0_r21 : List Cond := [Cond.code yX8_riderFact cX8_riderFact 5 (some .int), Cond.fieldLink RX8 290 "ZipCanopy$Layout" "riders" "[LZipCanopy$Rider;", Cond.fieldLink RX8 200 "ZipCanopy$Traffic" "trips" "[LZipCanopy$Trip;", Cond.fieldLink RX8 294 "ZipCanopy$Rider" "weight" "I", Cond.fieldLink RX8 299 "ZipCanopy$Rider" "patience" "I", Cond.fieldLink RX8 302 "ZipCanopy$Rider" "goal" "I", Cond.fieldLink RX8 221 "ZipCanopy$Trip" "state" "I", Cond.fieldLink RX8 305 "ZipCanopy$Trip" "platform" "I", Cond.fieldLink RX8 308 "ZipCanopy$Trip" "line" "I", Cond.fieldLink RX8 311 "ZipCanopy$Trip" "minutes" "I", Cond.fieldLink RX8 314 "ZipCanopy$Rider" "route" "LZipCanopy$Route;", Cond.methodLink RX8 317 Lib.Math.max.name, Cond.static Lib.Math.max.name, Cond.code Lib.Math.max.name Lib.Math.max.code 2 (some .int), Cond.fieldLink RX8 325 "ZipCanopy$Trip" "taken" "I", Cond.fieldLink RX8 213 "ZipCanopy$Trip" "arrival" "I", Cond.methodLink RX8 191 yX4_linesFrom, Cond.methodLink RX8 322 yX4_firstFrom, Cond.instanceMethod yX4_firstFrom, Cond.selects RX4 yX4_firstFrom yX4_firstFrom, Cond.code yX4_firstFrom cX4_firstFrom 2 (some .int), Cond.methodLink RL 104 yX10_rider, Cond.instanceMethod yX10_rider, Cond.selects RX10 yX10_rider yX10_rider]
def wsL_law0_r22 : List Cond := [Cond.code yX10_rider cX10_rider 3 (some .int), Cond.methodLink RX10 161 yX10_riderTold, Cond.instanceMethod yX10_riderTold, Cond.selects RX10 yX10_riderTold yX10_riderTold, Cond.code yX10_riderTold cX10_riderTold 4 (some .int), Cond.methodLink RX10 152 Lib.Math.max.name, Cond.methodLink RX10 149 yX9_leftOf, Cond.instanceMethod yX9_leftOf, Cond.selects RX9 yX9_leftOf yX9_leftOf, Cond.code yX9_leftOf cX9_leftOf 3 (some .int), Cond.methodLink RX10 78 yX10_fewest, Cond.instanceMethod yX10_fewest, Cond.selects RX10 yX10_fewest yX10_fewest, Cond.code yX10_fewest cX10_fewest 7 (some .int), Cond.methodLink RX10 155 yX10_first, Cond.instanceMethod yX10_first, Cond.selects RX10 yX10_first yX10_first, Cond.code yX10_first cX10_first 6 (some .int), Cond.methodLink RL 105 yL_queue, Cond.static yL_queue, Cond.codeWith yL_queue cL_queue 5 (some .int) [(0, 10, 13, 21)], Cond.methodLink RL 46 yX8_queue, Cond.instanceMethod yX8_queue, Cond.selects RX8 yX8_queue yX8_queue]
def wsL_law0_r23 : List Cond := [Cond.code yX8_queue cX8_queue 3 (some .int), Cond.methodLink RL 107 yX10_queue, Cond.instanceMethod yX10_queue, Cond.selects RX10 yX10_queue yX10_queue, Cond.code yX10_queue cX10_queue 3 (some .int), Cond.methodLink RL 108 yL_pass, Cond.static yL_pass, Cond.codeWith yL_pass cL_pass 4 (some .int) [(0, 9, 12, 13)], Cond.methodLink RL 49 yX8_pass, Cond.instanceMethod yX8_pass, Cond.selects RX8 yX8_pass yX8_pass, Cond.code yX8_pass cX8_pass 2 (some .int), Cond.methodLink RX8 179 yX5_goOn, Cond.instanceMethod yX5_goOn, Cond.selects RX5 yX5_goOn yX5_goOn, Cond.code yX5_goOn cX5_goOn 4 (some .int), Cond.methodLink RX5 75 yX5_ridersIn, Cond.instanceMethod yX5_ridersIn, Cond.selects RX5 yX5_ridersIn yX5_ridersIn, Cond.code yX5_ridersIn cX5_ridersIn 4 (some .int), Cond.methodLink RX5 79 yX5_passMinute, Cond.instanceMethod yX5_passMinute, Cond.selects RX5 yX5_passMinute yX5_passMinute, Cond.code yX5_passMinute cX5_passMinute 2 none]
def wsL_law0_r24 : List Cond := [Cond.fieldLink RX5 43 "ZipCanopy$Layout" "lineCount" "I", Cond.fieldLink RX5 82 "ZipCanopy$Layout" "lines" "[LZipCanopy$Line;", Cond.methodLink RX5 86 yX5_moveTrolleys, Cond.instanceMethod yX5_moveTrolleys, Cond.selects RX5 yX5_moveTrolleys yX5_moveTrolleys, Cond.code yX5_moveTrolleys cX5_moveTrolleys 5 none, Cond.fieldLink RX5 101 "ZipCanopy$Trolleys" "away" "I", Cond.fieldLink RX5 104 "ZipCanopy$Trolleys" "minutesLeft" "[I", Cond.fieldLink RX5 107 "ZipCanopy$Trolleys" "riders" "[I", Cond.fieldLink RX5 109 "ZipCanopy$Trip" "minutes" "I", Cond.fieldLink RX5 121 "ZipCanopy$Line" "bottom" "I", Cond.methodLink RX5 112 yX1_pullMinutes, Cond.instanceMethod yX1_pullMinutes, Cond.selects RX1 yX1_pullMinutes yX1_pullMinutes, Cond.code yX1_pullMinutes cX1_pullMinutes 1 (some .int), Cond.methodLink RX5 118 yX7_beginPull, Cond.instanceMethod yX7_beginPull, Cond.selects RX7 yX7_beginPull yX7_beginPull, Cond.code yX7_beginPull cX7_beginPull 3 none, Cond.methodLink RX5 124 yX5_reach, Cond.methodLink RX5 127 yX7_dropPulled, Cond.instanceMethod yX7_dropPulled, Cond.selects RX7 yX7_dropPulled yX7_dropPulled, Cond.code yX7_dropPulled cX7_dropPulled 3 none]
def wsL_law0_r25 : List Cond := [Cond.methodLink RX5 90 yX0_isClosed, Cond.methodLink RX5 94 yX5_beginRide, Cond.instanceMethod yX5_beginRide, Cond.selects RX5 yX5_beginRide yX5_beginRide, Cond.code yX5_beginRide cX5_beginRide 7 none, Cond.fieldLink RX5 137 "ZipCanopy$Rider" "weight" "I", Cond.fieldLink RX5 151 "ZipCanopy$Trolleys" "stuck" "I", Cond.methodLink RX5 130 yX5_firstWaitingFor, Cond.instanceMethod yX5_firstWaitingFor, Cond.selects RX5 yX5_firstWaitingFor yX5_firstWaitingFor, Cond.code yX5_firstWaitingFor cX5_firstWaitingFor 4 (some .int), Cond.fieldLink RX5 158 "ZipCanopy$Rider" "route" "LZipCanopy$Route;", Cond.methodLink RX5 165 yX4_firstFrom, Cond.methodLink RX5 133 yX7_canLeaveTop, Cond.instanceMethod yX7_canLeaveTop, Cond.selects RX7 yX7_canLeaveTop yX7_canLeaveTop, Cond.code yX7_canLeaveTop cX7_canLeaveTop 1 (some .boolean), Cond.methodLink RX5 140 yX1_rideMinutes, Cond.methodLink RX5 143 yX5_leaveWaiting, Cond.instanceMethod yX5_leaveWaiting, Cond.selects RX5 yX5_leaveWaiting yX5_leaveWaiting, Cond.code yX5_leaveWaiting cX5_leaveWaiting 3 none, Cond.methodLink RX5 146 yX6_beginRide, Cond.instanceMethod yX6_beginRide]
def wsL_law0_r26 : List Cond := [Cond.selects RX6 yX6_beginRide yX6_beginRide, Cond.code yX6_beginRide cX6_beginRide 3 none, Cond.fieldLink RX6 27 "ZipCanopy$Trip" "taken" "I", Cond.methodLink RX5 148 yX7_leaveTop, Cond.instanceMethod yX7_leaveTop, Cond.selects RX7 yX7_leaveTop yX7_leaveTop, Cond.code yX7_leaveTop cX7_leaveTop 3 none, Cond.fieldLink RX7 25 "ZipCanopy$Trolleys" "rides" "I", Cond.methodLink RX5 154 yX1_getsStuck, Cond.methodLink RX5 98 yX5_tireWaiting, Cond.instanceMethod yX5_tireWaiting, Cond.selects RX5 yX5_tireWaiting yX5_tireWaiting, Cond.code yX5_tireWaiting cX5_tireWaiting 5 none, Cond.methodLink RX5 170 yX5_givesUp, Cond.static yX5_givesUp, Cond.code yX5_givesUp cX5_givesUp 2 (some .boolean), Cond.fieldLink RX5 180 "ZipCanopy$Rider" "patience" "I", Cond.methodLink RX5 177 yX4_linesFrom, Cond.methodLink RX5 174 yX6_giveUp, Cond.instanceMethod yX6_giveUp, Cond.selects RX6 yX6_giveUp yX6_giveUp, Cond.code yX6_giveUp cX6_giveUp 1 none, Cond.methodLink RL 110 yX10_pass, Cond.instanceMethod yX10_pass]
def wsL_law0_r27 : List Cond := [Cond.selects RX10 yX10_pass yX10_pass, Cond.code yX10_pass cX10_pass 4 (some .int), Cond.methodLink RX10 164 yX9_pass, Cond.instanceMethod yX9_pass, Cond.selects RX9 yX9_pass yX9_pass, Cond.code yX9_pass cX9_pass 3 (some .int), Cond.methodLink RX9 75 yX9_many, Cond.instanceMethod yX9_many, Cond.selects RX9 yX9_many yX9_many, Cond.code yX9_many cX9_many 4 (some .int), Cond.methodLink RX9 82 yX9_roll, Cond.instanceMethod yX9_roll, Cond.selects RX9 yX9_roll yX9_roll, Cond.code yX9_roll cX9_roll 5 none, Cond.methodLink RX9 109 yX9_come, Cond.methodLink RX9 90 yX9_begin, Cond.instanceMethod yX9_begin, Cond.selects RX9 yX9_begin yX9_begin, Cond.code yX9_begin cX9_begin 5 none, Cond.methodLink RX9 126 Lib.Math.abs.name, Cond.methodLink RX9 103 yX9_strike, Cond.instanceMethod yX9_strike, Cond.selects RX9 yX9_strike yX9_strike, Cond.code yX9_strike cX9_strike 4 none]
def wsL_law0_r28 : List Cond := [Cond.methodLink RL 111 yL_count, Cond.static yL_count, Cond.codeWith yL_count cL_count 4 (some .int) [(0, 9, 12, 21)], Cond.methodLink RL 52 yX8_count, Cond.instanceMethod yX8_count, Cond.selects RX8 yX8_count yX8_count, Cond.code yX8_count cX8_count 2 (some .int), Cond.methodLink RX8 184 yX8_countFact, Cond.instanceMethod yX8_countFact, Cond.selects RX8 yX8_countFact yX8_countFact, Cond.code yX8_countFact cX8_countFact 2 (some .int), Cond.methodLink RX8 328 yX5_ridersIn, Cond.methodLink RX8 331 yX5_trolleysInAll, Cond.instanceMethod yX5_trolleysInAll, Cond.selects RX5 yX5_trolleysInAll yX5_trolleysInAll, Cond.code yX5_trolleysInAll cX5_trolleysInAll 3 (some .int), Cond.methodLink RX5 186 yX7_inAll, Cond.methodLink RX8 334 yX5_ridesInAll, Cond.instanceMethod yX5_ridesInAll, Cond.selects RX5 yX5_ridesInAll yX5_ridesInAll, Cond.code yX5_ridesInAll cX5_ridesInAll 3 (some .int), Cond.fieldLink RX5 189 "ZipCanopy$Trolleys" "rides" "I", Cond.methodLink RL 113 yX10_count, Cond.instanceMethod yX10_count]
def wsL_law0_r29 : List Cond := [Cond.selects RX10 yX10_count yX10_count, Cond.code yX10_count cX10_count 2 (some .int), Cond.methodLink RX10 171 yX10_counted, Cond.instanceMethod yX10_counted, Cond.selects RX10 yX10_counted yX10_counted, Cond.code yX10_counted cX10_counted 5 (some .int), Cond.methodLink RX10 168 yX9_many, Cond.methodLink RL 114 yL_way, Cond.static yL_way, Cond.codeWith yL_way cL_way 6 (some .int) [(0, 12, 15, 21), (0, 12, 19, 13)], Cond.methodLink RL 55 yX8_way, Cond.instanceMethod yX8_way, Cond.selects RX8 yX8_way yX8_way, Cond.code yX8_way cX8_way 4 (some .int), Cond.methodLink RX8 187 yX4_plan, Cond.methodLink RL 116 yX10_way, Cond.instanceMethod yX10_way, Cond.selects RX10 yX10_way yX10_way, Cond.code yX10_way cX10_way 4 (some .int), Cond.methodLink RL 117 yL_arrives, Cond.static yL_arrives, Cond.codeWith yL_arrives cL_arrives 4 (some .int) [(0, 9, 12, 21)], Cond.methodLink RL 58 yX8_arrives, Cond.instanceMethod yX8_arrives]
def wsL_law0_r30 : List Cond := [Cond.selects RX8 yX8_arrives yX8_arrives, Cond.code yX8_arrives cX8_arrives 4 (some .int), Cond.methodLink RX8 196 yX5_copyFrom, Cond.instanceMethod yX5_copyFrom, Cond.selects RX5 yX5_copyFrom yX5_copyFrom, Cond.code yX5_copyFrom cX5_copyFrom 3 none, Cond.methodLink RX5 39 yX6_copyFrom, Cond.instanceMethod yX6_copyFrom, Cond.selects RX6 yX6_copyFrom yX6_copyFrom, Cond.code yX6_copyFrom cX6_copyFrom 2 none, Cond.methodLink RX5 46 yX7_copyFrom, Cond.instanceMethod yX7_copyFrom, Cond.selects RX7 yX7_copyFrom yX7_copyFrom, Cond.code yX7_copyFrom cX7_copyFrom 3 none, Cond.fieldLink RX7 28 "ZipCanopy$Trolleys" "stuck" "I", Cond.methodLink RX8 204 yX6_isUnderWay, Cond.instanceMethod yX6_isUnderWay, Cond.selects RX6 yX6_isUnderWay yX6_isUnderWay, Cond.code yX6_isUnderWay cX6_isUnderWay 1 (some .boolean), Cond.methodLink RX8 210 yX5_passMinute, Cond.methodLink RL 119 yX10_arrives, Cond.instanceMethod yX10_arrives, Cond.selects RX10 yX10_arrives yX10_arrives, Cond.code yX10_arrives cX10_arrives 3 (some .int)]
def wsL_law0_r31 : List Cond := [Cond.methodLink RX10 174 yX9_become, Cond.instanceMethod yX9_become, Cond.selects RX9 yX9_become yX9_become, Cond.code yX9_become cX9_become 2 none, Cond.methodLink RX9 65 yX9_copy, Cond.instanceMethod yX9_copy, Cond.selects RX9 yX9_copy yX9_copy, Cond.code yX9_copy cX9_copy 3 none, Cond.methodLink RX9 55 arraycopyName, Cond.native arraycopyName, Cond.static arraycopyName, Cond.initialized "java/lang/System", Cond.methodLink RL 120 yL_advise, Cond.static yL_advise, Cond.codeWith yL_advise cL_advise 4 (some .int) [(0, 9, 12, 13)], Cond.methodLink RL 61 yX8_advise, Cond.instanceMethod yX8_advise, Cond.selects RX8 yX8_advise yX8_advise, Cond.code yX8_advise cX8_advise 6 (some .int), Cond.methodLink RX8 218 yX8_arrivalsWithOneMore, Cond.instanceMethod yX8_arrivalsWithOneMore, Cond.selects RX8 yX8_arrivalsWithOneMore yX8_arrivalsWithOneMore, Cond.code yX8_arrivalsWithOneMore cX8_arrivalsWithOneMore 3 (some .int), Cond.methodLink RL 122 yX10_advise]
def wsL_law0_r32 : List Cond := [Cond.instanceMethod yX10_advise, Cond.selects RX10 yX10_advise yX10_advise, Cond.code yX10_advise cX10_advise 6 (some .int), Cond.methodLink RX10 178 yX10_arrivedIn, Cond.instanceMethod yX10_arrivedIn, Cond.selects RX10 yX10_arrivedIn yX10_arrivedIn, Cond.code yX10_arrivedIn cX10_arrivedIn 3 (some .int), Cond.methodLink RL 123 yX8_mean, Cond.instanceMethod yX8_mean, Cond.selects RX8 yX8_mean yX8_mean, Cond.code yX8_mean cX8_mean 4 (some .double), Cond.methodLink RL 127 yX10_mean, Cond.instanceMethod yX10_mean, Cond.selects RX10 yX10_mean yX10_mean, Cond.code yX10_mean cX10_mean 3 (some .double), Cond.methodLink RL 128 yX8_digest, Cond.instanceMethod yX8_digest, Cond.selects RX8 yX8_digest yX8_digest, Cond.code yX8_digest cX8_digest 5 (some .long), Cond.constantLong RX8 224 (593), Cond.constantLong RX8 226 (31), Cond.methodLink RX8 228 yX8_digestPlatform, Cond.instanceMethod yX8_digestPlatform, Cond.selects RX8 yX8_digestPlatform yX8_digestPlatform]
def wsL_law0_r33 : List Cond := [Cond.code yX8_digestPlatform cX8_digestPlatform 7 (some .long), Cond.methodLink RL 132 yX10_digest, Cond.instanceMethod yX10_digest, Cond.selects RX10 yX10_digest yX10_digest, Cond.code yX10_digest cX10_digest 5 (some .long), Cond.constantLong RX10 181 (593), Cond.constantLong RX10 183 (31)]
def wsL_law0 : List Cond := (wsL_law0_r1 ++ (wsL_law0_r2 ++ (wsL_law0_r3 ++ (wsL_law0_r4 ++ (wsL_law0_r5 ++ (wsL_law0_r6 ++ (wsL_law0_r7 ++ (wsL_law0_r8 ++ (wsL_law0_r9 ++ (wsL_law0_r10 ++ (wsL_law0_r11 ++ (wsL_law0_r12 ++ (wsL_law0_r13 ++ (wsL_law0_r14 ++ (wsL_law0_r15 ++ (wsL_law0_r16 ++ (wsL_law0_r17 ++ (wsL_law0_r18 ++ (wsL_law0_r19 ++ (wsL_law0_r20 ++ (wsL_law0_r21 ++ (wsL_law0_r22 ++ (wsL_law0_r23 ++ (wsL_law0_r24 ++ (wsL_law0_r25 ++ (wsL_law0_r26 ++ (wsL_law0_r27 ++ (wsL_law0_r28 ++ (wsL_law0_r29 ++ (wsL_law0_r30 ++ (wsL_law0_r31 ++ (wsL_law0_r32 ++ wsL_law0_r33)))))))))))))))))))))))))))))))) ++ wsX80 ++ wsX100 ++ wsX00 ++ wsX50 ++ wsX40 ++ wsX20 ++ wsX10 ++ wsX30 ++ wsX60 ++ wsX70 ++ wsX90 ++ ([] : List Cond)
def wsL_law : List Cond := wsL_law0 ++ (vx_atS RX8 43 "java/lang/IllegalArgumentException" ["java/lang/RuntimeException", "java/lang/Exception"]).filter goodWord ++ (vx_atS RX8 58 "java/lang/IllegalStateException" ["java/lang/RuntimeException", "java/lang/Exception"]).filter goodWord ++ (vx_atS RX8 71 "java/lang/IndexOutOfBoundsException" ["java/lang/RuntimeException", "java/lang/Exception"]).filter goodWord
set_option maxRecDepth 20000 in
theorem wsL_law_in0 : ∀ w ∈ wsL_law0, w ∈ lw_tbl := fun w h => (goodIn_p wsL_law0 [58, 61, 66, 77, 98, 130, 136, 208, 217, 250, 813, 819, 417, 401, 490, 510, 942, 945, 949, 938, 518, 522, 542, 548, 552, 555, 559, 563, 567, 571, 398, 576, 953, 957, 583, 587, 342, 961, 965, 596, 969, 605, 354, 358, 362, 366, 370, 374, 973, 977, 613, 378, 383, 387, 390, 981, 985, 989, 994, 998, 1002, 621, 624, 630, 634, 1006, 1010, 642, 649, 653, 657, 661, 1014, 1018, 668, 672, 394, 404, 408, 1022, 1026, 1030, 1034, 1039, 680, 1043, 688, 693, 334, 698, 702, 706, 710, 715, 720, 724, 729, 734, 738, 742, 747, 750, 755, 1047, 1051, 1055, 1059, 1066, 1071, 762, 330, 338, 346, 1078, 1082, 770, 1087, 778, 783, 787, 791, 795, 1091, 1095, 1099, 803, 808, 1106, 1110, 320, 1114, 324, 350, 1118] (by decide +kernel) (by decide +kernel) w h).1
theorem wsL_law_x0 : ∀ w ∈ (vx_atS RX8 43 "java/lang/IllegalArgumentException" ["java/lang/RuntimeException", "java/lang/Exception"]).filter goodWord, w ∈ lw_tbl := by decide +kernel
theorem wsL_law_x1 : ∀ w ∈ (vx_atS RX8 58 "java/lang/IllegalStateException" ["java/lang/RuntimeException", "java/lang/Exception"]).filter goodWord, w ∈ lw_tbl := by decide +kernel
theorem wsL_law_x2 : ∀ w ∈ (vx_atS RX8 71 "java/lang/IndexOutOfBoundsException" ["java/lang/RuntimeException", "java/lang/Exception"]).filter goodWord, w ∈ lw_tbl := by decide +kernel
theorem wsL_law_in : ∀ w ∈ wsL_law, w ∈ lw_tbl := fun w h => (List.mem_append.mp h).elim (fun h => (List.mem_append.mp h).elim (fun h => (List.mem_append.mp h).elim (fun h => wsL_law_in0 w h) (fun h => wsL_law_x0 w h)) (fun h => wsL_law_x1 w h)) (fun h => wsL_law_x2 w h)
theorem inlX0 : ∀ w ∈ wsX00, w ∈ wsL_law := fun _ h => List.mem_append_left _ (List.mem_append_left _ (List.mem_append_left _ (List.mem_append_left _ (List.mem_append_left _ (List.mem_append_left _ (List.mem_append_left _ (List.mem_append_left _ (List.mem_append_left _ (List.mem_append_left _ (List.mem_append_left _ (List.mem_append_left _ (List.mem_append_right _ h))))))))))))
theorem inX0 : ∀ w ∈ wsX00, w ∈ lw_tbl := fun w h => wsL_law_in w (inlX0 w h)
theorem inlX1 : ∀ w ∈ wsX10, w ∈ wsL_law := fun _ h => List.mem_append_left _ (List.mem_append_left _ (List.mem_append_left _ (List.mem_append_left _ (List.mem_append_left _ (List.mem_append_left _ (List.mem_append_left _ (List.mem_append_left _ (List.mem_append_right _ h))))))))
theorem inX1 : ∀ w ∈ wsX10, w ∈ lw_tbl := fun w h => wsL_law_in w (inlX1 w h)
theorem inlX2 : ∀ w ∈ wsX20, w ∈ wsL_law := fun _ h => List.mem_append_left _ (List.mem_append_left _ (List.mem_append_left _ (List.mem_append_left _ (List.mem_append_left _ (List.mem_append_left _ (List.mem_append_left _ (List.mem_append_left _ (List.mem_append_left _ (List.mem_append_right _ h)))))))))
theorem inX2 : ∀ w ∈ wsX20, w ∈ lw_tbl := fun w h => wsL_law_in w (inlX2 w h)
theorem inlX3 : ∀ w ∈ wsX30, w ∈ wsL_law := fun _ h => List.mem_append_left _ (List.mem_append_left _ (List.mem_append_left _ (List.mem_append_left _ (List.mem_append_left _ (List.mem_append_left _ (List.mem_append_left _ (List.mem_append_right _ h)))))))
theorem inX3 : ∀ w ∈ wsX30, w ∈ lw_tbl := fun w h => wsL_law_in w (inlX3 w h)
theorem inlX4 : ∀ w ∈ wsX40, w ∈ wsL_law := fun _ h => List.mem_append_left _ (List.mem_append_left _ (List.mem_append_left _ (List.mem_append_left _ (List.mem_append_left _ (List.mem_append_left _ (List.mem_append_left _ (List.mem_append_left _ (List.mem_append_left _ (List.mem_append_left _ (List.mem_append_right _ h))))))))))
theorem inX4 : ∀ w ∈ wsX40, w ∈ lw_tbl := fun w h => wsL_law_in w (inlX4 w h)
theorem inlX5 : ∀ w ∈ wsX50, w ∈ wsL_law := fun _ h => List.mem_append_left _ (List.mem_append_left _ (List.mem_append_left _ (List.mem_append_left _ (List.mem_append_left _ (List.mem_append_left _ (List.mem_append_left _ (List.mem_append_left _ (List.mem_append_left _ (List.mem_append_left _ (List.mem_append_left _ (List.mem_append_right _ h)))))))))))
theorem inX5 : ∀ w ∈ wsX50, w ∈ lw_tbl := fun w h => wsL_law_in w (inlX5 w h)
theorem inlX6 : ∀ w ∈ wsX60, w ∈ wsL_law := fun _ h => List.mem_append_left _ (List.mem_append_left _ (List.mem_append_left _ (List.mem_append_left _ (List.mem_append_left _ (List.mem_append_left _ (List.mem_append_right _ h))))))
theorem inX6 : ∀ w ∈ wsX60, w ∈ lw_tbl := fun w h => wsL_law_in w (inlX6 w h)
theorem inlX7 : ∀ w ∈ wsX70, w ∈ wsL_law := fun _ h => List.mem_append_left _ (List.mem_append_left _ (List.mem_append_left _ (List.mem_append_left _ (List.mem_append_left _ (List.mem_append_right _ h)))))
theorem inX7 : ∀ w ∈ wsX70, w ∈ lw_tbl := fun w h => wsL_law_in w (inlX7 w h)
theorem inlX8 : ∀ w ∈ wsX80, w ∈ wsL_law := fun _ h => List.mem_append_left _ (List.mem_append_left _ (List.mem_append_left _ (List.mem_append_left _ (List.mem_append_left _ (List.mem_append_left _ (List.mem_append_left _ (List.mem_append_left _ (List.mem_append_left _ (List.mem_append_left _ (List.mem_append_left _ (List.mem_append_left _ (List.mem_append_left _ (List.mem_append_left _ (List.mem_append_right _ h))))))))))))))
theorem inX8 : ∀ w ∈ wsX80, w ∈ lw_tbl := fun w h => wsL_law_in w (inlX8 w h)
theorem inlX9 : ∀ w ∈ wsX90, w ∈ wsL_law := fun _ h => List.mem_append_left _ (List.mem_append_left _ (List.mem_append_left _ (List.mem_append_left _ (List.mem_append_right _ h))))
theorem inX9 : ∀ w ∈ wsX90, w ∈ lw_tbl := fun w h => wsL_law_in w (inlX9 w h)
theorem inlX10 : ∀ w ∈ wsX100, w ∈ wsL_law := fun _ h => List.mem_append_left _ (List.mem_append_left _ (List.mem_append_left _ (List.mem_append_left _ (List.mem_append_left _ (List.mem_append_left _ (List.mem_append_left _ (List.mem_append_left _ (List.mem_append_left _ (List.mem_append_left _ (List.mem_append_left _ (List.mem_append_left _ (List.mem_append_left _ (List.mem_append_right _ h)))))))))))))
theorem inX10 : ∀ w ∈ wsX100, w ∈ lw_tbl := fun w h => wsL_law_in w (inlX10 w h)
theorem inJ9 : ∀ w ∈ wsJ90, w ∈ lw_tbl := by decide +kernel
theorem inJ0 : ∀ w ∈ wsJ00, w ∈ lw_tbl := by decide +kernel
theorem inJ10 : ∀ w ∈ wsJ100, w ∈ lw_tbl := by decide +kernel
end
section
theorem dX0_init_0 : decode cX0_init 0 = .ok (.aload_n 0, 1) := by decide +kernel
theorem dX0_init_1 : decode cX0_init 1 = .ok (.invokespecial 3, 3) := by decide +kernel
theorem dX0_init_4 : decode cX0_init 4 = .ok (.aload_n 0, 1) := by decide +kernel
theorem dX0_init_5 : decode cX0_init 5 = .ok (.bipush 8, 2) := by decide +kernel
theorem dX0_init_7 : decode cX0_init 7 = .ok (.anewarray 9, 3) := by decide +kernel
theorem dX0_init_10 : decode cX0_init 10 = .ok (.putfield 11, 3) := by decide +kernel
theorem dX0_init_13 : decode cX0_init 13 = .ok (.aload_n 0, 1) := by decide +kernel
theorem dX0_init_14 : decode cX0_init 14 = .ok (.bipush 12, 2) := by decide +kernel
theorem dX0_init_16 : decode cX0_init 16 = .ok (.anewarray 17, 3) := by decide +kernel
theorem dX0_init_19 : decode cX0_init 19 = .ok (.putfield 19, 3) := by decide +kernel
theorem dX0_init_22 : decode cX0_init 22 = .ok (.aload_n 0, 1) := by decide +kernel
theorem dX0_init_23 : decode cX0_init 23 = .ok (.bipush 12, 2) := by decide +kernel
theorem dX0_init_25 : decode cX0_init 25 = .ok (.anewarray 23, 3) := by decide +kernel
theorem dX0_init_28 : decode cX0_init 28 = .ok (.putfield 25, 3) := by decide +kernel
theorem dX0_init_31 : decode cX0_init 31 = .ok (.aload_n 0, 1) := by decide +kernel
theorem dX0_init_32 : decode cX0_init 32 = .ok (.bipush 12, 2) := by decide +kernel
theorem dX0_init_34 : decode cX0_init 34 = .ok (.newarray .int, 2) := by decide +kernel
theorem dX0_init_36 : decode cX0_init 36 = .ok (.putfield 29, 3) := by decide +kernel
theorem dX0_init_39 : decode cX0_init 39 = .ok (.iconst 0, 1) := by decide +kernel
theorem dX0_init_40 : decode cX0_init 40 = .ok (.istore_n 1, 1) := by decide +kernel
theorem dX0_init_41 : decode cX0_init 41 = .ok (.iload_n 1, 1) := by decide +kernel
theorem dX0_init_42 : decode cX0_init 42 = .ok (.bipush 8, 2) := by decide +kernel
theorem dX0_init_44 : decode cX0_init 44 = .ok (.if_icmp .ge 22, 3) := by decide +kernel
theorem dX0_init_47 : decode cX0_init 47 = .ok (.aload_n 0, 1) := by decide +kernel
theorem dX0_init_48 : decode cX0_init 48 = .ok (.getfield 11, 3) := by decide +kernel
theorem dX0_init_51 : decode cX0_init 51 = .ok (.iload_n 1, 1) := by decide +kernel
theorem dX0_init_52 : decode cX0_init 52 = .ok (.new 9, 3) := by decide +kernel
theorem dX0_init_55 : decode cX0_init 55 = .ok (.dup, 1) := by decide +kernel
theorem dX0_init_56 : decode cX0_init 56 = .ok (.invokespecial 33, 3) := by decide +kernel
theorem dX0_init_59 : decode cX0_init 59 = .ok (.aastore, 1) := by decide +kernel
theorem dX0_init_60 : decode cX0_init 60 = .ok (.iinc 1 1, 3) := by decide +kernel
theorem dX0_init_63 : decode cX0_init 63 = .ok (.goto (-22), 3) := by decide +kernel
theorem dX0_init_66 : decode cX0_init 66 = .ok (.iconst 0, 1) := by decide +kernel
theorem dX0_init_67 : decode cX0_init 67 = .ok (.istore_n 1, 1) := by decide +kernel
theorem dX0_init_68 : decode cX0_init 68 = .ok (.iload_n 1, 1) := by decide +kernel
theorem dX0_init_69 : decode cX0_init 69 = .ok (.bipush 12, 2) := by decide +kernel
theorem dX0_init_71 : decode cX0_init 71 = .ok (.if_icmp .ge 22, 3) := by decide +kernel
theorem dX0_init_74 : decode cX0_init 74 = .ok (.aload_n 0, 1) := by decide +kernel
theorem dX0_init_75 : decode cX0_init 75 = .ok (.getfield 19, 3) := by decide +kernel
theorem dX0_init_78 : decode cX0_init 78 = .ok (.iload_n 1, 1) := by decide +kernel
theorem dX0_init_79 : decode cX0_init 79 = .ok (.new 17, 3) := by decide +kernel
theorem dX0_init_82 : decode cX0_init 82 = .ok (.dup, 1) := by decide +kernel
theorem dX0_init_83 : decode cX0_init 83 = .ok (.invokespecial 34, 3) := by decide +kernel
theorem dX0_init_86 : decode cX0_init 86 = .ok (.aastore, 1) := by decide +kernel
theorem dX0_init_87 : decode cX0_init 87 = .ok (.iinc 1 1, 3) := by decide +kernel
theorem dX0_init_90 : decode cX0_init 90 = .ok (.goto (-22), 3) := by decide +kernel
theorem dX0_init_93 : decode cX0_init 93 = .ok (.iconst 0, 1) := by decide +kernel
theorem dX0_init_94 : decode cX0_init 94 = .ok (.istore_n 1, 1) := by decide +kernel
theorem dX0_init_95 : decode cX0_init 95 = .ok (.iload_n 1, 1) := by decide +kernel
theorem dX0_init_96 : decode cX0_init 96 = .ok (.bipush 12, 2) := by decide +kernel
theorem dX0_init_98 : decode cX0_init 98 = .ok (.if_icmp .ge 22, 3) := by decide +kernel
theorem dX0_init_101 : decode cX0_init 101 = .ok (.aload_n 0, 1) := by decide +kernel
theorem dX0_init_102 : decode cX0_init 102 = .ok (.getfield 25, 3) := by decide +kernel
theorem dX0_init_105 : decode cX0_init 105 = .ok (.iload_n 1, 1) := by decide +kernel
theorem dX0_init_106 : decode cX0_init 106 = .ok (.new 23, 3) := by decide +kernel
theorem dX0_init_109 : decode cX0_init 109 = .ok (.dup, 1) := by decide +kernel
theorem dX0_init_110 : decode cX0_init 110 = .ok (.invokespecial 35, 3) := by decide +kernel
theorem dX0_init_113 : decode cX0_init 113 = .ok (.aastore, 1) := by decide +kernel
theorem dX0_init_114 : decode cX0_init 114 = .ok (.iinc 1 1, 3) := by decide +kernel
theorem dX0_init_117 : decode cX0_init 117 = .ok (.goto (-22), 3) := by decide +kernel
theorem dX0_init_120 : decode cX0_init 120 = .ok (.return_, 1) := by decide +kernel
theorem dX0_hasPlatformAt_0 : decode cX0_hasPlatformAt 0 = .ok (.iconst 0, 1) := by decide +kernel
theorem dX0_hasPlatformAt_1 : decode cX0_hasPlatformAt 1 = .ok (.istore_n 3, 1) := by decide +kernel
theorem dX0_hasPlatformAt_2 : decode cX0_hasPlatformAt 2 = .ok (.iload_n 3, 1) := by decide +kernel
theorem dX0_hasPlatformAt_3 : decode cX0_hasPlatformAt 3 = .ok (.aload_n 0, 1) := by decide +kernel
theorem dX0_hasPlatformAt_4 : decode cX0_hasPlatformAt 4 = .ok (.getfield 36, 3) := by decide +kernel
theorem dX0_hasPlatformAt_7 : decode cX0_hasPlatformAt 7 = .ok (.if_icmp .ge 37, 3) := by decide +kernel
theorem dX0_hasPlatformAt_10 : decode cX0_hasPlatformAt 10 = .ok (.aload_n 0, 1) := by decide +kernel
theorem dX0_hasPlatformAt_11 : decode cX0_hasPlatformAt 11 = .ok (.getfield 11, 3) := by decide +kernel
theorem dX0_hasPlatformAt_14 : decode cX0_hasPlatformAt 14 = .ok (.iload_n 3, 1) := by decide +kernel
theorem dX0_hasPlatformAt_15 : decode cX0_hasPlatformAt 15 = .ok (.aaload, 1) := by decide +kernel
theorem dX0_hasPlatformAt_16 : decode cX0_hasPlatformAt 16 = .ok (.getfield 40, 3) := by decide +kernel
theorem dX0_hasPlatformAt_19 : decode cX0_hasPlatformAt 19 = .ok (.iload_n 1, 1) := by decide +kernel
theorem dX0_hasPlatformAt_20 : decode cX0_hasPlatformAt 20 = .ok (.if_icmp .ne 18, 3) := by decide +kernel
theorem dX0_hasPlatformAt_23 : decode cX0_hasPlatformAt 23 = .ok (.aload_n 0, 1) := by decide +kernel
theorem dX0_hasPlatformAt_24 : decode cX0_hasPlatformAt 24 = .ok (.getfield 11, 3) := by decide +kernel
theorem dX0_hasPlatformAt_27 : decode cX0_hasPlatformAt 27 = .ok (.iload_n 3, 1) := by decide +kernel
theorem dX0_hasPlatformAt_28 : decode cX0_hasPlatformAt 28 = .ok (.aaload, 1) := by decide +kernel
theorem dX0_hasPlatformAt_29 : decode cX0_hasPlatformAt 29 = .ok (.getfield 43, 3) := by decide +kernel
theorem dX0_hasPlatformAt_32 : decode cX0_hasPlatformAt 32 = .ok (.iload_n 2, 1) := by decide +kernel
theorem dX0_hasPlatformAt_33 : decode cX0_hasPlatformAt 33 = .ok (.if_icmp .ne 5, 3) := by decide +kernel
theorem dX0_hasPlatformAt_36 : decode cX0_hasPlatformAt 36 = .ok (.iconst 1, 1) := by decide +kernel
theorem dX0_hasPlatformAt_37 : decode cX0_hasPlatformAt 37 = .ok (.ireturn, 1) := by decide +kernel
theorem dX0_hasPlatformAt_38 : decode cX0_hasPlatformAt 38 = .ok (.iinc 3 1, 3) := by decide +kernel
theorem dX0_hasPlatformAt_41 : decode cX0_hasPlatformAt 41 = .ok (.goto (-39), 3) := by decide +kernel
theorem dX0_hasPlatformAt_44 : decode cX0_hasPlatformAt 44 = .ok (.iconst 0, 1) := by decide +kernel
theorem dX0_hasPlatformAt_45 : decode cX0_hasPlatformAt 45 = .ok (.ireturn, 1) := by decide +kernel
theorem dX0_isLower_0 : decode cX0_isLower 0 = .ok (.aload_n 0, 1) := by decide +kernel
theorem dX0_isLower_1 : decode cX0_isLower 1 = .ok (.getfield 11, 3) := by decide +kernel
theorem dX0_isLower_4 : decode cX0_isLower 4 = .ok (.iload_n 1, 1) := by decide +kernel
theorem dX0_isLower_5 : decode cX0_isLower 5 = .ok (.aaload, 1) := by decide +kernel
theorem dX0_isLower_6 : decode cX0_isLower 6 = .ok (.getfield 46, 3) := by decide +kernel
theorem dX0_isLower_9 : decode cX0_isLower 9 = .ok (.aload_n 0, 1) := by decide +kernel
theorem dX0_isLower_10 : decode cX0_isLower 10 = .ok (.getfield 11, 3) := by decide +kernel
theorem dX0_isLower_13 : decode cX0_isLower 13 = .ok (.iload_n 2, 1) := by decide +kernel
theorem dX0_isLower_14 : decode cX0_isLower 14 = .ok (.aaload, 1) := by decide +kernel
theorem dX0_isLower_15 : decode cX0_isLower 15 = .ok (.getfield 46, 3) := by decide +kernel
theorem dX0_isLower_18 : decode cX0_isLower 18 = .ok (.if_icmp .ge 7, 3) := by decide +kernel
theorem dX0_isLower_21 : decode cX0_isLower 21 = .ok (.iconst 1, 1) := by decide +kernel
theorem dX0_isLower_22 : decode cX0_isLower 22 = .ok (.goto 4, 3) := by decide +kernel
theorem dX0_isLower_25 : decode cX0_isLower 25 = .ok (.iconst 0, 1) := by decide +kernel
theorem dX0_isLower_26 : decode cX0_isLower 26 = .ok (.ireturn, 1) := by decide +kernel
theorem dX0_addPlatform_0 : decode cX0_addPlatform 0 = .ok (.aload_n 0, 1) := by decide +kernel
theorem dX0_addPlatform_1 : decode cX0_addPlatform 1 = .ok (.getfield 36, 3) := by decide +kernel
theorem dX0_addPlatform_4 : decode cX0_addPlatform 4 = .ok (.istore 4, 2) := by decide +kernel
theorem dX0_addPlatform_6 : decode cX0_addPlatform 6 = .ok (.aload_n 0, 1) := by decide +kernel
theorem dX0_addPlatform_7 : decode cX0_addPlatform 7 = .ok (.getfield 11, 3) := by decide +kernel
theorem dX0_addPlatform_10 : decode cX0_addPlatform 10 = .ok (.iload 4, 2) := by decide +kernel
theorem dX0_addPlatform_12 : decode cX0_addPlatform 12 = .ok (.aaload, 1) := by decide +kernel
theorem dX0_addPlatform_13 : decode cX0_addPlatform 13 = .ok (.iload_n 1, 1) := by decide +kernel
theorem dX0_addPlatform_14 : decode cX0_addPlatform 14 = .ok (.putfield 40, 3) := by decide +kernel
theorem dX0_addPlatform_17 : decode cX0_addPlatform 17 = .ok (.aload_n 0, 1) := by decide +kernel
theorem dX0_addPlatform_18 : decode cX0_addPlatform 18 = .ok (.getfield 11, 3) := by decide +kernel
theorem dX0_addPlatform_21 : decode cX0_addPlatform 21 = .ok (.iload 4, 2) := by decide +kernel
theorem dX0_addPlatform_23 : decode cX0_addPlatform 23 = .ok (.aaload, 1) := by decide +kernel
theorem dX0_addPlatform_24 : decode cX0_addPlatform 24 = .ok (.iload_n 2, 1) := by decide +kernel
theorem dX0_addPlatform_25 : decode cX0_addPlatform 25 = .ok (.putfield 43, 3) := by decide +kernel
theorem dX0_addPlatform_28 : decode cX0_addPlatform 28 = .ok (.aload_n 0, 1) := by decide +kernel
theorem dX0_addPlatform_29 : decode cX0_addPlatform 29 = .ok (.getfield 11, 3) := by decide +kernel
theorem dX0_addPlatform_32 : decode cX0_addPlatform 32 = .ok (.iload 4, 2) := by decide +kernel
theorem dX0_addPlatform_34 : decode cX0_addPlatform 34 = .ok (.aaload, 1) := by decide +kernel
theorem dX0_addPlatform_35 : decode cX0_addPlatform 35 = .ok (.iload_n 3, 1) := by decide +kernel
theorem dX0_addPlatform_36 : decode cX0_addPlatform 36 = .ok (.putfield 46, 3) := by decide +kernel
theorem dX0_addPlatform_39 : decode cX0_addPlatform 39 = .ok (.aload_n 0, 1) := by decide +kernel
theorem dX0_addPlatform_40 : decode cX0_addPlatform 40 = .ok (.dup, 1) := by decide +kernel
theorem dX0_addPlatform_41 : decode cX0_addPlatform 41 = .ok (.getfield 36, 3) := by decide +kernel
theorem dX0_addPlatform_44 : decode cX0_addPlatform 44 = .ok (.iconst 1, 1) := by decide +kernel
theorem dX0_addPlatform_45 : decode cX0_addPlatform 45 = .ok (.iadd, 1) := by decide +kernel
theorem dX0_addPlatform_46 : decode cX0_addPlatform 46 = .ok (.putfield 36, 3) := by decide +kernel
theorem dX0_addPlatform_49 : decode cX0_addPlatform 49 = .ok (.iload 4, 2) := by decide +kernel
theorem dX0_addPlatform_51 : decode cX0_addPlatform 51 = .ok (.ireturn, 1) := by decide +kernel
theorem dX0_addLine_0 : decode cX0_addLine 0 = .ok (.aload_n 0, 1) := by decide +kernel
theorem dX0_addLine_1 : decode cX0_addLine 1 = .ok (.getfield 49, 3) := by decide +kernel
theorem dX0_addLine_4 : decode cX0_addLine 4 = .ok (.istore 4, 2) := by decide +kernel
theorem dX0_addLine_6 : decode cX0_addLine 6 = .ok (.aload_n 0, 1) := by decide +kernel
theorem dX0_addLine_7 : decode cX0_addLine 7 = .ok (.getfield 19, 3) := by decide +kernel
theorem dX0_addLine_10 : decode cX0_addLine 10 = .ok (.iload 4, 2) := by decide +kernel
theorem dX0_addLine_12 : decode cX0_addLine 12 = .ok (.aaload, 1) := by decide +kernel
theorem dX0_addLine_13 : decode cX0_addLine 13 = .ok (.astore 5, 2) := by decide +kernel
theorem dX0_addLine_15 : decode cX0_addLine 15 = .ok (.aload 5, 2) := by decide +kernel
theorem dX0_addLine_17 : decode cX0_addLine 17 = .ok (.iload_n 1, 1) := by decide +kernel
theorem dX0_addLine_18 : decode cX0_addLine 18 = .ok (.putfield 52, 3) := by decide +kernel
theorem dX0_addLine_21 : decode cX0_addLine 21 = .ok (.aload 5, 2) := by decide +kernel
theorem dX0_addLine_23 : decode cX0_addLine 23 = .ok (.iload_n 2, 1) := by decide +kernel
theorem dX0_addLine_24 : decode cX0_addLine 24 = .ok (.putfield 55, 3) := by decide +kernel
theorem dX0_addLine_27 : decode cX0_addLine 27 = .ok (.aload 5, 2) := by decide +kernel
theorem dX0_addLine_29 : decode cX0_addLine 29 = .ok (.iload_n 3, 1) := by decide +kernel
theorem dX0_addLine_30 : decode cX0_addLine 30 = .ok (.putfield 58, 3) := by decide +kernel
theorem dX0_addLine_33 : decode cX0_addLine 33 = .ok (.aload 5, 2) := by decide +kernel
theorem dX0_addLine_35 : decode cX0_addLine 35 = .ok (.aload_n 0, 1) := by decide +kernel
theorem dX0_addLine_36 : decode cX0_addLine 36 = .ok (.getfield 11, 3) := by decide +kernel
theorem dX0_addLine_39 : decode cX0_addLine 39 = .ok (.iload_n 1, 1) := by decide +kernel
theorem dX0_addLine_40 : decode cX0_addLine 40 = .ok (.aaload, 1) := by decide +kernel
theorem dX0_addLine_41 : decode cX0_addLine 41 = .ok (.aload_n 0, 1) := by decide +kernel
theorem dX0_addLine_42 : decode cX0_addLine 42 = .ok (.getfield 11, 3) := by decide +kernel
theorem dX0_addLine_45 : decode cX0_addLine 45 = .ok (.iload_n 2, 1) := by decide +kernel
theorem dX0_addLine_46 : decode cX0_addLine 46 = .ok (.aaload, 1) := by decide +kernel
theorem dX0_addLine_47 : decode cX0_addLine 47 = .ok (.invokevirtual 61, 3) := by decide +kernel
theorem dX0_addLine_50 : decode cX0_addLine 50 = .ok (.putfield 65, 3) := by decide +kernel
theorem dX0_addLine_53 : decode cX0_addLine 53 = .ok (.aload 5, 2) := by decide +kernel
theorem dX0_addLine_55 : decode cX0_addLine 55 = .ok (.aload_n 0, 1) := by decide +kernel
theorem dX0_addLine_56 : decode cX0_addLine 56 = .ok (.getfield 11, 3) := by decide +kernel
theorem dX0_addLine_59 : decode cX0_addLine 59 = .ok (.iload_n 1, 1) := by decide +kernel
theorem dX0_addLine_60 : decode cX0_addLine 60 = .ok (.aaload, 1) := by decide +kernel
theorem dX0_addLine_61 : decode cX0_addLine 61 = .ok (.getfield 46, 3) := by decide +kernel
theorem dX0_addLine_64 : decode cX0_addLine 64 = .ok (.aload_n 0, 1) := by decide +kernel
theorem dX0_addLine_65 : decode cX0_addLine 65 = .ok (.getfield 11, 3) := by decide +kernel
theorem dX0_addLine_68 : decode cX0_addLine 68 = .ok (.iload_n 2, 1) := by decide +kernel
theorem dX0_addLine_69 : decode cX0_addLine 69 = .ok (.aaload, 1) := by decide +kernel
theorem dX0_addLine_70 : decode cX0_addLine 70 = .ok (.getfield 46, 3) := by decide +kernel
theorem dX0_addLine_73 : decode cX0_addLine 73 = .ok (.isub, 1) := by decide +kernel
theorem dX0_addLine_74 : decode cX0_addLine 74 = .ok (.putfield 68, 3) := by decide +kernel
theorem dX0_addLine_77 : decode cX0_addLine 77 = .ok (.aload_n 0, 1) := by decide +kernel
theorem dX0_addLine_78 : decode cX0_addLine 78 = .ok (.dup, 1) := by decide +kernel
theorem dX0_addLine_79 : decode cX0_addLine 79 = .ok (.getfield 49, 3) := by decide +kernel
theorem dX0_addLine_82 : decode cX0_addLine 82 = .ok (.iconst 1, 1) := by decide +kernel
theorem dX0_addLine_83 : decode cX0_addLine 83 = .ok (.iadd, 1) := by decide +kernel
theorem dX0_addLine_84 : decode cX0_addLine 84 = .ok (.putfield 49, 3) := by decide +kernel
theorem dX0_addLine_87 : decode cX0_addLine 87 = .ok (.iconst 0, 1) := by decide +kernel
theorem dX0_addLine_88 : decode cX0_addLine 88 = .ok (.istore 6, 2) := by decide +kernel
theorem dX0_addLine_90 : decode cX0_addLine 90 = .ok (.iload 6, 2) := by decide +kernel
theorem dX0_addLine_92 : decode cX0_addLine 92 = .ok (.aload_n 0, 1) := by decide +kernel
theorem dX0_addLine_93 : decode cX0_addLine 93 = .ok (.getfield 71, 3) := by decide +kernel
theorem dX0_addLine_96 : decode cX0_addLine 96 = .ok (.if_icmp .ge 20, 3) := by decide +kernel
theorem dX0_addLine_99 : decode cX0_addLine 99 = .ok (.aload_n 0, 1) := by decide +kernel
theorem dX0_addLine_100 : decode cX0_addLine 100 = .ok (.getfield 25, 3) := by decide +kernel
theorem dX0_addLine_103 : decode cX0_addLine 103 = .ok (.iload 6, 2) := by decide +kernel
theorem dX0_addLine_105 : decode cX0_addLine 105 = .ok (.aaload, 1) := by decide +kernel
theorem dX0_addLine_106 : decode cX0_addLine 106 = .ok (.aload_n 0, 1) := by decide +kernel
theorem dX0_addLine_107 : decode cX0_addLine 107 = .ok (.invokevirtual 74, 3) := by decide +kernel
theorem dX0_addLine_110 : decode cX0_addLine 110 = .ok (.iinc 6 1, 3) := by decide +kernel
theorem dX0_addLine_113 : decode cX0_addLine 113 = .ok (.goto (-23), 3) := by decide +kernel
theorem dX0_addLine_116 : decode cX0_addLine 116 = .ok (.iload 4, 2) := by decide +kernel
theorem dX0_addLine_118 : decode cX0_addLine 118 = .ok (.ireturn, 1) := by decide +kernel
theorem dX0_addRider_0 : decode cX0_addRider 0 = .ok (.aload_n 0, 1) := by decide +kernel
theorem dX0_addRider_1 : decode cX0_addRider 1 = .ok (.getfield 71, 3) := by decide +kernel
theorem dX0_addRider_4 : decode cX0_addRider 4 = .ok (.istore 4, 2) := by decide +kernel
theorem dX0_addRider_6 : decode cX0_addRider 6 = .ok (.aload_n 0, 1) := by decide +kernel
theorem dX0_addRider_7 : decode cX0_addRider 7 = .ok (.getfield 25, 3) := by decide +kernel
theorem dX0_addRider_10 : decode cX0_addRider 10 = .ok (.iload 4, 2) := by decide +kernel
theorem dX0_addRider_12 : decode cX0_addRider 12 = .ok (.aaload, 1) := by decide +kernel
theorem dX0_addRider_13 : decode cX0_addRider 13 = .ok (.astore 5, 2) := by decide +kernel
theorem dX0_addRider_15 : decode cX0_addRider 15 = .ok (.aload 5, 2) := by decide +kernel
theorem dX0_addRider_17 : decode cX0_addRider 17 = .ok (.iload_n 1, 1) := by decide +kernel
theorem dX0_addRider_18 : decode cX0_addRider 18 = .ok (.putfield 78, 3) := by decide +kernel
theorem dX0_addRider_21 : decode cX0_addRider 21 = .ok (.aload 5, 2) := by decide +kernel
theorem dX0_addRider_23 : decode cX0_addRider 23 = .ok (.iload_n 2, 1) := by decide +kernel
theorem dX0_addRider_24 : decode cX0_addRider 24 = .ok (.putfield 81, 3) := by decide +kernel
theorem dX0_addRider_27 : decode cX0_addRider 27 = .ok (.aload 5, 2) := by decide +kernel
theorem dX0_addRider_29 : decode cX0_addRider 29 = .ok (.iload_n 3, 1) := by decide +kernel
theorem dX0_addRider_30 : decode cX0_addRider 30 = .ok (.putfield 84, 3) := by decide +kernel
theorem dX0_addRider_33 : decode cX0_addRider 33 = .ok (.aload 5, 2) := by decide +kernel
theorem dX0_addRider_35 : decode cX0_addRider 35 = .ok (.aload_n 0, 1) := by decide +kernel
theorem dX0_addRider_36 : decode cX0_addRider 36 = .ok (.invokevirtual 74, 3) := by decide +kernel
theorem dX0_addRider_39 : decode cX0_addRider 39 = .ok (.aload_n 0, 1) := by decide +kernel
theorem dX0_addRider_40 : decode cX0_addRider 40 = .ok (.dup, 1) := by decide +kernel
theorem dX0_addRider_41 : decode cX0_addRider 41 = .ok (.getfield 71, 3) := by decide +kernel
theorem dX0_addRider_44 : decode cX0_addRider 44 = .ok (.iconst 1, 1) := by decide +kernel
theorem dX0_addRider_45 : decode cX0_addRider 45 = .ok (.iadd, 1) := by decide +kernel
theorem dX0_addRider_46 : decode cX0_addRider 46 = .ok (.putfield 71, 3) := by decide +kernel
theorem dX0_addRider_49 : decode cX0_addRider 49 = .ok (.iload 4, 2) := by decide +kernel
theorem dX0_addRider_51 : decode cX0_addRider 51 = .ok (.ireturn, 1) := by decide +kernel
theorem dX0_linesWithTop_0 : decode cX0_linesWithTop 0 = .ok (.iconst 0, 1) := by decide +kernel
theorem dX0_linesWithTop_1 : decode cX0_linesWithTop 1 = .ok (.istore_n 2, 1) := by decide +kernel
theorem dX0_linesWithTop_2 : decode cX0_linesWithTop 2 = .ok (.iconst 0, 1) := by decide +kernel
theorem dX0_linesWithTop_3 : decode cX0_linesWithTop 3 = .ok (.istore_n 3, 1) := by decide +kernel
theorem dX0_linesWithTop_4 : decode cX0_linesWithTop 4 = .ok (.iload_n 3, 1) := by decide +kernel
theorem dX0_linesWithTop_5 : decode cX0_linesWithTop 5 = .ok (.aload_n 0, 1) := by decide +kernel
theorem dX0_linesWithTop_6 : decode cX0_linesWithTop 6 = .ok (.getfield 49, 3) := by decide +kernel
theorem dX0_linesWithTop_9 : decode cX0_linesWithTop 9 = .ok (.if_icmp .ge 25, 3) := by decide +kernel
theorem dX0_linesWithTop_12 : decode cX0_linesWithTop 12 = .ok (.aload_n 0, 1) := by decide +kernel
theorem dX0_linesWithTop_13 : decode cX0_linesWithTop 13 = .ok (.getfield 19, 3) := by decide +kernel
theorem dX0_linesWithTop_16 : decode cX0_linesWithTop 16 = .ok (.iload_n 3, 1) := by decide +kernel
theorem dX0_linesWithTop_17 : decode cX0_linesWithTop 17 = .ok (.aaload, 1) := by decide +kernel
theorem dX0_linesWithTop_18 : decode cX0_linesWithTop 18 = .ok (.getfield 52, 3) := by decide +kernel
theorem dX0_linesWithTop_21 : decode cX0_linesWithTop 21 = .ok (.iload_n 1, 1) := by decide +kernel
theorem dX0_linesWithTop_22 : decode cX0_linesWithTop 22 = .ok (.if_icmp .ne 6, 3) := by decide +kernel
theorem dX0_linesWithTop_25 : decode cX0_linesWithTop 25 = .ok (.iinc 2 1, 3) := by decide +kernel
theorem dX0_linesWithTop_28 : decode cX0_linesWithTop 28 = .ok (.iinc 3 1, 3) := by decide +kernel
theorem dX0_linesWithTop_31 : decode cX0_linesWithTop 31 = .ok (.goto (-27), 3) := by decide +kernel
theorem dX0_linesWithTop_34 : decode cX0_linesWithTop 34 = .ok (.iload_n 2, 1) := by decide +kernel
theorem dX0_linesWithTop_35 : decode cX0_linesWithTop 35 = .ok (.ireturn, 1) := by decide +kernel
theorem dX0_linesWithBottom_0 : decode cX0_linesWithBottom 0 = .ok (.iconst 0, 1) := by decide +kernel
theorem dX0_linesWithBottom_1 : decode cX0_linesWithBottom 1 = .ok (.istore_n 2, 1) := by decide +kernel
theorem dX0_linesWithBottom_2 : decode cX0_linesWithBottom 2 = .ok (.iconst 0, 1) := by decide +kernel
theorem dX0_linesWithBottom_3 : decode cX0_linesWithBottom 3 = .ok (.istore_n 3, 1) := by decide +kernel
theorem dX0_linesWithBottom_4 : decode cX0_linesWithBottom 4 = .ok (.iload_n 3, 1) := by decide +kernel
theorem dX0_linesWithBottom_5 : decode cX0_linesWithBottom 5 = .ok (.aload_n 0, 1) := by decide +kernel
theorem dX0_linesWithBottom_6 : decode cX0_linesWithBottom 6 = .ok (.getfield 49, 3) := by decide +kernel
theorem dX0_linesWithBottom_9 : decode cX0_linesWithBottom 9 = .ok (.if_icmp .ge 25, 3) := by decide +kernel
theorem dX0_linesWithBottom_12 : decode cX0_linesWithBottom 12 = .ok (.aload_n 0, 1) := by decide +kernel
theorem dX0_linesWithBottom_13 : decode cX0_linesWithBottom 13 = .ok (.getfield 19, 3) := by decide +kernel
theorem dX0_linesWithBottom_16 : decode cX0_linesWithBottom 16 = .ok (.iload_n 3, 1) := by decide +kernel
theorem dX0_linesWithBottom_17 : decode cX0_linesWithBottom 17 = .ok (.aaload, 1) := by decide +kernel
theorem dX0_linesWithBottom_18 : decode cX0_linesWithBottom 18 = .ok (.getfield 55, 3) := by decide +kernel
theorem dX0_linesWithBottom_21 : decode cX0_linesWithBottom 21 = .ok (.iload_n 1, 1) := by decide +kernel
theorem dX0_linesWithBottom_22 : decode cX0_linesWithBottom 22 = .ok (.if_icmp .ne 6, 3) := by decide +kernel
theorem dX0_linesWithBottom_25 : decode cX0_linesWithBottom 25 = .ok (.iinc 2 1, 3) := by decide +kernel
theorem dX0_linesWithBottom_28 : decode cX0_linesWithBottom 28 = .ok (.iinc 3 1, 3) := by decide +kernel
theorem dX0_linesWithBottom_31 : decode cX0_linesWithBottom 31 = .ok (.goto (-27), 3) := by decide +kernel
theorem dX0_linesWithBottom_34 : decode cX0_linesWithBottom 34 = .ok (.iload_n 2, 1) := by decide +kernel
theorem dX0_linesWithBottom_35 : decode cX0_linesWithBottom 35 = .ok (.ireturn, 1) := by decide +kernel
theorem dX0_isClosed_0 : decode cX0_isClosed 0 = .ok (.aload_n 0, 1) := by decide +kernel
theorem dX0_isClosed_1 : decode cX0_isClosed 1 = .ok (.getfield 29, 3) := by decide +kernel
theorem dX0_isClosed_4 : decode cX0_isClosed 4 = .ok (.iload_n 2, 1) := by decide +kernel
theorem dX0_isClosed_5 : decode cX0_isClosed 5 = .ok (.bipush 12, 2) := by decide +kernel
theorem dX0_isClosed_7 : decode cX0_isClosed 7 = .ok (.invokestatic 87, 3) := by decide +kernel
theorem dX0_isClosed_10 : decode cX0_isClosed 10 = .ok (.iaload, 1) := by decide +kernel
theorem dX0_isClosed_11 : decode cX0_isClosed 11 = .ok (.istore_n 3, 1) := by decide +kernel
theorem dX0_isClosed_12 : decode cX0_isClosed 12 = .ok (.aload_n 1, 1) := by decide +kernel
theorem dX0_isClosed_13 : decode cX0_isClosed 13 = .ok (.getfield 65, 3) := by decide +kernel
theorem dX0_isClosed_16 : decode cX0_isClosed 16 = .ok (.bipush 80, 2) := by decide +kernel
theorem dX0_isClosed_18 : decode cX0_isClosed 18 = .ok (.bipush 8, 2) := by decide +kernel
theorem dX0_isClosed_20 : decode cX0_isClosed 20 = .ok (.iload_n 3, 1) := by decide +kernel
theorem dX0_isClosed_21 : decode cX0_isClosed 21 = .ok (.imul, 1) := by decide +kernel
theorem dX0_isClosed_22 : decode cX0_isClosed 22 = .ok (.isub, 1) := by decide +kernel
theorem dX0_isClosed_23 : decode cX0_isClosed 23 = .ok (.if_icmp .le 7, 3) := by decide +kernel
theorem dX0_isClosed_26 : decode cX0_isClosed 26 = .ok (.iconst 1, 1) := by decide +kernel
theorem dX0_isClosed_27 : decode cX0_isClosed 27 = .ok (.goto 4, 3) := by decide +kernel
theorem dX0_isClosed_30 : decode cX0_isClosed 30 = .ok (.iconst 0, 1) := by decide +kernel
theorem dX0_isClosed_31 : decode cX0_isClosed 31 = .ok (.ireturn, 1) := by decide +kernel
theorem dX1_init_0 : decode cX1_init 0 = .ok (.aload_n 0, 1) := by decide +kernel
theorem dX1_init_1 : decode cX1_init 1 = .ok (.invokespecial 1, 3) := by decide +kernel
theorem dX1_init_4 : decode cX1_init 4 = .ok (.return_, 1) := by decide +kernel
theorem dX1_carries_0 : decode cX1_carries 0 = .ok (.iload_n 1, 1) := by decide +kernel
theorem dX1_carries_1 : decode cX1_carries 1 = .ok (.aload_n 0, 1) := by decide +kernel
theorem dX1_carries_2 : decode cX1_carries 2 = .ok (.getfield 7, 3) := by decide +kernel
theorem dX1_carries_5 : decode cX1_carries 5 = .ok (.if_icmp .gt 7, 3) := by decide +kernel
theorem dX1_carries_8 : decode cX1_carries 8 = .ok (.iconst 1, 1) := by decide +kernel
theorem dX1_carries_9 : decode cX1_carries 9 = .ok (.goto 4, 3) := by decide +kernel
theorem dX1_carries_12 : decode cX1_carries 12 = .ok (.iconst 0, 1) := by decide +kernel
theorem dX1_carries_13 : decode cX1_carries 13 = .ok (.ireturn, 1) := by decide +kernel
theorem dX1_getsStuck_0 : decode cX1_getsStuck 0 = .ok (.iload_n 1, 1) := by decide +kernel
theorem dX1_getsStuck_1 : decode cX1_getsStuck 1 = .ok (.aload_n 0, 1) := by decide +kernel
theorem dX1_getsStuck_2 : decode cX1_getsStuck 2 = .ok (.getfield 13, 3) := by decide +kernel
theorem dX1_getsStuck_5 : decode cX1_getsStuck 5 = .ok (.imul, 1) := by decide +kernel
theorem dX1_getsStuck_6 : decode cX1_getsStuck 6 = .ok (.bipush 10, 2) := by decide +kernel
theorem dX1_getsStuck_8 : decode cX1_getsStuck 8 = .ok (.aload_n 0, 1) := by decide +kernel
theorem dX1_getsStuck_9 : decode cX1_getsStuck 9 = .ok (.getfield 16, 3) := by decide +kernel
theorem dX1_getsStuck_12 : decode cX1_getsStuck 12 = .ok (.imul, 1) := by decide +kernel
theorem dX1_getsStuck_13 : decode cX1_getsStuck 13 = .ok (.if_icmp .ge 7, 3) := by decide +kernel
theorem dX1_getsStuck_16 : decode cX1_getsStuck 16 = .ok (.iconst 1, 1) := by decide +kernel
theorem dX1_getsStuck_17 : decode cX1_getsStuck 17 = .ok (.goto 4, 3) := by decide +kernel
theorem dX1_getsStuck_20 : decode cX1_getsStuck 20 = .ok (.iconst 0, 1) := by decide +kernel
theorem dX1_getsStuck_21 : decode cX1_getsStuck 21 = .ok (.ireturn, 1) := by decide +kernel
theorem dX1_rideMinutes_0 : decode cX1_rideMinutes 0 = .ok (.aload_n 0, 1) := by decide +kernel
theorem dX1_rideMinutes_1 : decode cX1_rideMinutes 1 = .ok (.getfield 13, 3) := by decide +kernel
theorem dX1_rideMinutes_4 : decode cX1_rideMinutes 4 = .ok (.iload_n 1, 1) := by decide +kernel
theorem dX1_rideMinutes_5 : decode cX1_rideMinutes 5 = .ok (.bipush 10, 2) := by decide +kernel
theorem dX1_rideMinutes_7 : decode cX1_rideMinutes 7 = .ok (.idiv, 1) := by decide +kernel
theorem dX1_rideMinutes_8 : decode cX1_rideMinutes 8 = .ok (.iadd, 1) := by decide +kernel
theorem dX1_rideMinutes_9 : decode cX1_rideMinutes 9 = .ok (.istore_n 2, 1) := by decide +kernel
theorem dX1_rideMinutes_10 : decode cX1_rideMinutes 10 = .ok (.iload_n 2, 1) := by decide +kernel
theorem dX1_rideMinutes_11 : decode cX1_rideMinutes 11 = .ok (.ifCond .gt 5, 3) := by decide +kernel
theorem dX1_rideMinutes_14 : decode cX1_rideMinutes 14 = .ok (.iconst 0, 1) := by decide +kernel
theorem dX1_rideMinutes_15 : decode cX1_rideMinutes 15 = .ok (.ireturn, 1) := by decide +kernel
theorem dX1_rideMinutes_16 : decode cX1_rideMinutes 16 = .ok (.iconst 2, 1) := by decide +kernel
theorem dX1_rideMinutes_17 : decode cX1_rideMinutes 17 = .ok (.aload_n 0, 1) := by decide +kernel
theorem dX1_rideMinutes_18 : decode cX1_rideMinutes 18 = .ok (.getfield 16, 3) := by decide +kernel
theorem dX1_rideMinutes_21 : decode cX1_rideMinutes 21 = .ok (.imul, 1) := by decide +kernel
theorem dX1_rideMinutes_22 : decode cX1_rideMinutes 22 = .ok (.iload_n 2, 1) := by decide +kernel
theorem dX1_rideMinutes_23 : decode cX1_rideMinutes 23 = .ok (.iadd, 1) := by decide +kernel
theorem dX1_rideMinutes_24 : decode cX1_rideMinutes 24 = .ok (.iconst 1, 1) := by decide +kernel
theorem dX1_rideMinutes_25 : decode cX1_rideMinutes 25 = .ok (.isub, 1) := by decide +kernel
theorem dX1_rideMinutes_26 : decode cX1_rideMinutes 26 = .ok (.iload_n 2, 1) := by decide +kernel
theorem dX1_rideMinutes_27 : decode cX1_rideMinutes 27 = .ok (.idiv, 1) := by decide +kernel
theorem dX1_rideMinutes_28 : decode cX1_rideMinutes 28 = .ok (.istore_n 3, 1) := by decide +kernel
theorem dX1_rideMinutes_29 : decode cX1_rideMinutes 29 = .ok (.aload_n 0, 1) := by decide +kernel
theorem dX1_rideMinutes_30 : decode cX1_rideMinutes 30 = .ok (.iload_n 1, 1) := by decide +kernel
theorem dX1_rideMinutes_31 : decode cX1_rideMinutes 31 = .ok (.invokevirtual 19, 3) := by decide +kernel
theorem dX1_rideMinutes_34 : decode cX1_rideMinutes 34 = .ok (.ifCond .eq 9, 3) := by decide +kernel
theorem dX1_rideMinutes_37 : decode cX1_rideMinutes 37 = .ok (.iconst 2, 1) := by decide +kernel
theorem dX1_rideMinutes_38 : decode cX1_rideMinutes 38 = .ok (.iload_n 3, 1) := by decide +kernel
theorem dX1_rideMinutes_39 : decode cX1_rideMinutes 39 = .ok (.imul, 1) := by decide +kernel
theorem dX1_rideMinutes_40 : decode cX1_rideMinutes 40 = .ok (.goto 4, 3) := by decide +kernel
theorem dX1_rideMinutes_43 : decode cX1_rideMinutes 43 = .ok (.iload_n 3, 1) := by decide +kernel
theorem dX1_rideMinutes_44 : decode cX1_rideMinutes 44 = .ok (.ireturn, 1) := by decide +kernel
theorem dX1_pullMinutes_0 : decode cX1_pullMinutes 0 = .ok (.aload_n 0, 1) := by decide +kernel
theorem dX1_pullMinutes_1 : decode cX1_pullMinutes 1 = .ok (.getfield 16, 3) := by decide +kernel
theorem dX1_pullMinutes_4 : decode cX1_pullMinutes 4 = .ok (.bipush 9, 2) := by decide +kernel
theorem dX1_pullMinutes_6 : decode cX1_pullMinutes 6 = .ok (.iadd, 1) := by decide +kernel
theorem dX1_pullMinutes_7 : decode cX1_pullMinutes 7 = .ok (.bipush 10, 2) := by decide +kernel
theorem dX1_pullMinutes_9 : decode cX1_pullMinutes 9 = .ok (.idiv, 1) := by decide +kernel
theorem dX1_pullMinutes_10 : decode cX1_pullMinutes 10 = .ok (.ireturn, 1) := by decide +kernel
theorem dX2_init_0 : decode cX2_init 0 = .ok (.aload_n 0, 1) := by decide +kernel
theorem dX2_init_1 : decode cX2_init 1 = .ok (.invokespecial 1, 3) := by decide +kernel
theorem dX2_init_4 : decode cX2_init 4 = .ok (.return_, 1) := by decide +kernel
theorem dX2_distanceTo_0 : decode cX2_distanceTo 0 = .ok (.aload_n 0, 1) := by decide +kernel
theorem dX2_distanceTo_1 : decode cX2_distanceTo 1 = .ok (.getfield 7, 3) := by decide +kernel
theorem dX2_distanceTo_4 : decode cX2_distanceTo 4 = .ok (.aload_n 1, 1) := by decide +kernel
theorem dX2_distanceTo_5 : decode cX2_distanceTo 5 = .ok (.getfield 7, 3) := by decide +kernel
theorem dX2_distanceTo_8 : decode cX2_distanceTo 8 = .ok (.isub, 1) := by decide +kernel
theorem dX2_distanceTo_9 : decode cX2_distanceTo 9 = .ok (.invokestatic 13, 3) := by decide +kernel
theorem dX2_distanceTo_12 : decode cX2_distanceTo 12 = .ok (.aload_n 0, 1) := by decide +kernel
theorem dX2_distanceTo_13 : decode cX2_distanceTo 13 = .ok (.getfield 19, 3) := by decide +kernel
theorem dX2_distanceTo_16 : decode cX2_distanceTo 16 = .ok (.aload_n 1, 1) := by decide +kernel
theorem dX2_distanceTo_17 : decode cX2_distanceTo 17 = .ok (.getfield 19, 3) := by decide +kernel
theorem dX2_distanceTo_20 : decode cX2_distanceTo 20 = .ok (.isub, 1) := by decide +kernel
theorem dX2_distanceTo_21 : decode cX2_distanceTo 21 = .ok (.invokestatic 13, 3) := by decide +kernel
theorem dX2_distanceTo_24 : decode cX2_distanceTo 24 = .ok (.iadd, 1) := by decide +kernel
theorem dX2_distanceTo_25 : decode cX2_distanceTo 25 = .ok (.ireturn, 1) := by decide +kernel
theorem dX3_init_0 : decode cX3_init 0 = .ok (.aload_n 0, 1) := by decide +kernel
theorem dX3_init_1 : decode cX3_init 1 = .ok (.invokespecial 1, 3) := by decide +kernel
theorem dX3_init_4 : decode cX3_init 4 = .ok (.aload_n 0, 1) := by decide +kernel
theorem dX3_init_5 : decode cX3_init 5 = .ok (.new 7, 3) := by decide +kernel
theorem dX3_init_8 : decode cX3_init 8 = .ok (.dup, 1) := by decide +kernel
theorem dX3_init_9 : decode cX3_init 9 = .ok (.invokespecial 9, 3) := by decide +kernel
theorem dX3_init_12 : decode cX3_init 12 = .ok (.putfield 10, 3) := by decide +kernel
theorem dX3_init_15 : decode cX3_init 15 = .ok (.return_, 1) := by decide +kernel
theorem dX3_planRoute_0 : decode cX3_planRoute 0 = .ok (.aload_n 0, 1) := by decide +kernel
theorem dX3_planRoute_1 : decode cX3_planRoute 1 = .ok (.getfield 10, 3) := by decide +kernel
theorem dX3_planRoute_4 : decode cX3_planRoute 4 = .ok (.aload_n 1, 1) := by decide +kernel
theorem dX3_planRoute_5 : decode cX3_planRoute 5 = .ok (.aload_n 0, 1) := by decide +kernel
theorem dX3_planRoute_6 : decode cX3_planRoute 6 = .ok (.getfield 16, 3) := by decide +kernel
theorem dX3_planRoute_9 : decode cX3_planRoute 9 = .ok (.aload_n 0, 1) := by decide +kernel
theorem dX3_planRoute_10 : decode cX3_planRoute 10 = .ok (.getfield 20, 3) := by decide +kernel
theorem dX3_planRoute_13 : decode cX3_planRoute 13 = .ok (.invokevirtual 23, 3) := by decide +kernel
theorem dX3_planRoute_16 : decode cX3_planRoute 16 = .ok (.return_, 1) := by decide +kernel
theorem dX4_init_0 : decode cX4_init 0 = .ok (.aload_n 0, 1) := by decide +kernel
theorem dX4_init_1 : decode cX4_init 1 = .ok (.invokespecial 3, 3) := by decide +kernel
theorem dX4_init_4 : decode cX4_init 4 = .ok (.aload_n 0, 1) := by decide +kernel
theorem dX4_init_5 : decode cX4_init 5 = .ok (.bipush 8, 2) := by decide +kernel
theorem dX4_init_7 : decode cX4_init 7 = .ok (.newarray .int, 2) := by decide +kernel
theorem dX4_init_9 : decode cX4_init 9 = .ok (.putfield 9, 3) := by decide +kernel
theorem dX4_init_12 : decode cX4_init 12 = .ok (.aload_n 0, 1) := by decide +kernel
theorem dX4_init_13 : decode cX4_init 13 = .ok (.bipush 8, 2) := by decide +kernel
theorem dX4_init_15 : decode cX4_init 15 = .ok (.newarray .int, 2) := by decide +kernel
theorem dX4_init_17 : decode cX4_init 17 = .ok (.putfield 15, 3) := by decide +kernel
theorem dX4_init_20 : decode cX4_init 20 = .ok (.return_, 1) := by decide +kernel
theorem dX4_plan_0 : decode cX4_plan 0 = .ok (.iconst 0, 1) := by decide +kernel
theorem dX4_plan_1 : decode cX4_plan 1 = .ok (.istore 4, 2) := by decide +kernel
theorem dX4_plan_3 : decode cX4_plan 3 = .ok (.iload 4, 2) := by decide +kernel
theorem dX4_plan_5 : decode cX4_plan 5 = .ok (.bipush 8, 2) := by decide +kernel
theorem dX4_plan_7 : decode cX4_plan 7 = .ok (.if_icmp .ge 35, 3) := by decide +kernel
theorem dX4_plan_10 : decode cX4_plan 10 = .ok (.aload_n 0, 1) := by decide +kernel
theorem dX4_plan_11 : decode cX4_plan 11 = .ok (.getfield 9, 3) := by decide +kernel
theorem dX4_plan_14 : decode cX4_plan 14 = .ok (.iload 4, 2) := by decide +kernel
theorem dX4_plan_16 : decode cX4_plan 16 = .ok (.iload 4, 2) := by decide +kernel
theorem dX4_plan_18 : decode cX4_plan 18 = .ok (.iload_n 2, 1) := by decide +kernel
theorem dX4_plan_19 : decode cX4_plan 19 = .ok (.if_icmp .ne 7, 3) := by decide +kernel
theorem dX4_plan_22 : decode cX4_plan 22 = .ok (.iconst 0, 1) := by decide +kernel
theorem dX4_plan_23 : decode cX4_plan 23 = .ok (.goto 4, 3) := by decide +kernel
theorem dX4_plan_26 : decode cX4_plan 26 = .ok (.iconst (-1), 1) := by decide +kernel
theorem dX4_plan_27 : decode cX4_plan 27 = .ok (.iastore, 1) := by decide +kernel
theorem dX4_plan_28 : decode cX4_plan 28 = .ok (.aload_n 0, 1) := by decide +kernel
theorem dX4_plan_29 : decode cX4_plan 29 = .ok (.getfield 15, 3) := by decide +kernel
theorem dX4_plan_32 : decode cX4_plan 32 = .ok (.iload 4, 2) := by decide +kernel
theorem dX4_plan_34 : decode cX4_plan 34 = .ok (.iconst (-1), 1) := by decide +kernel
theorem dX4_plan_35 : decode cX4_plan 35 = .ok (.iastore, 1) := by decide +kernel
theorem dX4_plan_36 : decode cX4_plan 36 = .ok (.iinc 4 1, 3) := by decide +kernel
theorem dX4_plan_39 : decode cX4_plan 39 = .ok (.goto (-36), 3) := by decide +kernel
theorem dX4_plan_42 : decode cX4_plan 42 = .ok (.iconst 1, 1) := by decide +kernel
theorem dX4_plan_43 : decode cX4_plan 43 = .ok (.istore 4, 2) := by decide +kernel
theorem dX4_plan_45 : decode cX4_plan 45 = .ok (.iload 4, 2) := by decide +kernel
theorem dX4_plan_47 : decode cX4_plan 47 = .ok (.aload_n 1, 1) := by decide +kernel
theorem dX4_plan_48 : decode cX4_plan 48 = .ok (.getfield 18, 3) := by decide +kernel
theorem dX4_plan_51 : decode cX4_plan 51 = .ok (.if_icmp .ge 43, 3) := by decide +kernel
theorem dX4_plan_54 : decode cX4_plan 54 = .ok (.iconst 0, 1) := by decide +kernel
theorem dX4_plan_55 : decode cX4_plan 55 = .ok (.istore 5, 2) := by decide +kernel
theorem dX4_plan_57 : decode cX4_plan 57 = .ok (.iload 5, 2) := by decide +kernel
theorem dX4_plan_59 : decode cX4_plan 59 = .ok (.aload_n 1, 1) := by decide +kernel
theorem dX4_plan_60 : decode cX4_plan 60 = .ok (.getfield 24, 3) := by decide +kernel
theorem dX4_plan_63 : decode cX4_plan 63 = .ok (.if_icmp .ge 25, 3) := by decide +kernel
theorem dX4_plan_66 : decode cX4_plan 66 = .ok (.aload_n 0, 1) := by decide +kernel
theorem dX4_plan_67 : decode cX4_plan 67 = .ok (.aload_n 1, 1) := by decide +kernel
theorem dX4_plan_68 : decode cX4_plan 68 = .ok (.getfield 27, 3) := by decide +kernel
theorem dX4_plan_71 : decode cX4_plan 71 = .ok (.iload 5, 2) := by decide +kernel
theorem dX4_plan_73 : decode cX4_plan 73 = .ok (.aaload, 1) := by decide +kernel
theorem dX4_plan_74 : decode cX4_plan 74 = .ok (.iload 5, 2) := by decide +kernel
theorem dX4_plan_76 : decode cX4_plan 76 = .ok (.iload 4, 2) := by decide +kernel
theorem dX4_plan_78 : decode cX4_plan 78 = .ok (.iload_n 3, 1) := by decide +kernel
theorem dX4_plan_79 : decode cX4_plan 79 = .ok (.invokevirtual 30, 3) := by decide +kernel
theorem dX4_plan_82 : decode cX4_plan 82 = .ok (.iinc 5 1, 3) := by decide +kernel
theorem dX4_plan_85 : decode cX4_plan 85 = .ok (.goto (-28), 3) := by decide +kernel
theorem dX4_plan_88 : decode cX4_plan 88 = .ok (.iinc 4 1, 3) := by decide +kernel
theorem dX4_plan_91 : decode cX4_plan 91 = .ok (.goto (-46), 3) := by decide +kernel
theorem dX4_plan_94 : decode cX4_plan 94 = .ok (.return_, 1) := by decide +kernel
theorem dX4_extend_0 : decode cX4_extend 0 = .ok (.aload_n 1, 1) := by decide +kernel
theorem dX4_extend_1 : decode cX4_extend 1 = .ok (.getfield 34, 3) := by decide +kernel
theorem dX4_extend_4 : decode cX4_extend 4 = .ok (.istore 5, 2) := by decide +kernel
theorem dX4_extend_6 : decode cX4_extend 6 = .ok (.iload 5, 2) := by decide +kernel
theorem dX4_extend_8 : decode cX4_extend 8 = .ok (.iconst 0, 1) := by decide +kernel
theorem dX4_extend_9 : decode cX4_extend 9 = .ok (.bipush 7, 2) := by decide +kernel
theorem dX4_extend_11 : decode cX4_extend 11 = .ok (.invokestatic 39, 3) := by decide +kernel
theorem dX4_extend_14 : decode cX4_extend 14 = .ok (.ifCond .eq 14, 3) := by decide +kernel
theorem dX4_extend_17 : decode cX4_extend 17 = .ok (.aload_n 0, 1) := by decide +kernel
theorem dX4_extend_18 : decode cX4_extend 18 = .ok (.getfield 9, 3) := by decide +kernel
theorem dX4_extend_21 : decode cX4_extend 21 = .ok (.iload 5, 2) := by decide +kernel
theorem dX4_extend_23 : decode cX4_extend 23 = .ok (.iaload, 1) := by decide +kernel
theorem dX4_extend_24 : decode cX4_extend 24 = .ok (.iconst (-1), 1) := by decide +kernel
theorem dX4_extend_25 : decode cX4_extend 25 = .ok (.if_icmp .eq 4, 3) := by decide +kernel
theorem dX4_extend_28 : decode cX4_extend 28 = .ok (.return_, 1) := by decide +kernel
theorem dX4_extend_29 : decode cX4_extend 29 = .ok (.aload_n 1, 1) := by decide +kernel
theorem dX4_extend_30 : decode cX4_extend 30 = .ok (.iload 4, 2) := by decide +kernel
theorem dX4_extend_32 : decode cX4_extend 32 = .ok (.invokevirtual 43, 3) := by decide +kernel
theorem dX4_extend_35 : decode cX4_extend 35 = .ok (.ifCond .eq 33, 3) := by decide +kernel
theorem dX4_extend_38 : decode cX4_extend 38 = .ok (.aload_n 0, 1) := by decide +kernel
theorem dX4_extend_39 : decode cX4_extend 39 = .ok (.aload_n 1, 1) := by decide +kernel
theorem dX4_extend_40 : decode cX4_extend 40 = .ok (.getfield 47, 3) := by decide +kernel
theorem dX4_extend_43 : decode cX4_extend 43 = .ok (.invokevirtual 50, 3) := by decide +kernel
theorem dX4_extend_46 : decode cX4_extend 46 = .ok (.iload_n 3, 1) := by decide +kernel
theorem dX4_extend_47 : decode cX4_extend 47 = .ok (.iconst 1, 1) := by decide +kernel
theorem dX4_extend_48 : decode cX4_extend 48 = .ok (.isub, 1) := by decide +kernel
theorem dX4_extend_49 : decode cX4_extend 49 = .ok (.if_icmp .ne 19, 3) := by decide +kernel
theorem dX4_extend_52 : decode cX4_extend 52 = .ok (.aload_n 0, 1) := by decide +kernel
theorem dX4_extend_53 : decode cX4_extend 53 = .ok (.getfield 9, 3) := by decide +kernel
theorem dX4_extend_56 : decode cX4_extend 56 = .ok (.iload 5, 2) := by decide +kernel
theorem dX4_extend_58 : decode cX4_extend 58 = .ok (.iload_n 3, 1) := by decide +kernel
theorem dX4_extend_59 : decode cX4_extend 59 = .ok (.iastore, 1) := by decide +kernel
theorem dX4_extend_60 : decode cX4_extend 60 = .ok (.aload_n 0, 1) := by decide +kernel
theorem dX4_extend_61 : decode cX4_extend 61 = .ok (.getfield 15, 3) := by decide +kernel
theorem dX4_extend_64 : decode cX4_extend 64 = .ok (.iload 5, 2) := by decide +kernel
theorem dX4_extend_66 : decode cX4_extend 66 = .ok (.iload_n 2, 1) := by decide +kernel
theorem dX4_extend_67 : decode cX4_extend 67 = .ok (.iastore, 1) := by decide +kernel
theorem dX4_extend_68 : decode cX4_extend 68 = .ok (.return_, 1) := by decide +kernel
theorem dX4_linesFrom_0 : decode cX4_linesFrom 0 = .ok (.iload_n 1, 1) := by decide +kernel
theorem dX4_linesFrom_1 : decode cX4_linesFrom 1 = .ok (.iconst 0, 1) := by decide +kernel
theorem dX4_linesFrom_2 : decode cX4_linesFrom 2 = .ok (.bipush 7, 2) := by decide +kernel
theorem dX4_linesFrom_4 : decode cX4_linesFrom 4 = .ok (.invokestatic 39, 3) := by decide +kernel
theorem dX4_linesFrom_7 : decode cX4_linesFrom 7 = .ok (.ifCond .eq 12, 3) := by decide +kernel
theorem dX4_linesFrom_10 : decode cX4_linesFrom 10 = .ok (.aload_n 0, 1) := by decide +kernel
theorem dX4_linesFrom_11 : decode cX4_linesFrom 11 = .ok (.getfield 9, 3) := by decide +kernel
theorem dX4_linesFrom_14 : decode cX4_linesFrom 14 = .ok (.iload_n 1, 1) := by decide +kernel
theorem dX4_linesFrom_15 : decode cX4_linesFrom 15 = .ok (.iaload, 1) := by decide +kernel
theorem dX4_linesFrom_16 : decode cX4_linesFrom 16 = .ok (.goto 4, 3) := by decide +kernel
theorem dX4_linesFrom_19 : decode cX4_linesFrom 19 = .ok (.iconst (-1), 1) := by decide +kernel
theorem dX4_linesFrom_20 : decode cX4_linesFrom 20 = .ok (.ireturn, 1) := by decide +kernel
theorem dX4_firstFrom_0 : decode cX4_firstFrom 0 = .ok (.iload_n 1, 1) := by decide +kernel
theorem dX4_firstFrom_1 : decode cX4_firstFrom 1 = .ok (.iconst 0, 1) := by decide +kernel
theorem dX4_firstFrom_2 : decode cX4_firstFrom 2 = .ok (.bipush 7, 2) := by decide +kernel
theorem dX4_firstFrom_4 : decode cX4_firstFrom 4 = .ok (.invokestatic 39, 3) := by decide +kernel
theorem dX4_firstFrom_7 : decode cX4_firstFrom 7 = .ok (.ifCond .eq 12, 3) := by decide +kernel
theorem dX4_firstFrom_10 : decode cX4_firstFrom 10 = .ok (.aload_n 0, 1) := by decide +kernel
theorem dX4_firstFrom_11 : decode cX4_firstFrom 11 = .ok (.getfield 15, 3) := by decide +kernel
theorem dX4_firstFrom_14 : decode cX4_firstFrom 14 = .ok (.iload_n 1, 1) := by decide +kernel
theorem dX4_firstFrom_15 : decode cX4_firstFrom 15 = .ok (.iaload, 1) := by decide +kernel
theorem dX4_firstFrom_16 : decode cX4_firstFrom 16 = .ok (.goto 4, 3) := by decide +kernel
theorem dX4_firstFrom_19 : decode cX4_firstFrom 19 = .ok (.iconst (-1), 1) := by decide +kernel
theorem dX4_firstFrom_20 : decode cX4_firstFrom 20 = .ok (.ireturn, 1) := by decide +kernel
theorem dX6_init_0 : decode cX6_init 0 = .ok (.aload_n 0, 1) := by decide +kernel
theorem dX6_init_1 : decode cX6_init 1 = .ok (.invokespecial 3, 3) := by decide +kernel
theorem dX6_init_4 : decode cX6_init 4 = .ok (.aload_n 0, 1) := by decide +kernel
theorem dX6_init_5 : decode cX6_init 5 = .ok (.iconst (-1), 1) := by decide +kernel
theorem dX6_init_6 : decode cX6_init 6 = .ok (.putfield 9, 3) := by decide +kernel
theorem dX6_init_9 : decode cX6_init 9 = .ok (.return_, 1) := by decide +kernel
theorem dX6_copyFrom_0 : decode cX6_copyFrom 0 = .ok (.aload_n 0, 1) := by decide +kernel
theorem dX6_copyFrom_1 : decode cX6_copyFrom 1 = .ok (.aload_n 1, 1) := by decide +kernel
theorem dX6_copyFrom_2 : decode cX6_copyFrom 2 = .ok (.getfield 15, 3) := by decide +kernel
theorem dX6_copyFrom_5 : decode cX6_copyFrom 5 = .ok (.putfield 15, 3) := by decide +kernel
theorem dX6_copyFrom_8 : decode cX6_copyFrom 8 = .ok (.aload_n 0, 1) := by decide +kernel
theorem dX6_copyFrom_9 : decode cX6_copyFrom 9 = .ok (.aload_n 1, 1) := by decide +kernel
theorem dX6_copyFrom_10 : decode cX6_copyFrom 10 = .ok (.getfield 18, 3) := by decide +kernel
theorem dX6_copyFrom_13 : decode cX6_copyFrom 13 = .ok (.putfield 18, 3) := by decide +kernel
theorem dX6_copyFrom_16 : decode cX6_copyFrom 16 = .ok (.aload_n 0, 1) := by decide +kernel
theorem dX6_copyFrom_17 : decode cX6_copyFrom 17 = .ok (.aload_n 1, 1) := by decide +kernel
theorem dX6_copyFrom_18 : decode cX6_copyFrom 18 = .ok (.getfield 21, 3) := by decide +kernel
theorem dX6_copyFrom_21 : decode cX6_copyFrom 21 = .ok (.putfield 21, 3) := by decide +kernel
theorem dX6_copyFrom_24 : decode cX6_copyFrom 24 = .ok (.aload_n 0, 1) := by decide +kernel
theorem dX6_copyFrom_25 : decode cX6_copyFrom 25 = .ok (.aload_n 1, 1) := by decide +kernel
theorem dX6_copyFrom_26 : decode cX6_copyFrom 26 = .ok (.getfield 24, 3) := by decide +kernel
theorem dX6_copyFrom_29 : decode cX6_copyFrom 29 = .ok (.putfield 24, 3) := by decide +kernel
theorem dX6_copyFrom_32 : decode cX6_copyFrom 32 = .ok (.aload_n 0, 1) := by decide +kernel
theorem dX6_copyFrom_33 : decode cX6_copyFrom 33 = .ok (.aload_n 1, 1) := by decide +kernel
theorem dX6_copyFrom_34 : decode cX6_copyFrom 34 = .ok (.getfield 27, 3) := by decide +kernel
theorem dX6_copyFrom_37 : decode cX6_copyFrom 37 = .ok (.putfield 27, 3) := by decide +kernel
theorem dX6_copyFrom_40 : decode cX6_copyFrom 40 = .ok (.aload_n 0, 1) := by decide +kernel
theorem dX6_copyFrom_41 : decode cX6_copyFrom 41 = .ok (.aload_n 1, 1) := by decide +kernel
theorem dX6_copyFrom_42 : decode cX6_copyFrom 42 = .ok (.getfield 9, 3) := by decide +kernel
theorem dX6_copyFrom_45 : decode cX6_copyFrom 45 = .ok (.putfield 9, 3) := by decide +kernel
theorem dX6_copyFrom_48 : decode cX6_copyFrom 48 = .ok (.return_, 1) := by decide +kernel
theorem dX6_isUnderWay_0 : decode cX6_isUnderWay 0 = .ok (.aload_n 0, 1) := by decide +kernel
theorem dX6_isUnderWay_1 : decode cX6_isUnderWay 1 = .ok (.getfield 15, 3) := by decide +kernel
theorem dX6_isUnderWay_4 : decode cX6_isUnderWay 4 = .ok (.ifCond .eq 11, 3) := by decide +kernel
theorem dX6_isUnderWay_7 : decode cX6_isUnderWay 7 = .ok (.aload_n 0, 1) := by decide +kernel
theorem dX6_isUnderWay_8 : decode cX6_isUnderWay 8 = .ok (.getfield 15, 3) := by decide +kernel
theorem dX6_isUnderWay_11 : decode cX6_isUnderWay 11 = .ok (.iconst 1, 1) := by decide +kernel
theorem dX6_isUnderWay_12 : decode cX6_isUnderWay 12 = .ok (.if_icmp .ne 7, 3) := by decide +kernel
theorem dX6_isUnderWay_15 : decode cX6_isUnderWay 15 = .ok (.iconst 1, 1) := by decide +kernel
theorem dX6_isUnderWay_16 : decode cX6_isUnderWay 16 = .ok (.goto 4, 3) := by decide +kernel
theorem dX6_isUnderWay_19 : decode cX6_isUnderWay 19 = .ok (.iconst 0, 1) := by decide +kernel
theorem dX6_isUnderWay_20 : decode cX6_isUnderWay 20 = .ok (.ireturn, 1) := by decide +kernel
theorem dX6_beginWait_0 : decode cX6_beginWait 0 = .ok (.aload_n 0, 1) := by decide +kernel
theorem dX6_beginWait_1 : decode cX6_beginWait 1 = .ok (.iconst 0, 1) := by decide +kernel
theorem dX6_beginWait_2 : decode cX6_beginWait 2 = .ok (.putfield 15, 3) := by decide +kernel
theorem dX6_beginWait_5 : decode cX6_beginWait 5 = .ok (.aload_n 0, 1) := by decide +kernel
theorem dX6_beginWait_6 : decode cX6_beginWait 6 = .ok (.iload_n 1, 1) := by decide +kernel
theorem dX6_beginWait_7 : decode cX6_beginWait 7 = .ok (.putfield 18, 3) := by decide +kernel
theorem dX6_beginWait_10 : decode cX6_beginWait 10 = .ok (.aload_n 0, 1) := by decide +kernel
theorem dX6_beginWait_11 : decode cX6_beginWait 11 = .ok (.iconst (-1), 1) := by decide +kernel
theorem dX6_beginWait_12 : decode cX6_beginWait 12 = .ok (.putfield 21, 3) := by decide +kernel
theorem dX6_beginWait_15 : decode cX6_beginWait 15 = .ok (.aload_n 0, 1) := by decide +kernel
theorem dX6_beginWait_16 : decode cX6_beginWait 16 = .ok (.iconst 0, 1) := by decide +kernel
theorem dX6_beginWait_17 : decode cX6_beginWait 17 = .ok (.putfield 24, 3) := by decide +kernel
theorem dX6_beginWait_20 : decode cX6_beginWait 20 = .ok (.return_, 1) := by decide +kernel
theorem dX6_beginRide_0 : decode cX6_beginRide 0 = .ok (.aload_n 0, 1) := by decide +kernel
theorem dX6_beginRide_1 : decode cX6_beginRide 1 = .ok (.iconst 1, 1) := by decide +kernel
theorem dX6_beginRide_2 : decode cX6_beginRide 2 = .ok (.putfield 15, 3) := by decide +kernel
theorem dX6_beginRide_5 : decode cX6_beginRide 5 = .ok (.aload_n 0, 1) := by decide +kernel
theorem dX6_beginRide_6 : decode cX6_beginRide 6 = .ok (.iconst (-1), 1) := by decide +kernel
theorem dX6_beginRide_7 : decode cX6_beginRide 7 = .ok (.putfield 18, 3) := by decide +kernel
theorem dX6_beginRide_10 : decode cX6_beginRide 10 = .ok (.aload_n 0, 1) := by decide +kernel
theorem dX6_beginRide_11 : decode cX6_beginRide 11 = .ok (.iload_n 1, 1) := by decide +kernel
theorem dX6_beginRide_12 : decode cX6_beginRide 12 = .ok (.putfield 21, 3) := by decide +kernel
theorem dX6_beginRide_15 : decode cX6_beginRide 15 = .ok (.aload_n 0, 1) := by decide +kernel
theorem dX6_beginRide_16 : decode cX6_beginRide 16 = .ok (.iload_n 2, 1) := by decide +kernel
theorem dX6_beginRide_17 : decode cX6_beginRide 17 = .ok (.putfield 24, 3) := by decide +kernel
theorem dX6_beginRide_20 : decode cX6_beginRide 20 = .ok (.aload_n 0, 1) := by decide +kernel
theorem dX6_beginRide_21 : decode cX6_beginRide 21 = .ok (.dup, 1) := by decide +kernel
theorem dX6_beginRide_22 : decode cX6_beginRide 22 = .ok (.getfield 27, 3) := by decide +kernel
theorem dX6_beginRide_25 : decode cX6_beginRide 25 = .ok (.iconst 1, 1) := by decide +kernel
theorem dX6_beginRide_26 : decode cX6_beginRide 26 = .ok (.iadd, 1) := by decide +kernel
theorem dX6_beginRide_27 : decode cX6_beginRide 27 = .ok (.putfield 27, 3) := by decide +kernel
theorem dX6_beginRide_30 : decode cX6_beginRide 30 = .ok (.return_, 1) := by decide +kernel
theorem dX6_arrive_0 : decode cX6_arrive 0 = .ok (.aload_n 0, 1) := by decide +kernel
theorem dX6_arrive_1 : decode cX6_arrive 1 = .ok (.iconst 2, 1) := by decide +kernel
theorem dX6_arrive_2 : decode cX6_arrive 2 = .ok (.putfield 15, 3) := by decide +kernel
theorem dX6_arrive_5 : decode cX6_arrive 5 = .ok (.aload_n 0, 1) := by decide +kernel
theorem dX6_arrive_6 : decode cX6_arrive 6 = .ok (.iload_n 1, 1) := by decide +kernel
theorem dX6_arrive_7 : decode cX6_arrive 7 = .ok (.putfield 18, 3) := by decide +kernel
theorem dX6_arrive_10 : decode cX6_arrive 10 = .ok (.aload_n 0, 1) := by decide +kernel
theorem dX6_arrive_11 : decode cX6_arrive 11 = .ok (.iconst (-1), 1) := by decide +kernel
theorem dX6_arrive_12 : decode cX6_arrive 12 = .ok (.putfield 21, 3) := by decide +kernel
theorem dX6_arrive_15 : decode cX6_arrive 15 = .ok (.aload_n 0, 1) := by decide +kernel
theorem dX6_arrive_16 : decode cX6_arrive 16 = .ok (.iconst 0, 1) := by decide +kernel
theorem dX6_arrive_17 : decode cX6_arrive 17 = .ok (.putfield 24, 3) := by decide +kernel
theorem dX6_arrive_20 : decode cX6_arrive 20 = .ok (.aload_n 0, 1) := by decide +kernel
theorem dX6_arrive_21 : decode cX6_arrive 21 = .ok (.iload_n 2, 1) := by decide +kernel
theorem dX6_arrive_22 : decode cX6_arrive 22 = .ok (.putfield 9, 3) := by decide +kernel
theorem dX6_arrive_25 : decode cX6_arrive 25 = .ok (.return_, 1) := by decide +kernel
theorem dX6_giveUp_0 : decode cX6_giveUp 0 = .ok (.aload_n 0, 1) := by decide +kernel
theorem dX6_giveUp_1 : decode cX6_giveUp 1 = .ok (.iconst 3, 1) := by decide +kernel
theorem dX6_giveUp_2 : decode cX6_giveUp 2 = .ok (.putfield 15, 3) := by decide +kernel
theorem dX6_giveUp_5 : decode cX6_giveUp 5 = .ok (.aload_n 0, 1) := by decide +kernel
theorem dX6_giveUp_6 : decode cX6_giveUp 6 = .ok (.iconst (-1), 1) := by decide +kernel
theorem dX6_giveUp_7 : decode cX6_giveUp 7 = .ok (.putfield 18, 3) := by decide +kernel
theorem dX6_giveUp_10 : decode cX6_giveUp 10 = .ok (.aload_n 0, 1) := by decide +kernel
theorem dX6_giveUp_11 : decode cX6_giveUp 11 = .ok (.iconst 0, 1) := by decide +kernel
theorem dX6_giveUp_12 : decode cX6_giveUp 12 = .ok (.putfield 24, 3) := by decide +kernel
theorem dX6_giveUp_15 : decode cX6_giveUp 15 = .ok (.return_, 1) := by decide +kernel
theorem dX7_init_0 : decode cX7_init 0 = .ok (.aload_n 0, 1) := by decide +kernel
theorem dX7_init_1 : decode cX7_init 1 = .ok (.invokespecial 3, 3) := by decide +kernel
theorem dX7_init_4 : decode cX7_init 4 = .ok (.aload_n 0, 1) := by decide +kernel
theorem dX7_init_5 : decode cX7_init 5 = .ok (.iconst 3, 1) := by decide +kernel
theorem dX7_init_6 : decode cX7_init 6 = .ok (.newarray .int, 2) := by decide +kernel
theorem dX7_init_8 : decode cX7_init 8 = .ok (.putfield 9, 3) := by decide +kernel
theorem dX7_init_11 : decode cX7_init 11 = .ok (.aload_n 0, 1) := by decide +kernel
theorem dX7_init_12 : decode cX7_init 12 = .ok (.iconst 3, 1) := by decide +kernel
theorem dX7_init_13 : decode cX7_init 13 = .ok (.newarray .int, 2) := by decide +kernel
theorem dX7_init_15 : decode cX7_init 15 = .ok (.putfield 15, 3) := by decide +kernel
theorem dX7_init_18 : decode cX7_init 18 = .ok (.return_, 1) := by decide +kernel
theorem dX7_copyFrom_0 : decode cX7_copyFrom 0 = .ok (.aload_n 0, 1) := by decide +kernel
theorem dX7_copyFrom_1 : decode cX7_copyFrom 1 = .ok (.aload_n 1, 1) := by decide +kernel
theorem dX7_copyFrom_2 : decode cX7_copyFrom 2 = .ok (.getfield 18, 3) := by decide +kernel
theorem dX7_copyFrom_5 : decode cX7_copyFrom 5 = .ok (.putfield 18, 3) := by decide +kernel
theorem dX7_copyFrom_8 : decode cX7_copyFrom 8 = .ok (.aload_n 0, 1) := by decide +kernel
theorem dX7_copyFrom_9 : decode cX7_copyFrom 9 = .ok (.aload_n 1, 1) := by decide +kernel
theorem dX7_copyFrom_10 : decode cX7_copyFrom 10 = .ok (.getfield 22, 3) := by decide +kernel
theorem dX7_copyFrom_13 : decode cX7_copyFrom 13 = .ok (.putfield 22, 3) := by decide +kernel
theorem dX7_copyFrom_16 : decode cX7_copyFrom 16 = .ok (.iconst 0, 1) := by decide +kernel
theorem dX7_copyFrom_17 : decode cX7_copyFrom 17 = .ok (.istore_n 2, 1) := by decide +kernel
theorem dX7_copyFrom_18 : decode cX7_copyFrom 18 = .ok (.iload_n 2, 1) := by decide +kernel
theorem dX7_copyFrom_19 : decode cX7_copyFrom 19 = .ok (.aload_n 0, 1) := by decide +kernel
theorem dX7_copyFrom_20 : decode cX7_copyFrom 20 = .ok (.getfield 22, 3) := by decide +kernel
theorem dX7_copyFrom_23 : decode cX7_copyFrom 23 = .ok (.if_icmp .ge 33, 3) := by decide +kernel
theorem dX7_copyFrom_26 : decode cX7_copyFrom 26 = .ok (.aload_n 0, 1) := by decide +kernel
theorem dX7_copyFrom_27 : decode cX7_copyFrom 27 = .ok (.getfield 9, 3) := by decide +kernel
theorem dX7_copyFrom_30 : decode cX7_copyFrom 30 = .ok (.iload_n 2, 1) := by decide +kernel
theorem dX7_copyFrom_31 : decode cX7_copyFrom 31 = .ok (.aload_n 1, 1) := by decide +kernel
theorem dX7_copyFrom_32 : decode cX7_copyFrom 32 = .ok (.getfield 9, 3) := by decide +kernel
theorem dX7_copyFrom_35 : decode cX7_copyFrom 35 = .ok (.iload_n 2, 1) := by decide +kernel
theorem dX7_copyFrom_36 : decode cX7_copyFrom 36 = .ok (.iaload, 1) := by decide +kernel
theorem dX7_copyFrom_37 : decode cX7_copyFrom 37 = .ok (.iastore, 1) := by decide +kernel
theorem dX7_copyFrom_38 : decode cX7_copyFrom 38 = .ok (.aload_n 0, 1) := by decide +kernel
theorem dX7_copyFrom_39 : decode cX7_copyFrom 39 = .ok (.getfield 15, 3) := by decide +kernel
theorem dX7_copyFrom_42 : decode cX7_copyFrom 42 = .ok (.iload_n 2, 1) := by decide +kernel
theorem dX7_copyFrom_43 : decode cX7_copyFrom 43 = .ok (.aload_n 1, 1) := by decide +kernel
theorem dX7_copyFrom_44 : decode cX7_copyFrom 44 = .ok (.getfield 15, 3) := by decide +kernel
theorem dX7_copyFrom_47 : decode cX7_copyFrom 47 = .ok (.iload_n 2, 1) := by decide +kernel
theorem dX7_copyFrom_48 : decode cX7_copyFrom 48 = .ok (.iaload, 1) := by decide +kernel
theorem dX7_copyFrom_49 : decode cX7_copyFrom 49 = .ok (.iastore, 1) := by decide +kernel
theorem dX7_copyFrom_50 : decode cX7_copyFrom 50 = .ok (.iinc 2 1, 3) := by decide +kernel
theorem dX7_copyFrom_53 : decode cX7_copyFrom 53 = .ok (.goto (-35), 3) := by decide +kernel
theorem dX7_copyFrom_56 : decode cX7_copyFrom 56 = .ok (.aload_n 0, 1) := by decide +kernel
theorem dX7_copyFrom_57 : decode cX7_copyFrom 57 = .ok (.aload_n 1, 1) := by decide +kernel
theorem dX7_copyFrom_58 : decode cX7_copyFrom 58 = .ok (.getfield 25, 3) := by decide +kernel
theorem dX7_copyFrom_61 : decode cX7_copyFrom 61 = .ok (.putfield 25, 3) := by decide +kernel
theorem dX7_copyFrom_64 : decode cX7_copyFrom 64 = .ok (.aload_n 0, 1) := by decide +kernel
theorem dX7_copyFrom_65 : decode cX7_copyFrom 65 = .ok (.aload_n 1, 1) := by decide +kernel
theorem dX7_copyFrom_66 : decode cX7_copyFrom 66 = .ok (.getfield 28, 3) := by decide +kernel
theorem dX7_copyFrom_69 : decode cX7_copyFrom 69 = .ok (.putfield 28, 3) := by decide +kernel
theorem dX7_copyFrom_72 : decode cX7_copyFrom 72 = .ok (.return_, 1) := by decide +kernel
theorem dX7_inAll_0 : decode cX7_inAll 0 = .ok (.aload_n 0, 1) := by decide +kernel
theorem dX7_inAll_1 : decode cX7_inAll 1 = .ok (.getfield 18, 3) := by decide +kernel
theorem dX7_inAll_4 : decode cX7_inAll 4 = .ok (.aload_n 0, 1) := by decide +kernel
theorem dX7_inAll_5 : decode cX7_inAll 5 = .ok (.getfield 22, 3) := by decide +kernel
theorem dX7_inAll_8 : decode cX7_inAll 8 = .ok (.iadd, 1) := by decide +kernel
theorem dX7_inAll_9 : decode cX7_inAll 9 = .ok (.ireturn, 1) := by decide +kernel
theorem dX7_ridden_0 : decode cX7_ridden 0 = .ok (.iconst 0, 1) := by decide +kernel
theorem dX7_ridden_1 : decode cX7_ridden 1 = .ok (.istore_n 1, 1) := by decide +kernel
theorem dX7_ridden_2 : decode cX7_ridden 2 = .ok (.iconst 0, 1) := by decide +kernel
theorem dX7_ridden_3 : decode cX7_ridden 3 = .ok (.istore_n 2, 1) := by decide +kernel
theorem dX7_ridden_4 : decode cX7_ridden 4 = .ok (.iload_n 2, 1) := by decide +kernel
theorem dX7_ridden_5 : decode cX7_ridden 5 = .ok (.aload_n 0, 1) := by decide +kernel
theorem dX7_ridden_6 : decode cX7_ridden 6 = .ok (.getfield 22, 3) := by decide +kernel
theorem dX7_ridden_9 : decode cX7_ridden 9 = .ok (.if_icmp .ge 22, 3) := by decide +kernel
theorem dX7_ridden_12 : decode cX7_ridden 12 = .ok (.aload_n 0, 1) := by decide +kernel
theorem dX7_ridden_13 : decode cX7_ridden 13 = .ok (.getfield 9, 3) := by decide +kernel
theorem dX7_ridden_16 : decode cX7_ridden 16 = .ok (.iload_n 2, 1) := by decide +kernel
theorem dX7_ridden_17 : decode cX7_ridden 17 = .ok (.iaload, 1) := by decide +kernel
theorem dX7_ridden_18 : decode cX7_ridden 18 = .ok (.iconst (-1), 1) := by decide +kernel
theorem dX7_ridden_19 : decode cX7_ridden 19 = .ok (.if_icmp .eq 6, 3) := by decide +kernel
theorem dX7_ridden_22 : decode cX7_ridden 22 = .ok (.iinc 1 1, 3) := by decide +kernel
theorem dX7_ridden_25 : decode cX7_ridden 25 = .ok (.iinc 2 1, 3) := by decide +kernel
theorem dX7_ridden_28 : decode cX7_ridden 28 = .ok (.goto (-24), 3) := by decide +kernel
theorem dX7_ridden_31 : decode cX7_ridden 31 = .ok (.iload_n 1, 1) := by decide +kernel
theorem dX7_ridden_32 : decode cX7_ridden 32 = .ok (.ireturn, 1) := by decide +kernel
theorem dX7_canLeaveTop_0 : decode cX7_canLeaveTop 0 = .ok (.aload_n 0, 1) := by decide +kernel
theorem dX7_canLeaveTop_1 : decode cX7_canLeaveTop 1 = .ok (.getfield 18, 3) := by decide +kernel
theorem dX7_canLeaveTop_4 : decode cX7_canLeaveTop 4 = .ok (.ifCond .le 15, 3) := by decide +kernel
theorem dX7_canLeaveTop_7 : decode cX7_canLeaveTop 7 = .ok (.aload_n 0, 1) := by decide +kernel
theorem dX7_canLeaveTop_8 : decode cX7_canLeaveTop 8 = .ok (.getfield 22, 3) := by decide +kernel
theorem dX7_canLeaveTop_11 : decode cX7_canLeaveTop 11 = .ok (.iconst 3, 1) := by decide +kernel
theorem dX7_canLeaveTop_12 : decode cX7_canLeaveTop 12 = .ok (.if_icmp .ge 7, 3) := by decide +kernel
theorem dX7_canLeaveTop_15 : decode cX7_canLeaveTop 15 = .ok (.iconst 1, 1) := by decide +kernel
theorem dX7_canLeaveTop_16 : decode cX7_canLeaveTop 16 = .ok (.goto 4, 3) := by decide +kernel
theorem dX7_canLeaveTop_19 : decode cX7_canLeaveTop 19 = .ok (.iconst 0, 1) := by decide +kernel
theorem dX7_canLeaveTop_20 : decode cX7_canLeaveTop 20 = .ok (.ireturn, 1) := by decide +kernel
theorem dX7_leaveTop_0 : decode cX7_leaveTop 0 = .ok (.aload_n 0, 1) := by decide +kernel
theorem dX7_leaveTop_1 : decode cX7_leaveTop 1 = .ok (.getfield 9, 3) := by decide +kernel
theorem dX7_leaveTop_4 : decode cX7_leaveTop 4 = .ok (.aload_n 0, 1) := by decide +kernel
theorem dX7_leaveTop_5 : decode cX7_leaveTop 5 = .ok (.getfield 22, 3) := by decide +kernel
theorem dX7_leaveTop_8 : decode cX7_leaveTop 8 = .ok (.iload_n 1, 1) := by decide +kernel
theorem dX7_leaveTop_9 : decode cX7_leaveTop 9 = .ok (.iastore, 1) := by decide +kernel
theorem dX7_leaveTop_10 : decode cX7_leaveTop 10 = .ok (.aload_n 0, 1) := by decide +kernel
theorem dX7_leaveTop_11 : decode cX7_leaveTop 11 = .ok (.getfield 15, 3) := by decide +kernel
theorem dX7_leaveTop_14 : decode cX7_leaveTop 14 = .ok (.aload_n 0, 1) := by decide +kernel
theorem dX7_leaveTop_15 : decode cX7_leaveTop 15 = .ok (.getfield 22, 3) := by decide +kernel
theorem dX7_leaveTop_18 : decode cX7_leaveTop 18 = .ok (.iload_n 2, 1) := by decide +kernel
theorem dX7_leaveTop_19 : decode cX7_leaveTop 19 = .ok (.iastore, 1) := by decide +kernel
theorem dX7_leaveTop_20 : decode cX7_leaveTop 20 = .ok (.aload_n 0, 1) := by decide +kernel
theorem dX7_leaveTop_21 : decode cX7_leaveTop 21 = .ok (.dup, 1) := by decide +kernel
theorem dX7_leaveTop_22 : decode cX7_leaveTop 22 = .ok (.getfield 22, 3) := by decide +kernel
theorem dX7_leaveTop_25 : decode cX7_leaveTop 25 = .ok (.iconst 1, 1) := by decide +kernel
theorem dX7_leaveTop_26 : decode cX7_leaveTop 26 = .ok (.iadd, 1) := by decide +kernel
theorem dX7_leaveTop_27 : decode cX7_leaveTop 27 = .ok (.putfield 22, 3) := by decide +kernel
theorem dX7_leaveTop_30 : decode cX7_leaveTop 30 = .ok (.aload_n 0, 1) := by decide +kernel
theorem dX7_leaveTop_31 : decode cX7_leaveTop 31 = .ok (.dup, 1) := by decide +kernel
theorem dX7_leaveTop_32 : decode cX7_leaveTop 32 = .ok (.getfield 18, 3) := by decide +kernel
theorem dX7_leaveTop_35 : decode cX7_leaveTop 35 = .ok (.iconst 1, 1) := by decide +kernel
theorem dX7_leaveTop_36 : decode cX7_leaveTop 36 = .ok (.isub, 1) := by decide +kernel
theorem dX7_leaveTop_37 : decode cX7_leaveTop 37 = .ok (.putfield 18, 3) := by decide +kernel
theorem dX7_leaveTop_40 : decode cX7_leaveTop 40 = .ok (.aload_n 0, 1) := by decide +kernel
theorem dX7_leaveTop_41 : decode cX7_leaveTop 41 = .ok (.dup, 1) := by decide +kernel
theorem dX7_leaveTop_42 : decode cX7_leaveTop 42 = .ok (.getfield 25, 3) := by decide +kernel
theorem dX7_leaveTop_45 : decode cX7_leaveTop 45 = .ok (.iconst 1, 1) := by decide +kernel
theorem dX7_leaveTop_46 : decode cX7_leaveTop 46 = .ok (.iadd, 1) := by decide +kernel
theorem dX7_leaveTop_47 : decode cX7_leaveTop 47 = .ok (.putfield 25, 3) := by decide +kernel
theorem dX7_leaveTop_50 : decode cX7_leaveTop 50 = .ok (.return_, 1) := by decide +kernel
theorem dX7_beginPull_0 : decode cX7_beginPull 0 = .ok (.aload_n 0, 1) := by decide +kernel
theorem dX7_beginPull_1 : decode cX7_beginPull 1 = .ok (.getfield 9, 3) := by decide +kernel
theorem dX7_beginPull_4 : decode cX7_beginPull 4 = .ok (.iload_n 1, 1) := by decide +kernel
theorem dX7_beginPull_5 : decode cX7_beginPull 5 = .ok (.iconst (-1), 1) := by decide +kernel
theorem dX7_beginPull_6 : decode cX7_beginPull 6 = .ok (.iastore, 1) := by decide +kernel
theorem dX7_beginPull_7 : decode cX7_beginPull 7 = .ok (.aload_n 0, 1) := by decide +kernel
theorem dX7_beginPull_8 : decode cX7_beginPull 8 = .ok (.getfield 15, 3) := by decide +kernel
theorem dX7_beginPull_11 : decode cX7_beginPull 11 = .ok (.iload_n 1, 1) := by decide +kernel
theorem dX7_beginPull_12 : decode cX7_beginPull 12 = .ok (.iload_n 2, 1) := by decide +kernel
theorem dX7_beginPull_13 : decode cX7_beginPull 13 = .ok (.iastore, 1) := by decide +kernel
theorem dX7_beginPull_14 : decode cX7_beginPull 14 = .ok (.return_, 1) := by decide +kernel
theorem dX7_dropPulled_0 : decode cX7_dropPulled 0 = .ok (.iconst 0, 1) := by decide +kernel
theorem dX7_dropPulled_1 : decode cX7_dropPulled 1 = .ok (.istore_n 1, 1) := by decide +kernel
theorem dX7_dropPulled_2 : decode cX7_dropPulled 2 = .ok (.iconst 0, 1) := by decide +kernel
theorem dX7_dropPulled_3 : decode cX7_dropPulled 3 = .ok (.istore_n 2, 1) := by decide +kernel
theorem dX7_dropPulled_4 : decode cX7_dropPulled 4 = .ok (.iload_n 2, 1) := by decide +kernel
theorem dX7_dropPulled_5 : decode cX7_dropPulled 5 = .ok (.aload_n 0, 1) := by decide +kernel
theorem dX7_dropPulled_6 : decode cX7_dropPulled 6 = .ok (.getfield 22, 3) := by decide +kernel
theorem dX7_dropPulled_9 : decode cX7_dropPulled 9 = .ok (.if_icmp .ge 45, 3) := by decide +kernel
theorem dX7_dropPulled_12 : decode cX7_dropPulled 12 = .ok (.aload_n 0, 1) := by decide +kernel
theorem dX7_dropPulled_13 : decode cX7_dropPulled 13 = .ok (.getfield 15, 3) := by decide +kernel
theorem dX7_dropPulled_16 : decode cX7_dropPulled 16 = .ok (.iload_n 2, 1) := by decide +kernel
theorem dX7_dropPulled_17 : decode cX7_dropPulled 17 = .ok (.iaload, 1) := by decide +kernel
theorem dX7_dropPulled_18 : decode cX7_dropPulled 18 = .ok (.ifCond .le 30, 3) := by decide +kernel
theorem dX7_dropPulled_21 : decode cX7_dropPulled 21 = .ok (.aload_n 0, 1) := by decide +kernel
theorem dX7_dropPulled_22 : decode cX7_dropPulled 22 = .ok (.getfield 9, 3) := by decide +kernel
theorem dX7_dropPulled_25 : decode cX7_dropPulled 25 = .ok (.iload_n 1, 1) := by decide +kernel
theorem dX7_dropPulled_26 : decode cX7_dropPulled 26 = .ok (.aload_n 0, 1) := by decide +kernel
theorem dX7_dropPulled_27 : decode cX7_dropPulled 27 = .ok (.getfield 9, 3) := by decide +kernel
theorem dX7_dropPulled_30 : decode cX7_dropPulled 30 = .ok (.iload_n 2, 1) := by decide +kernel
theorem dX7_dropPulled_31 : decode cX7_dropPulled 31 = .ok (.iaload, 1) := by decide +kernel
theorem dX7_dropPulled_32 : decode cX7_dropPulled 32 = .ok (.iastore, 1) := by decide +kernel
theorem dX7_dropPulled_33 : decode cX7_dropPulled 33 = .ok (.aload_n 0, 1) := by decide +kernel
theorem dX7_dropPulled_34 : decode cX7_dropPulled 34 = .ok (.getfield 15, 3) := by decide +kernel
theorem dX7_dropPulled_37 : decode cX7_dropPulled 37 = .ok (.iload_n 1, 1) := by decide +kernel
theorem dX7_dropPulled_38 : decode cX7_dropPulled 38 = .ok (.aload_n 0, 1) := by decide +kernel
theorem dX7_dropPulled_39 : decode cX7_dropPulled 39 = .ok (.getfield 15, 3) := by decide +kernel
theorem dX7_dropPulled_42 : decode cX7_dropPulled 42 = .ok (.iload_n 2, 1) := by decide +kernel
theorem dX7_dropPulled_43 : decode cX7_dropPulled 43 = .ok (.iaload, 1) := by decide +kernel
theorem dX7_dropPulled_44 : decode cX7_dropPulled 44 = .ok (.iastore, 1) := by decide +kernel
theorem dX7_dropPulled_45 : decode cX7_dropPulled 45 = .ok (.iinc 1 1, 3) := by decide +kernel
theorem dX7_dropPulled_48 : decode cX7_dropPulled 48 = .ok (.iinc 2 1, 3) := by decide +kernel
theorem dX7_dropPulled_51 : decode cX7_dropPulled 51 = .ok (.goto (-47), 3) := by decide +kernel
theorem dX7_dropPulled_54 : decode cX7_dropPulled 54 = .ok (.aload_n 0, 1) := by decide +kernel
theorem dX7_dropPulled_55 : decode cX7_dropPulled 55 = .ok (.dup, 1) := by decide +kernel
theorem dX7_dropPulled_56 : decode cX7_dropPulled 56 = .ok (.getfield 18, 3) := by decide +kernel
theorem dX7_dropPulled_59 : decode cX7_dropPulled 59 = .ok (.aload_n 0, 1) := by decide +kernel
theorem dX7_dropPulled_60 : decode cX7_dropPulled 60 = .ok (.getfield 22, 3) := by decide +kernel
theorem dX7_dropPulled_63 : decode cX7_dropPulled 63 = .ok (.iload_n 1, 1) := by decide +kernel
theorem dX7_dropPulled_64 : decode cX7_dropPulled 64 = .ok (.isub, 1) := by decide +kernel
theorem dX7_dropPulled_65 : decode cX7_dropPulled 65 = .ok (.iadd, 1) := by decide +kernel
theorem dX7_dropPulled_66 : decode cX7_dropPulled 66 = .ok (.putfield 18, 3) := by decide +kernel
theorem dX7_dropPulled_69 : decode cX7_dropPulled 69 = .ok (.aload_n 0, 1) := by decide +kernel
theorem dX7_dropPulled_70 : decode cX7_dropPulled 70 = .ok (.iload_n 1, 1) := by decide +kernel
theorem dX7_dropPulled_71 : decode cX7_dropPulled 71 = .ok (.putfield 22, 3) := by decide +kernel
theorem dX7_dropPulled_74 : decode cX7_dropPulled 74 = .ok (.return_, 1) := by decide +kernel
theorem dJ9_floorMod_7cf53_0 : decode cJ9_floorMod_7cf53 0 = .ok (.iload_n 0, 1) := by decide +kernel
theorem dJ9_floorMod_7cf53_1 : decode cJ9_floorMod_7cf53 1 = .ok (.iload_n 1, 1) := by decide +kernel
theorem dJ9_floorMod_7cf53_2 : decode cJ9_floorMod_7cf53 2 = .ok (.irem, 1) := by decide +kernel
theorem dJ9_floorMod_7cf53_3 : decode cJ9_floorMod_7cf53 3 = .ok (.istore_n 2, 1) := by decide +kernel
theorem dJ9_floorMod_7cf53_4 : decode cJ9_floorMod_7cf53 4 = .ok (.iload_n 0, 1) := by decide +kernel
theorem dJ9_floorMod_7cf53_5 : decode cJ9_floorMod_7cf53 5 = .ok (.iload_n 1, 1) := by decide +kernel
theorem dJ9_floorMod_7cf53_6 : decode cJ9_floorMod_7cf53 6 = .ok (.ixor, 1) := by decide +kernel
theorem dJ9_floorMod_7cf53_7 : decode cJ9_floorMod_7cf53 7 = .ok (.ifCond .ge 11, 3) := by decide +kernel
theorem dJ9_floorMod_7cf53_10 : decode cJ9_floorMod_7cf53 10 = .ok (.iload_n 2, 1) := by decide +kernel
theorem dJ9_floorMod_7cf53_11 : decode cJ9_floorMod_7cf53 11 = .ok (.ifCond .eq 7, 3) := by decide +kernel
theorem dJ9_floorMod_7cf53_14 : decode cJ9_floorMod_7cf53 14 = .ok (.iload_n 2, 1) := by decide +kernel
theorem dJ9_floorMod_7cf53_15 : decode cJ9_floorMod_7cf53 15 = .ok (.iload_n 1, 1) := by decide +kernel
theorem dJ9_floorMod_7cf53_16 : decode cJ9_floorMod_7cf53 16 = .ok (.iadd, 1) := by decide +kernel
theorem dJ9_floorMod_7cf53_17 : decode cJ9_floorMod_7cf53 17 = .ok (.ireturn, 1) := by decide +kernel
theorem dJ9_floorMod_7cf53_18 : decode cJ9_floorMod_7cf53 18 = .ok (.iload_n 2, 1) := by decide +kernel
theorem dJ9_floorMod_7cf53_19 : decode cJ9_floorMod_7cf53 19 = .ok (.ireturn, 1) := by decide +kernel
theorem dJ9_abs_0f7a4_0 : decode cJ9_abs_0f7a4 0 = .ok (.iload_n 0, 1) := by decide +kernel
theorem dJ9_abs_0f7a4_1 : decode cJ9_abs_0f7a4 1 = .ok (.ifCond .ge 8, 3) := by decide +kernel
theorem dJ9_abs_0f7a4_4 : decode cJ9_abs_0f7a4 4 = .ok (.iload_n 0, 1) := by decide +kernel
theorem dJ9_abs_0f7a4_5 : decode cJ9_abs_0f7a4 5 = .ok (.ineg, 1) := by decide +kernel
theorem dJ9_abs_0f7a4_6 : decode cJ9_abs_0f7a4 6 = .ok (.goto 4, 3) := by decide +kernel
theorem dJ9_abs_0f7a4_9 : decode cJ9_abs_0f7a4 9 = .ok (.iload_n 0, 1) := by decide +kernel
theorem dJ9_abs_0f7a4_10 : decode cJ9_abs_0f7a4 10 = .ok (.ireturn, 1) := by decide +kernel
theorem dJ9_max_7cf53_0 : decode cJ9_max_7cf53 0 = .ok (.iload_n 0, 1) := by decide +kernel
theorem dJ9_max_7cf53_1 : decode cJ9_max_7cf53 1 = .ok (.iload_n 1, 1) := by decide +kernel
theorem dJ9_max_7cf53_2 : decode cJ9_max_7cf53 2 = .ok (.if_icmp .lt 7, 3) := by decide +kernel
theorem dJ9_max_7cf53_5 : decode cJ9_max_7cf53 5 = .ok (.iload_n 0, 1) := by decide +kernel
theorem dJ9_max_7cf53_6 : decode cJ9_max_7cf53 6 = .ok (.goto 4, 3) := by decide +kernel
theorem dJ9_max_7cf53_9 : decode cJ9_max_7cf53 9 = .ok (.iload_n 1, 1) := by decide +kernel
theorem dJ9_max_7cf53_10 : decode cJ9_max_7cf53 10 = .ok (.ireturn, 1) := by decide +kernel
end
section
theorem dX5_init_0 : decode cX5_init 0 = .ok (.aload_n 0, 1) := by decide +kernel
theorem dX5_init_1 : decode cX5_init 1 = .ok (.invokespecial 3, 3) := by decide +kernel
theorem dX5_init_4 : decode cX5_init 4 = .ok (.aload_n 0, 1) := by decide +kernel
theorem dX5_init_5 : decode cX5_init 5 = .ok (.bipush 12, 2) := by decide +kernel
theorem dX5_init_7 : decode cX5_init 7 = .ok (.anewarray 9, 3) := by decide +kernel
theorem dX5_init_10 : decode cX5_init 10 = .ok (.putfield 11, 3) := by decide +kernel
theorem dX5_init_13 : decode cX5_init 13 = .ok (.aload_n 0, 1) := by decide +kernel
theorem dX5_init_14 : decode cX5_init 14 = .ok (.bipush 12, 2) := by decide +kernel
theorem dX5_init_16 : decode cX5_init 16 = .ok (.anewarray 17, 3) := by decide +kernel
theorem dX5_init_19 : decode cX5_init 19 = .ok (.putfield 19, 3) := by decide +kernel
theorem dX5_init_22 : decode cX5_init 22 = .ok (.aload_n 0, 1) := by decide +kernel
theorem dX5_init_23 : decode cX5_init 23 = .ok (.bipush 12, 2) := by decide +kernel
theorem dX5_init_25 : decode cX5_init 25 = .ok (.newarray .int, 2) := by decide +kernel
theorem dX5_init_27 : decode cX5_init 27 = .ok (.putfield 23, 3) := by decide +kernel
theorem dX5_init_30 : decode cX5_init 30 = .ok (.aload_n 0, 1) := by decide +kernel
theorem dX5_init_31 : decode cX5_init 31 = .ok (.aload_n 1, 1) := by decide +kernel
theorem dX5_init_32 : decode cX5_init 32 = .ok (.putfield 27, 3) := by decide +kernel
theorem dX5_init_35 : decode cX5_init 35 = .ok (.iconst 0, 1) := by decide +kernel
theorem dX5_init_36 : decode cX5_init 36 = .ok (.istore_n 2, 1) := by decide +kernel
theorem dX5_init_37 : decode cX5_init 37 = .ok (.iload_n 2, 1) := by decide +kernel
theorem dX5_init_38 : decode cX5_init 38 = .ok (.bipush 12, 2) := by decide +kernel
theorem dX5_init_40 : decode cX5_init 40 = .ok (.if_icmp .ge 22, 3) := by decide +kernel
theorem dX5_init_43 : decode cX5_init 43 = .ok (.aload_n 0, 1) := by decide +kernel
theorem dX5_init_44 : decode cX5_init 44 = .ok (.getfield 11, 3) := by decide +kernel
theorem dX5_init_47 : decode cX5_init 47 = .ok (.iload_n 2, 1) := by decide +kernel
theorem dX5_init_48 : decode cX5_init 48 = .ok (.new 9, 3) := by decide +kernel
theorem dX5_init_51 : decode cX5_init 51 = .ok (.dup, 1) := by decide +kernel
theorem dX5_init_52 : decode cX5_init 52 = .ok (.invokespecial 31, 3) := by decide +kernel
theorem dX5_init_55 : decode cX5_init 55 = .ok (.aastore, 1) := by decide +kernel
theorem dX5_init_56 : decode cX5_init 56 = .ok (.iinc 2 1, 3) := by decide +kernel
theorem dX5_init_59 : decode cX5_init 59 = .ok (.goto (-22), 3) := by decide +kernel
theorem dX5_init_62 : decode cX5_init 62 = .ok (.iconst 0, 1) := by decide +kernel
theorem dX5_init_63 : decode cX5_init 63 = .ok (.istore_n 2, 1) := by decide +kernel
theorem dX5_init_64 : decode cX5_init 64 = .ok (.iload_n 2, 1) := by decide +kernel
theorem dX5_init_65 : decode cX5_init 65 = .ok (.bipush 12, 2) := by decide +kernel
theorem dX5_init_67 : decode cX5_init 67 = .ok (.if_icmp .ge 22, 3) := by decide +kernel
theorem dX5_init_70 : decode cX5_init 70 = .ok (.aload_n 0, 1) := by decide +kernel
theorem dX5_init_71 : decode cX5_init 71 = .ok (.getfield 19, 3) := by decide +kernel
theorem dX5_init_74 : decode cX5_init 74 = .ok (.iload_n 2, 1) := by decide +kernel
theorem dX5_init_75 : decode cX5_init 75 = .ok (.new 17, 3) := by decide +kernel
theorem dX5_init_78 : decode cX5_init 78 = .ok (.dup, 1) := by decide +kernel
theorem dX5_init_79 : decode cX5_init 79 = .ok (.invokespecial 32, 3) := by decide +kernel
theorem dX5_init_82 : decode cX5_init 82 = .ok (.aastore, 1) := by decide +kernel
theorem dX5_init_83 : decode cX5_init 83 = .ok (.iinc 2 1, 3) := by decide +kernel
theorem dX5_init_86 : decode cX5_init 86 = .ok (.goto (-22), 3) := by decide +kernel
theorem dX5_init_89 : decode cX5_init 89 = .ok (.return_, 1) := by decide +kernel
theorem dX5_copyFrom_0 : decode cX5_copyFrom 0 = .ok (.iconst 0, 1) := by decide +kernel
theorem dX5_copyFrom_1 : decode cX5_copyFrom 1 = .ok (.istore_n 2, 1) := by decide +kernel
theorem dX5_copyFrom_2 : decode cX5_copyFrom 2 = .ok (.iload_n 2, 1) := by decide +kernel
theorem dX5_copyFrom_3 : decode cX5_copyFrom 3 = .ok (.aload_n 0, 1) := by decide +kernel
theorem dX5_copyFrom_4 : decode cX5_copyFrom 4 = .ok (.getfield 27, 3) := by decide +kernel
theorem dX5_copyFrom_7 : decode cX5_copyFrom 7 = .ok (.getfield 33, 3) := by decide +kernel
theorem dX5_copyFrom_10 : decode cX5_copyFrom 10 = .ok (.if_icmp .ge 24, 3) := by decide +kernel
theorem dX5_copyFrom_13 : decode cX5_copyFrom 13 = .ok (.aload_n 0, 1) := by decide +kernel
theorem dX5_copyFrom_14 : decode cX5_copyFrom 14 = .ok (.getfield 11, 3) := by decide +kernel
theorem dX5_copyFrom_17 : decode cX5_copyFrom 17 = .ok (.iload_n 2, 1) := by decide +kernel
theorem dX5_copyFrom_18 : decode cX5_copyFrom 18 = .ok (.aaload, 1) := by decide +kernel
theorem dX5_copyFrom_19 : decode cX5_copyFrom 19 = .ok (.aload_n 1, 1) := by decide +kernel
theorem dX5_copyFrom_20 : decode cX5_copyFrom 20 = .ok (.getfield 11, 3) := by decide +kernel
theorem dX5_copyFrom_23 : decode cX5_copyFrom 23 = .ok (.iload_n 2, 1) := by decide +kernel
theorem dX5_copyFrom_24 : decode cX5_copyFrom 24 = .ok (.aaload, 1) := by decide +kernel
theorem dX5_copyFrom_25 : decode cX5_copyFrom 25 = .ok (.invokevirtual 39, 3) := by decide +kernel
theorem dX5_copyFrom_28 : decode cX5_copyFrom 28 = .ok (.iinc 2 1, 3) := by decide +kernel
theorem dX5_copyFrom_31 : decode cX5_copyFrom 31 = .ok (.goto (-29), 3) := by decide +kernel
theorem dX5_copyFrom_34 : decode cX5_copyFrom 34 = .ok (.iconst 0, 1) := by decide +kernel
theorem dX5_copyFrom_35 : decode cX5_copyFrom 35 = .ok (.istore_n 2, 1) := by decide +kernel
theorem dX5_copyFrom_36 : decode cX5_copyFrom 36 = .ok (.iload_n 2, 1) := by decide +kernel
theorem dX5_copyFrom_37 : decode cX5_copyFrom 37 = .ok (.aload_n 0, 1) := by decide +kernel
theorem dX5_copyFrom_38 : decode cX5_copyFrom 38 = .ok (.getfield 27, 3) := by decide +kernel
theorem dX5_copyFrom_41 : decode cX5_copyFrom 41 = .ok (.getfield 43, 3) := by decide +kernel
theorem dX5_copyFrom_44 : decode cX5_copyFrom 44 = .ok (.if_icmp .ge 24, 3) := by decide +kernel
theorem dX5_copyFrom_47 : decode cX5_copyFrom 47 = .ok (.aload_n 0, 1) := by decide +kernel
theorem dX5_copyFrom_48 : decode cX5_copyFrom 48 = .ok (.getfield 19, 3) := by decide +kernel
theorem dX5_copyFrom_51 : decode cX5_copyFrom 51 = .ok (.iload_n 2, 1) := by decide +kernel
theorem dX5_copyFrom_52 : decode cX5_copyFrom 52 = .ok (.aaload, 1) := by decide +kernel
theorem dX5_copyFrom_53 : decode cX5_copyFrom 53 = .ok (.aload_n 1, 1) := by decide +kernel
theorem dX5_copyFrom_54 : decode cX5_copyFrom 54 = .ok (.getfield 19, 3) := by decide +kernel
theorem dX5_copyFrom_57 : decode cX5_copyFrom 57 = .ok (.iload_n 2, 1) := by decide +kernel
theorem dX5_copyFrom_58 : decode cX5_copyFrom 58 = .ok (.aaload, 1) := by decide +kernel
theorem dX5_copyFrom_59 : decode cX5_copyFrom 59 = .ok (.invokevirtual 46, 3) := by decide +kernel
theorem dX5_copyFrom_62 : decode cX5_copyFrom 62 = .ok (.iinc 2 1, 3) := by decide +kernel
theorem dX5_copyFrom_65 : decode cX5_copyFrom 65 = .ok (.goto (-29), 3) := by decide +kernel
theorem dX5_copyFrom_68 : decode cX5_copyFrom 68 = .ok (.aload_n 0, 1) := by decide +kernel
theorem dX5_copyFrom_69 : decode cX5_copyFrom 69 = .ok (.aload_n 1, 1) := by decide +kernel
theorem dX5_copyFrom_70 : decode cX5_copyFrom 70 = .ok (.getfield 49, 3) := by decide +kernel
theorem dX5_copyFrom_73 : decode cX5_copyFrom 73 = .ok (.putfield 49, 3) := by decide +kernel
theorem dX5_copyFrom_76 : decode cX5_copyFrom 76 = .ok (.iconst 0, 1) := by decide +kernel
theorem dX5_copyFrom_77 : decode cX5_copyFrom 77 = .ok (.istore_n 2, 1) := by decide +kernel
theorem dX5_copyFrom_78 : decode cX5_copyFrom 78 = .ok (.iload_n 2, 1) := by decide +kernel
theorem dX5_copyFrom_79 : decode cX5_copyFrom 79 = .ok (.aload_n 0, 1) := by decide +kernel
theorem dX5_copyFrom_80 : decode cX5_copyFrom 80 = .ok (.getfield 49, 3) := by decide +kernel
theorem dX5_copyFrom_83 : decode cX5_copyFrom 83 = .ok (.if_icmp .ge 21, 3) := by decide +kernel
theorem dX5_copyFrom_86 : decode cX5_copyFrom 86 = .ok (.aload_n 0, 1) := by decide +kernel
theorem dX5_copyFrom_87 : decode cX5_copyFrom 87 = .ok (.getfield 23, 3) := by decide +kernel
theorem dX5_copyFrom_90 : decode cX5_copyFrom 90 = .ok (.iload_n 2, 1) := by decide +kernel
theorem dX5_copyFrom_91 : decode cX5_copyFrom 91 = .ok (.aload_n 1, 1) := by decide +kernel
theorem dX5_copyFrom_92 : decode cX5_copyFrom 92 = .ok (.getfield 23, 3) := by decide +kernel
theorem dX5_copyFrom_95 : decode cX5_copyFrom 95 = .ok (.iload_n 2, 1) := by decide +kernel
theorem dX5_copyFrom_96 : decode cX5_copyFrom 96 = .ok (.iaload, 1) := by decide +kernel
theorem dX5_copyFrom_97 : decode cX5_copyFrom 97 = .ok (.iastore, 1) := by decide +kernel
theorem dX5_copyFrom_98 : decode cX5_copyFrom 98 = .ok (.iinc 2 1, 3) := by decide +kernel
theorem dX5_copyFrom_101 : decode cX5_copyFrom 101 = .ok (.goto (-23), 3) := by decide +kernel
theorem dX5_copyFrom_104 : decode cX5_copyFrom 104 = .ok (.aload_n 0, 1) := by decide +kernel
theorem dX5_copyFrom_105 : decode cX5_copyFrom 105 = .ok (.aload_n 1, 1) := by decide +kernel
theorem dX5_copyFrom_106 : decode cX5_copyFrom 106 = .ok (.getfield 52, 3) := by decide +kernel
theorem dX5_copyFrom_109 : decode cX5_copyFrom 109 = .ok (.putfield 52, 3) := by decide +kernel
theorem dX5_copyFrom_112 : decode cX5_copyFrom 112 = .ok (.return_, 1) := by decide +kernel
theorem dX5_addTrolleys_0 : decode cX5_addTrolleys 0 = .ok (.aload_n 0, 1) := by decide +kernel
theorem dX5_addTrolleys_1 : decode cX5_addTrolleys 1 = .ok (.getfield 19, 3) := by decide +kernel
theorem dX5_addTrolleys_4 : decode cX5_addTrolleys 4 = .ok (.iload_n 1, 1) := by decide +kernel
theorem dX5_addTrolleys_5 : decode cX5_addTrolleys 5 = .ok (.aaload, 1) := by decide +kernel
theorem dX5_addTrolleys_6 : decode cX5_addTrolleys 6 = .ok (.dup, 1) := by decide +kernel
theorem dX5_addTrolleys_7 : decode cX5_addTrolleys 7 = .ok (.getfield 55, 3) := by decide +kernel
theorem dX5_addTrolleys_10 : decode cX5_addTrolleys 10 = .ok (.iload_n 2, 1) := by decide +kernel
theorem dX5_addTrolleys_11 : decode cX5_addTrolleys 11 = .ok (.iadd, 1) := by decide +kernel
theorem dX5_addTrolleys_12 : decode cX5_addTrolleys 12 = .ok (.putfield 55, 3) := by decide +kernel
theorem dX5_addTrolleys_15 : decode cX5_addTrolleys 15 = .ok (.return_, 1) := by decide +kernel
theorem dX5_reach_0 : decode cX5_reach 0 = .ok (.iload_n 2, 1) := by decide +kernel
theorem dX5_reach_1 : decode cX5_reach 1 = .ok (.aload_n 0, 1) := by decide +kernel
theorem dX5_reach_2 : decode cX5_reach 2 = .ok (.getfield 27, 3) := by decide +kernel
theorem dX5_reach_5 : decode cX5_reach 5 = .ok (.getfield 58, 3) := by decide +kernel
theorem dX5_reach_8 : decode cX5_reach 8 = .ok (.iload_n 1, 1) := by decide +kernel
theorem dX5_reach_9 : decode cX5_reach 9 = .ok (.aaload, 1) := by decide +kernel
theorem dX5_reach_10 : decode cX5_reach 10 = .ok (.getfield 62, 3) := by decide +kernel
theorem dX5_reach_13 : decode cX5_reach 13 = .ok (.if_icmp .ne 20, 3) := by decide +kernel
theorem dX5_reach_16 : decode cX5_reach 16 = .ok (.aload_n 0, 1) := by decide +kernel
theorem dX5_reach_17 : decode cX5_reach 17 = .ok (.getfield 11, 3) := by decide +kernel
theorem dX5_reach_20 : decode cX5_reach 20 = .ok (.iload_n 1, 1) := by decide +kernel
theorem dX5_reach_21 : decode cX5_reach 21 = .ok (.aaload, 1) := by decide +kernel
theorem dX5_reach_22 : decode cX5_reach 22 = .ok (.iload_n 2, 1) := by decide +kernel
theorem dX5_reach_23 : decode cX5_reach 23 = .ok (.aload_n 0, 1) := by decide +kernel
theorem dX5_reach_24 : decode cX5_reach 24 = .ok (.getfield 52, 3) := by decide +kernel
theorem dX5_reach_27 : decode cX5_reach 27 = .ok (.invokevirtual 67, 3) := by decide +kernel
theorem dX5_reach_30 : decode cX5_reach 30 = .ok (.goto 42, 3) := by decide +kernel
theorem dX5_reach_33 : decode cX5_reach 33 = .ok (.aload_n 0, 1) := by decide +kernel
theorem dX5_reach_34 : decode cX5_reach 34 = .ok (.getfield 49, 3) := by decide +kernel
theorem dX5_reach_37 : decode cX5_reach 37 = .ok (.bipush 12, 2) := by decide +kernel
theorem dX5_reach_39 : decode cX5_reach 39 = .ok (.if_icmp .ge 33, 3) := by decide +kernel
theorem dX5_reach_42 : decode cX5_reach 42 = .ok (.aload_n 0, 1) := by decide +kernel
theorem dX5_reach_43 : decode cX5_reach 43 = .ok (.getfield 11, 3) := by decide +kernel
theorem dX5_reach_46 : decode cX5_reach 46 = .ok (.iload_n 1, 1) := by decide +kernel
theorem dX5_reach_47 : decode cX5_reach 47 = .ok (.aaload, 1) := by decide +kernel
theorem dX5_reach_48 : decode cX5_reach 48 = .ok (.iload_n 2, 1) := by decide +kernel
theorem dX5_reach_49 : decode cX5_reach 49 = .ok (.invokevirtual 71, 3) := by decide +kernel
theorem dX5_reach_52 : decode cX5_reach 52 = .ok (.aload_n 0, 1) := by decide +kernel
theorem dX5_reach_53 : decode cX5_reach 53 = .ok (.getfield 23, 3) := by decide +kernel
theorem dX5_reach_56 : decode cX5_reach 56 = .ok (.aload_n 0, 1) := by decide +kernel
theorem dX5_reach_57 : decode cX5_reach 57 = .ok (.getfield 49, 3) := by decide +kernel
theorem dX5_reach_60 : decode cX5_reach 60 = .ok (.iload_n 1, 1) := by decide +kernel
theorem dX5_reach_61 : decode cX5_reach 61 = .ok (.iastore, 1) := by decide +kernel
theorem dX5_reach_62 : decode cX5_reach 62 = .ok (.aload_n 0, 1) := by decide +kernel
theorem dX5_reach_63 : decode cX5_reach 63 = .ok (.dup, 1) := by decide +kernel
theorem dX5_reach_64 : decode cX5_reach 64 = .ok (.getfield 49, 3) := by decide +kernel
theorem dX5_reach_67 : decode cX5_reach 67 = .ok (.iconst 1, 1) := by decide +kernel
theorem dX5_reach_68 : decode cX5_reach 68 = .ok (.iadd, 1) := by decide +kernel
theorem dX5_reach_69 : decode cX5_reach 69 = .ok (.putfield 49, 3) := by decide +kernel
theorem dX5_reach_72 : decode cX5_reach 72 = .ok (.return_, 1) := by decide +kernel
theorem dX5_goOn_0 : decode cX5_goOn 0 = .ok (.aload_n 0, 1) := by decide +kernel
theorem dX5_goOn_1 : decode cX5_goOn 1 = .ok (.iconst 2, 1) := by decide +kernel
theorem dX5_goOn_2 : decode cX5_goOn 2 = .ok (.invokevirtual 75, 3) := by decide +kernel
theorem dX5_goOn_5 : decode cX5_goOn 5 = .ok (.istore_n 2, 1) := by decide +kernel
theorem dX5_goOn_6 : decode cX5_goOn 6 = .ok (.iconst 0, 1) := by decide +kernel
theorem dX5_goOn_7 : decode cX5_goOn 7 = .ok (.istore_n 3, 1) := by decide +kernel
theorem dX5_goOn_8 : decode cX5_goOn 8 = .ok (.iload_n 3, 1) := by decide +kernel
theorem dX5_goOn_9 : decode cX5_goOn 9 = .ok (.iload_n 1, 1) := by decide +kernel
theorem dX5_goOn_10 : decode cX5_goOn 10 = .ok (.if_icmp .ge 13, 3) := by decide +kernel
theorem dX5_goOn_13 : decode cX5_goOn 13 = .ok (.aload_n 0, 1) := by decide +kernel
theorem dX5_goOn_14 : decode cX5_goOn 14 = .ok (.invokevirtual 79, 3) := by decide +kernel
theorem dX5_goOn_17 : decode cX5_goOn 17 = .ok (.iinc 3 1, 3) := by decide +kernel
theorem dX5_goOn_20 : decode cX5_goOn 20 = .ok (.goto (-12), 3) := by decide +kernel
theorem dX5_goOn_23 : decode cX5_goOn 23 = .ok (.aload_n 0, 1) := by decide +kernel
theorem dX5_goOn_24 : decode cX5_goOn 24 = .ok (.iconst 2, 1) := by decide +kernel
theorem dX5_goOn_25 : decode cX5_goOn 25 = .ok (.invokevirtual 75, 3) := by decide +kernel
theorem dX5_goOn_28 : decode cX5_goOn 28 = .ok (.iload_n 2, 1) := by decide +kernel
theorem dX5_goOn_29 : decode cX5_goOn 29 = .ok (.isub, 1) := by decide +kernel
theorem dX5_goOn_30 : decode cX5_goOn 30 = .ok (.ireturn, 1) := by decide +kernel
theorem dX5_passMinute_0 : decode cX5_passMinute 0 = .ok (.iconst 0, 1) := by decide +kernel
theorem dX5_passMinute_1 : decode cX5_passMinute 1 = .ok (.istore_n 1, 1) := by decide +kernel
theorem dX5_passMinute_2 : decode cX5_passMinute 2 = .ok (.iload_n 1, 1) := by decide +kernel
theorem dX5_passMinute_3 : decode cX5_passMinute 3 = .ok (.aload_n 0, 1) := by decide +kernel
theorem dX5_passMinute_4 : decode cX5_passMinute 4 = .ok (.getfield 27, 3) := by decide +kernel
theorem dX5_passMinute_7 : decode cX5_passMinute 7 = .ok (.getfield 43, 3) := by decide +kernel
theorem dX5_passMinute_10 : decode cX5_passMinute 10 = .ok (.if_icmp .ge 28, 3) := by decide +kernel
theorem dX5_passMinute_13 : decode cX5_passMinute 13 = .ok (.aload_n 0, 1) := by decide +kernel
theorem dX5_passMinute_14 : decode cX5_passMinute 14 = .ok (.aload_n 0, 1) := by decide +kernel
theorem dX5_passMinute_15 : decode cX5_passMinute 15 = .ok (.getfield 27, 3) := by decide +kernel
theorem dX5_passMinute_18 : decode cX5_passMinute 18 = .ok (.getfield 82, 3) := by decide +kernel
theorem dX5_passMinute_21 : decode cX5_passMinute 21 = .ok (.iload_n 1, 1) := by decide +kernel
theorem dX5_passMinute_22 : decode cX5_passMinute 22 = .ok (.aaload, 1) := by decide +kernel
theorem dX5_passMinute_23 : decode cX5_passMinute 23 = .ok (.aload_n 0, 1) := by decide +kernel
theorem dX5_passMinute_24 : decode cX5_passMinute 24 = .ok (.getfield 19, 3) := by decide +kernel
theorem dX5_passMinute_27 : decode cX5_passMinute 27 = .ok (.iload_n 1, 1) := by decide +kernel
theorem dX5_passMinute_28 : decode cX5_passMinute 28 = .ok (.aaload, 1) := by decide +kernel
theorem dX5_passMinute_29 : decode cX5_passMinute 29 = .ok (.invokevirtual 86, 3) := by decide +kernel
theorem dX5_passMinute_32 : decode cX5_passMinute 32 = .ok (.iinc 1 1, 3) := by decide +kernel
theorem dX5_passMinute_35 : decode cX5_passMinute 35 = .ok (.goto (-33), 3) := by decide +kernel
theorem dX5_passMinute_38 : decode cX5_passMinute 38 = .ok (.iconst 0, 1) := by decide +kernel
theorem dX5_passMinute_39 : decode cX5_passMinute 39 = .ok (.istore_n 1, 1) := by decide +kernel
theorem dX5_passMinute_40 : decode cX5_passMinute 40 = .ok (.iload_n 1, 1) := by decide +kernel
theorem dX5_passMinute_41 : decode cX5_passMinute 41 = .ok (.aload_n 0, 1) := by decide +kernel
theorem dX5_passMinute_42 : decode cX5_passMinute 42 = .ok (.getfield 27, 3) := by decide +kernel
theorem dX5_passMinute_45 : decode cX5_passMinute 45 = .ok (.getfield 43, 3) := by decide +kernel
theorem dX5_passMinute_48 : decode cX5_passMinute 48 = .ok (.if_icmp .ge 46, 3) := by decide +kernel
theorem dX5_passMinute_51 : decode cX5_passMinute 51 = .ok (.aload_n 0, 1) := by decide +kernel
theorem dX5_passMinute_52 : decode cX5_passMinute 52 = .ok (.getfield 27, 3) := by decide +kernel
theorem dX5_passMinute_55 : decode cX5_passMinute 55 = .ok (.aload_n 0, 1) := by decide +kernel
theorem dX5_passMinute_56 : decode cX5_passMinute 56 = .ok (.getfield 27, 3) := by decide +kernel
theorem dX5_passMinute_59 : decode cX5_passMinute 59 = .ok (.getfield 82, 3) := by decide +kernel
theorem dX5_passMinute_62 : decode cX5_passMinute 62 = .ok (.iload_n 1, 1) := by decide +kernel
theorem dX5_passMinute_63 : decode cX5_passMinute 63 = .ok (.aaload, 1) := by decide +kernel
theorem dX5_passMinute_64 : decode cX5_passMinute 64 = .ok (.aload_n 0, 1) := by decide +kernel
theorem dX5_passMinute_65 : decode cX5_passMinute 65 = .ok (.getfield 52, 3) := by decide +kernel
theorem dX5_passMinute_68 : decode cX5_passMinute 68 = .ok (.invokevirtual 90, 3) := by decide +kernel
theorem dX5_passMinute_71 : decode cX5_passMinute 71 = .ok (.ifCond .ne 17, 3) := by decide +kernel
theorem dX5_passMinute_74 : decode cX5_passMinute 74 = .ok (.aload_n 0, 1) := by decide +kernel
theorem dX5_passMinute_75 : decode cX5_passMinute 75 = .ok (.aload_n 0, 1) := by decide +kernel
theorem dX5_passMinute_76 : decode cX5_passMinute 76 = .ok (.getfield 27, 3) := by decide +kernel
theorem dX5_passMinute_79 : decode cX5_passMinute 79 = .ok (.getfield 82, 3) := by decide +kernel
theorem dX5_passMinute_82 : decode cX5_passMinute 82 = .ok (.iload_n 1, 1) := by decide +kernel
theorem dX5_passMinute_83 : decode cX5_passMinute 83 = .ok (.aaload, 1) := by decide +kernel
theorem dX5_passMinute_84 : decode cX5_passMinute 84 = .ok (.iload_n 1, 1) := by decide +kernel
theorem dX5_passMinute_85 : decode cX5_passMinute 85 = .ok (.invokevirtual 94, 3) := by decide +kernel
theorem dX5_passMinute_88 : decode cX5_passMinute 88 = .ok (.iinc 1 1, 3) := by decide +kernel
theorem dX5_passMinute_91 : decode cX5_passMinute 91 = .ok (.goto (-51), 3) := by decide +kernel
theorem dX5_passMinute_94 : decode cX5_passMinute 94 = .ok (.aload_n 0, 1) := by decide +kernel
theorem dX5_passMinute_95 : decode cX5_passMinute 95 = .ok (.invokevirtual 98, 3) := by decide +kernel
theorem dX5_passMinute_98 : decode cX5_passMinute 98 = .ok (.aload_n 0, 1) := by decide +kernel
theorem dX5_passMinute_99 : decode cX5_passMinute 99 = .ok (.dup, 1) := by decide +kernel
theorem dX5_passMinute_100 : decode cX5_passMinute 100 = .ok (.getfield 52, 3) := by decide +kernel
theorem dX5_passMinute_103 : decode cX5_passMinute 103 = .ok (.iconst 1, 1) := by decide +kernel
theorem dX5_passMinute_104 : decode cX5_passMinute 104 = .ok (.iadd, 1) := by decide +kernel
theorem dX5_passMinute_105 : decode cX5_passMinute 105 = .ok (.putfield 52, 3) := by decide +kernel
theorem dX5_passMinute_108 : decode cX5_passMinute 108 = .ok (.return_, 1) := by decide +kernel
theorem dX5_moveTrolleys_0 : decode cX5_moveTrolleys 0 = .ok (.iconst 0, 1) := by decide +kernel
theorem dX5_moveTrolleys_1 : decode cX5_moveTrolleys 1 = .ok (.istore_n 3, 1) := by decide +kernel
theorem dX5_moveTrolleys_2 : decode cX5_moveTrolleys 2 = .ok (.iload_n 3, 1) := by decide +kernel
theorem dX5_moveTrolleys_3 : decode cX5_moveTrolleys 3 = .ok (.aload_n 2, 1) := by decide +kernel
theorem dX5_moveTrolleys_4 : decode cX5_moveTrolleys 4 = .ok (.getfield 101, 3) := by decide +kernel
theorem dX5_moveTrolleys_7 : decode cX5_moveTrolleys 7 = .ok (.if_icmp .ge 77, 3) := by decide +kernel
theorem dX5_moveTrolleys_10 : decode cX5_moveTrolleys 10 = .ok (.aload_n 2, 1) := by decide +kernel
theorem dX5_moveTrolleys_11 : decode cX5_moveTrolleys 11 = .ok (.getfield 104, 3) := by decide +kernel
theorem dX5_moveTrolleys_14 : decode cX5_moveTrolleys 14 = .ok (.iload_n 3, 1) := by decide +kernel
theorem dX5_moveTrolleys_15 : decode cX5_moveTrolleys 15 = .ok (.dup2, 1) := by decide +kernel
theorem dX5_moveTrolleys_16 : decode cX5_moveTrolleys 16 = .ok (.iaload, 1) := by decide +kernel
theorem dX5_moveTrolleys_17 : decode cX5_moveTrolleys 17 = .ok (.iconst 1, 1) := by decide +kernel
theorem dX5_moveTrolleys_18 : decode cX5_moveTrolleys 18 = .ok (.isub, 1) := by decide +kernel
theorem dX5_moveTrolleys_19 : decode cX5_moveTrolleys 19 = .ok (.iastore, 1) := by decide +kernel
theorem dX5_moveTrolleys_20 : decode cX5_moveTrolleys 20 = .ok (.aload_n 2, 1) := by decide +kernel
theorem dX5_moveTrolleys_21 : decode cX5_moveTrolleys 21 = .ok (.getfield 107, 3) := by decide +kernel
theorem dX5_moveTrolleys_24 : decode cX5_moveTrolleys 24 = .ok (.iload_n 3, 1) := by decide +kernel
theorem dX5_moveTrolleys_25 : decode cX5_moveTrolleys 25 = .ok (.iaload, 1) := by decide +kernel
theorem dX5_moveTrolleys_26 : decode cX5_moveTrolleys 26 = .ok (.istore 4, 2) := by decide +kernel
theorem dX5_moveTrolleys_28 : decode cX5_moveTrolleys 28 = .ok (.iload 4, 2) := by decide +kernel
theorem dX5_moveTrolleys_30 : decode cX5_moveTrolleys 30 = .ok (.iconst (-1), 1) := by decide +kernel
theorem dX5_moveTrolleys_31 : decode cX5_moveTrolleys 31 = .ok (.if_icmp .eq 47, 3) := by decide +kernel
theorem dX5_moveTrolleys_34 : decode cX5_moveTrolleys 34 = .ok (.aload_n 0, 1) := by decide +kernel
theorem dX5_moveTrolleys_35 : decode cX5_moveTrolleys 35 = .ok (.getfield 11, 3) := by decide +kernel
theorem dX5_moveTrolleys_38 : decode cX5_moveTrolleys 38 = .ok (.iload 4, 2) := by decide +kernel
theorem dX5_moveTrolleys_40 : decode cX5_moveTrolleys 40 = .ok (.aaload, 1) := by decide +kernel
theorem dX5_moveTrolleys_41 : decode cX5_moveTrolleys 41 = .ok (.aload_n 2, 1) := by decide +kernel
theorem dX5_moveTrolleys_42 : decode cX5_moveTrolleys 42 = .ok (.getfield 104, 3) := by decide +kernel
theorem dX5_moveTrolleys_45 : decode cX5_moveTrolleys 45 = .ok (.iload_n 3, 1) := by decide +kernel
theorem dX5_moveTrolleys_46 : decode cX5_moveTrolleys 46 = .ok (.iaload, 1) := by decide +kernel
theorem dX5_moveTrolleys_47 : decode cX5_moveTrolleys 47 = .ok (.putfield 109, 3) := by decide +kernel
theorem dX5_moveTrolleys_50 : decode cX5_moveTrolleys 50 = .ok (.aload_n 2, 1) := by decide +kernel
theorem dX5_moveTrolleys_51 : decode cX5_moveTrolleys 51 = .ok (.getfield 104, 3) := by decide +kernel
theorem dX5_moveTrolleys_54 : decode cX5_moveTrolleys 54 = .ok (.iload_n 3, 1) := by decide +kernel
theorem dX5_moveTrolleys_55 : decode cX5_moveTrolleys 55 = .ok (.iaload, 1) := by decide +kernel
theorem dX5_moveTrolleys_56 : decode cX5_moveTrolleys 56 = .ok (.ifCond .gt 22, 3) := by decide +kernel
theorem dX5_moveTrolleys_59 : decode cX5_moveTrolleys 59 = .ok (.aload_n 2, 1) := by decide +kernel
theorem dX5_moveTrolleys_60 : decode cX5_moveTrolleys 60 = .ok (.iload_n 3, 1) := by decide +kernel
theorem dX5_moveTrolleys_61 : decode cX5_moveTrolleys 61 = .ok (.aload_n 1, 1) := by decide +kernel
theorem dX5_moveTrolleys_62 : decode cX5_moveTrolleys 62 = .ok (.invokevirtual 112, 3) := by decide +kernel
theorem dX5_moveTrolleys_65 : decode cX5_moveTrolleys 65 = .ok (.invokevirtual 118, 3) := by decide +kernel
theorem dX5_moveTrolleys_68 : decode cX5_moveTrolleys 68 = .ok (.aload_n 0, 1) := by decide +kernel
theorem dX5_moveTrolleys_69 : decode cX5_moveTrolleys 69 = .ok (.iload 4, 2) := by decide +kernel
theorem dX5_moveTrolleys_71 : decode cX5_moveTrolleys 71 = .ok (.aload_n 1, 1) := by decide +kernel
theorem dX5_moveTrolleys_72 : decode cX5_moveTrolleys 72 = .ok (.getfield 121, 3) := by decide +kernel
theorem dX5_moveTrolleys_75 : decode cX5_moveTrolleys 75 = .ok (.invokevirtual 124, 3) := by decide +kernel
theorem dX5_moveTrolleys_78 : decode cX5_moveTrolleys 78 = .ok (.iinc 3 1, 3) := by decide +kernel
theorem dX5_moveTrolleys_81 : decode cX5_moveTrolleys 81 = .ok (.goto (-79), 3) := by decide +kernel
theorem dX5_moveTrolleys_84 : decode cX5_moveTrolleys 84 = .ok (.aload_n 2, 1) := by decide +kernel
theorem dX5_moveTrolleys_85 : decode cX5_moveTrolleys 85 = .ok (.invokevirtual 127, 3) := by decide +kernel
theorem dX5_moveTrolleys_88 : decode cX5_moveTrolleys 88 = .ok (.return_, 1) := by decide +kernel
theorem dX5_beginRide_0 : decode cX5_beginRide 0 = .ok (.aload_n 0, 1) := by decide +kernel
theorem dX5_beginRide_1 : decode cX5_beginRide 1 = .ok (.iload_n 2, 1) := by decide +kernel
theorem dX5_beginRide_2 : decode cX5_beginRide 2 = .ok (.invokevirtual 130, 3) := by decide +kernel
theorem dX5_beginRide_5 : decode cX5_beginRide 5 = .ok (.istore_n 3, 1) := by decide +kernel
theorem dX5_beginRide_6 : decode cX5_beginRide 6 = .ok (.iload_n 3, 1) := by decide +kernel
theorem dX5_beginRide_7 : decode cX5_beginRide 7 = .ok (.iconst (-1), 1) := by decide +kernel
theorem dX5_beginRide_8 : decode cX5_beginRide 8 = .ok (.if_icmp .eq 15, 3) := by decide +kernel
theorem dX5_beginRide_11 : decode cX5_beginRide 11 = .ok (.aload_n 0, 1) := by decide +kernel
theorem dX5_beginRide_12 : decode cX5_beginRide 12 = .ok (.getfield 19, 3) := by decide +kernel
theorem dX5_beginRide_15 : decode cX5_beginRide 15 = .ok (.iload_n 2, 1) := by decide +kernel
theorem dX5_beginRide_16 : decode cX5_beginRide 16 = .ok (.aaload, 1) := by decide +kernel
theorem dX5_beginRide_17 : decode cX5_beginRide 17 = .ok (.invokevirtual 133, 3) := by decide +kernel
theorem dX5_beginRide_20 : decode cX5_beginRide 20 = .ok (.ifCond .ne 4, 3) := by decide +kernel
theorem dX5_beginRide_23 : decode cX5_beginRide 23 = .ok (.return_, 1) := by decide +kernel
theorem dX5_beginRide_24 : decode cX5_beginRide 24 = .ok (.aload_n 0, 1) := by decide +kernel
theorem dX5_beginRide_25 : decode cX5_beginRide 25 = .ok (.getfield 23, 3) := by decide +kernel
theorem dX5_beginRide_28 : decode cX5_beginRide 28 = .ok (.iload_n 3, 1) := by decide +kernel
theorem dX5_beginRide_29 : decode cX5_beginRide 29 = .ok (.iaload, 1) := by decide +kernel
theorem dX5_beginRide_30 : decode cX5_beginRide 30 = .ok (.istore 4, 2) := by decide +kernel
theorem dX5_beginRide_32 : decode cX5_beginRide 32 = .ok (.aload_n 0, 1) := by decide +kernel
theorem dX5_beginRide_33 : decode cX5_beginRide 33 = .ok (.getfield 27, 3) := by decide +kernel
theorem dX5_beginRide_36 : decode cX5_beginRide 36 = .ok (.getfield 58, 3) := by decide +kernel
theorem dX5_beginRide_39 : decode cX5_beginRide 39 = .ok (.iload 4, 2) := by decide +kernel
theorem dX5_beginRide_41 : decode cX5_beginRide 41 = .ok (.aaload, 1) := by decide +kernel
theorem dX5_beginRide_42 : decode cX5_beginRide 42 = .ok (.getfield 137, 3) := by decide +kernel
theorem dX5_beginRide_45 : decode cX5_beginRide 45 = .ok (.istore 5, 2) := by decide +kernel
theorem dX5_beginRide_47 : decode cX5_beginRide 47 = .ok (.aload_n 1, 1) := by decide +kernel
theorem dX5_beginRide_48 : decode cX5_beginRide 48 = .ok (.iload 5, 2) := by decide +kernel
theorem dX5_beginRide_50 : decode cX5_beginRide 50 = .ok (.invokevirtual 140, 3) := by decide +kernel
theorem dX5_beginRide_53 : decode cX5_beginRide 53 = .ok (.istore 6, 2) := by decide +kernel
theorem dX5_beginRide_55 : decode cX5_beginRide 55 = .ok (.aload_n 0, 1) := by decide +kernel
theorem dX5_beginRide_56 : decode cX5_beginRide 56 = .ok (.iload_n 3, 1) := by decide +kernel
theorem dX5_beginRide_57 : decode cX5_beginRide 57 = .ok (.invokevirtual 143, 3) := by decide +kernel
theorem dX5_beginRide_60 : decode cX5_beginRide 60 = .ok (.aload_n 0, 1) := by decide +kernel
theorem dX5_beginRide_61 : decode cX5_beginRide 61 = .ok (.getfield 11, 3) := by decide +kernel
theorem dX5_beginRide_64 : decode cX5_beginRide 64 = .ok (.iload 4, 2) := by decide +kernel
theorem dX5_beginRide_66 : decode cX5_beginRide 66 = .ok (.aaload, 1) := by decide +kernel
theorem dX5_beginRide_67 : decode cX5_beginRide 67 = .ok (.iload_n 2, 1) := by decide +kernel
theorem dX5_beginRide_68 : decode cX5_beginRide 68 = .ok (.iload 6, 2) := by decide +kernel
theorem dX5_beginRide_70 : decode cX5_beginRide 70 = .ok (.invokevirtual 146, 3) := by decide +kernel
theorem dX5_beginRide_73 : decode cX5_beginRide 73 = .ok (.aload_n 0, 1) := by decide +kernel
theorem dX5_beginRide_74 : decode cX5_beginRide 74 = .ok (.getfield 19, 3) := by decide +kernel
theorem dX5_beginRide_77 : decode cX5_beginRide 77 = .ok (.iload_n 2, 1) := by decide +kernel
theorem dX5_beginRide_78 : decode cX5_beginRide 78 = .ok (.aaload, 1) := by decide +kernel
theorem dX5_beginRide_79 : decode cX5_beginRide 79 = .ok (.iload 4, 2) := by decide +kernel
theorem dX5_beginRide_81 : decode cX5_beginRide 81 = .ok (.iload 6, 2) := by decide +kernel
theorem dX5_beginRide_83 : decode cX5_beginRide 83 = .ok (.invokevirtual 148, 3) := by decide +kernel
theorem dX5_beginRide_86 : decode cX5_beginRide 86 = .ok (.aload_n 0, 1) := by decide +kernel
theorem dX5_beginRide_87 : decode cX5_beginRide 87 = .ok (.getfield 19, 3) := by decide +kernel
theorem dX5_beginRide_90 : decode cX5_beginRide 90 = .ok (.iload_n 2, 1) := by decide +kernel
theorem dX5_beginRide_91 : decode cX5_beginRide 91 = .ok (.aaload, 1) := by decide +kernel
theorem dX5_beginRide_92 : decode cX5_beginRide 92 = .ok (.dup, 1) := by decide +kernel
theorem dX5_beginRide_93 : decode cX5_beginRide 93 = .ok (.getfield 151, 3) := by decide +kernel
theorem dX5_beginRide_96 : decode cX5_beginRide 96 = .ok (.aload_n 1, 1) := by decide +kernel
theorem dX5_beginRide_97 : decode cX5_beginRide 97 = .ok (.iload 5, 2) := by decide +kernel
theorem dX5_beginRide_99 : decode cX5_beginRide 99 = .ok (.invokevirtual 154, 3) := by decide +kernel
theorem dX5_beginRide_102 : decode cX5_beginRide 102 = .ok (.ifCond .eq 7, 3) := by decide +kernel
theorem dX5_beginRide_105 : decode cX5_beginRide 105 = .ok (.iconst 1, 1) := by decide +kernel
theorem dX5_beginRide_106 : decode cX5_beginRide 106 = .ok (.goto 4, 3) := by decide +kernel
theorem dX5_beginRide_109 : decode cX5_beginRide 109 = .ok (.iconst 0, 1) := by decide +kernel
theorem dX5_beginRide_110 : decode cX5_beginRide 110 = .ok (.iadd, 1) := by decide +kernel
theorem dX5_beginRide_111 : decode cX5_beginRide 111 = .ok (.putfield 151, 3) := by decide +kernel
theorem dX5_beginRide_114 : decode cX5_beginRide 114 = .ok (.return_, 1) := by decide +kernel
theorem dX5_firstWaitingFor_0 : decode cX5_firstWaitingFor 0 = .ok (.iconst 0, 1) := by decide +kernel
theorem dX5_firstWaitingFor_1 : decode cX5_firstWaitingFor 1 = .ok (.istore_n 2, 1) := by decide +kernel
theorem dX5_firstWaitingFor_2 : decode cX5_firstWaitingFor 2 = .ok (.iload_n 2, 1) := by decide +kernel
theorem dX5_firstWaitingFor_3 : decode cX5_firstWaitingFor 3 = .ok (.aload_n 0, 1) := by decide +kernel
theorem dX5_firstWaitingFor_4 : decode cX5_firstWaitingFor 4 = .ok (.getfield 49, 3) := by decide +kernel
theorem dX5_firstWaitingFor_7 : decode cX5_firstWaitingFor 7 = .ok (.if_icmp .ge 46, 3) := by decide +kernel
theorem dX5_firstWaitingFor_10 : decode cX5_firstWaitingFor 10 = .ok (.aload_n 0, 1) := by decide +kernel
theorem dX5_firstWaitingFor_11 : decode cX5_firstWaitingFor 11 = .ok (.getfield 23, 3) := by decide +kernel
theorem dX5_firstWaitingFor_14 : decode cX5_firstWaitingFor 14 = .ok (.iload_n 2, 1) := by decide +kernel
theorem dX5_firstWaitingFor_15 : decode cX5_firstWaitingFor 15 = .ok (.iaload, 1) := by decide +kernel
theorem dX5_firstWaitingFor_16 : decode cX5_firstWaitingFor 16 = .ok (.istore_n 3, 1) := by decide +kernel
theorem dX5_firstWaitingFor_17 : decode cX5_firstWaitingFor 17 = .ok (.aload_n 0, 1) := by decide +kernel
theorem dX5_firstWaitingFor_18 : decode cX5_firstWaitingFor 18 = .ok (.getfield 27, 3) := by decide +kernel
theorem dX5_firstWaitingFor_21 : decode cX5_firstWaitingFor 21 = .ok (.getfield 58, 3) := by decide +kernel
theorem dX5_firstWaitingFor_24 : decode cX5_firstWaitingFor 24 = .ok (.iload_n 3, 1) := by decide +kernel
theorem dX5_firstWaitingFor_25 : decode cX5_firstWaitingFor 25 = .ok (.aaload, 1) := by decide +kernel
theorem dX5_firstWaitingFor_26 : decode cX5_firstWaitingFor 26 = .ok (.getfield 158, 3) := by decide +kernel
theorem dX5_firstWaitingFor_29 : decode cX5_firstWaitingFor 29 = .ok (.aload_n 0, 1) := by decide +kernel
theorem dX5_firstWaitingFor_30 : decode cX5_firstWaitingFor 30 = .ok (.getfield 11, 3) := by decide +kernel
theorem dX5_firstWaitingFor_33 : decode cX5_firstWaitingFor 33 = .ok (.iload_n 3, 1) := by decide +kernel
theorem dX5_firstWaitingFor_34 : decode cX5_firstWaitingFor 34 = .ok (.aaload, 1) := by decide +kernel
theorem dX5_firstWaitingFor_35 : decode cX5_firstWaitingFor 35 = .ok (.getfield 162, 3) := by decide +kernel
theorem dX5_firstWaitingFor_38 : decode cX5_firstWaitingFor 38 = .ok (.invokevirtual 165, 3) := by decide +kernel
theorem dX5_firstWaitingFor_41 : decode cX5_firstWaitingFor 41 = .ok (.iload_n 1, 1) := by decide +kernel
theorem dX5_firstWaitingFor_42 : decode cX5_firstWaitingFor 42 = .ok (.if_icmp .ne 5, 3) := by decide +kernel
theorem dX5_firstWaitingFor_45 : decode cX5_firstWaitingFor 45 = .ok (.iload_n 2, 1) := by decide +kernel
theorem dX5_firstWaitingFor_46 : decode cX5_firstWaitingFor 46 = .ok (.ireturn, 1) := by decide +kernel
theorem dX5_firstWaitingFor_47 : decode cX5_firstWaitingFor 47 = .ok (.iinc 2 1, 3) := by decide +kernel
theorem dX5_firstWaitingFor_50 : decode cX5_firstWaitingFor 50 = .ok (.goto (-48), 3) := by decide +kernel
theorem dX5_firstWaitingFor_53 : decode cX5_firstWaitingFor 53 = .ok (.iconst (-1), 1) := by decide +kernel
theorem dX5_firstWaitingFor_54 : decode cX5_firstWaitingFor 54 = .ok (.ireturn, 1) := by decide +kernel
theorem dX5_leaveWaiting_0 : decode cX5_leaveWaiting 0 = .ok (.iload_n 1, 1) := by decide +kernel
theorem dX5_leaveWaiting_1 : decode cX5_leaveWaiting 1 = .ok (.istore_n 2, 1) := by decide +kernel
theorem dX5_leaveWaiting_2 : decode cX5_leaveWaiting 2 = .ok (.iload_n 2, 1) := by decide +kernel
theorem dX5_leaveWaiting_3 : decode cX5_leaveWaiting 3 = .ok (.iconst 1, 1) := by decide +kernel
theorem dX5_leaveWaiting_4 : decode cX5_leaveWaiting 4 = .ok (.iadd, 1) := by decide +kernel
theorem dX5_leaveWaiting_5 : decode cX5_leaveWaiting 5 = .ok (.aload_n 0, 1) := by decide +kernel
theorem dX5_leaveWaiting_6 : decode cX5_leaveWaiting 6 = .ok (.getfield 49, 3) := by decide +kernel
theorem dX5_leaveWaiting_9 : decode cX5_leaveWaiting 9 = .ok (.if_icmp .ge 23, 3) := by decide +kernel
theorem dX5_leaveWaiting_12 : decode cX5_leaveWaiting 12 = .ok (.aload_n 0, 1) := by decide +kernel
theorem dX5_leaveWaiting_13 : decode cX5_leaveWaiting 13 = .ok (.getfield 23, 3) := by decide +kernel
theorem dX5_leaveWaiting_16 : decode cX5_leaveWaiting 16 = .ok (.iload_n 2, 1) := by decide +kernel
theorem dX5_leaveWaiting_17 : decode cX5_leaveWaiting 17 = .ok (.aload_n 0, 1) := by decide +kernel
theorem dX5_leaveWaiting_18 : decode cX5_leaveWaiting 18 = .ok (.getfield 23, 3) := by decide +kernel
theorem dX5_leaveWaiting_21 : decode cX5_leaveWaiting 21 = .ok (.iload_n 2, 1) := by decide +kernel
theorem dX5_leaveWaiting_22 : decode cX5_leaveWaiting 22 = .ok (.iconst 1, 1) := by decide +kernel
theorem dX5_leaveWaiting_23 : decode cX5_leaveWaiting 23 = .ok (.iadd, 1) := by decide +kernel
theorem dX5_leaveWaiting_24 : decode cX5_leaveWaiting 24 = .ok (.iaload, 1) := by decide +kernel
theorem dX5_leaveWaiting_25 : decode cX5_leaveWaiting 25 = .ok (.iastore, 1) := by decide +kernel
theorem dX5_leaveWaiting_26 : decode cX5_leaveWaiting 26 = .ok (.iinc 2 1, 3) := by decide +kernel
theorem dX5_leaveWaiting_29 : decode cX5_leaveWaiting 29 = .ok (.goto (-27), 3) := by decide +kernel
theorem dX5_leaveWaiting_32 : decode cX5_leaveWaiting 32 = .ok (.aload_n 0, 1) := by decide +kernel
theorem dX5_leaveWaiting_33 : decode cX5_leaveWaiting 33 = .ok (.dup, 1) := by decide +kernel
theorem dX5_leaveWaiting_34 : decode cX5_leaveWaiting 34 = .ok (.getfield 49, 3) := by decide +kernel
theorem dX5_leaveWaiting_37 : decode cX5_leaveWaiting 37 = .ok (.iconst 1, 1) := by decide +kernel
theorem dX5_leaveWaiting_38 : decode cX5_leaveWaiting 38 = .ok (.isub, 1) := by decide +kernel
theorem dX5_leaveWaiting_39 : decode cX5_leaveWaiting 39 = .ok (.putfield 49, 3) := by decide +kernel
theorem dX5_leaveWaiting_42 : decode cX5_leaveWaiting 42 = .ok (.return_, 1) := by decide +kernel
theorem dX5_tireWaiting_0 : decode cX5_tireWaiting 0 = .ok (.iconst 0, 1) := by decide +kernel
theorem dX5_tireWaiting_1 : decode cX5_tireWaiting 1 = .ok (.istore_n 1, 1) := by decide +kernel
theorem dX5_tireWaiting_2 : decode cX5_tireWaiting 2 = .ok (.iconst 0, 1) := by decide +kernel
theorem dX5_tireWaiting_3 : decode cX5_tireWaiting 3 = .ok (.istore_n 2, 1) := by decide +kernel
theorem dX5_tireWaiting_4 : decode cX5_tireWaiting 4 = .ok (.iload_n 2, 1) := by decide +kernel
theorem dX5_tireWaiting_5 : decode cX5_tireWaiting 5 = .ok (.aload_n 0, 1) := by decide +kernel
theorem dX5_tireWaiting_6 : decode cX5_tireWaiting 6 = .ok (.getfield 49, 3) := by decide +kernel
theorem dX5_tireWaiting_9 : decode cX5_tireWaiting 9 = .ok (.if_icmp .ge 70, 3) := by decide +kernel
theorem dX5_tireWaiting_12 : decode cX5_tireWaiting 12 = .ok (.aload_n 0, 1) := by decide +kernel
theorem dX5_tireWaiting_13 : decode cX5_tireWaiting 13 = .ok (.getfield 23, 3) := by decide +kernel
theorem dX5_tireWaiting_16 : decode cX5_tireWaiting 16 = .ok (.iload_n 2, 1) := by decide +kernel
theorem dX5_tireWaiting_17 : decode cX5_tireWaiting 17 = .ok (.iaload, 1) := by decide +kernel
theorem dX5_tireWaiting_18 : decode cX5_tireWaiting 18 = .ok (.istore_n 3, 1) := by decide +kernel
theorem dX5_tireWaiting_19 : decode cX5_tireWaiting 19 = .ok (.aload_n 0, 1) := by decide +kernel
theorem dX5_tireWaiting_20 : decode cX5_tireWaiting 20 = .ok (.getfield 11, 3) := by decide +kernel
theorem dX5_tireWaiting_23 : decode cX5_tireWaiting 23 = .ok (.iload_n 3, 1) := by decide +kernel
theorem dX5_tireWaiting_24 : decode cX5_tireWaiting 24 = .ok (.aaload, 1) := by decide +kernel
theorem dX5_tireWaiting_25 : decode cX5_tireWaiting 25 = .ok (.astore 4, 2) := by decide +kernel
theorem dX5_tireWaiting_27 : decode cX5_tireWaiting 27 = .ok (.aload 4, 2) := by decide +kernel
theorem dX5_tireWaiting_29 : decode cX5_tireWaiting 29 = .ok (.dup, 1) := by decide +kernel
theorem dX5_tireWaiting_30 : decode cX5_tireWaiting 30 = .ok (.getfield 109, 3) := by decide +kernel
theorem dX5_tireWaiting_33 : decode cX5_tireWaiting 33 = .ok (.iconst 1, 1) := by decide +kernel
theorem dX5_tireWaiting_34 : decode cX5_tireWaiting 34 = .ok (.iadd, 1) := by decide +kernel
theorem dX5_tireWaiting_35 : decode cX5_tireWaiting 35 = .ok (.putfield 109, 3) := by decide +kernel
theorem dX5_tireWaiting_38 : decode cX5_tireWaiting 38 = .ok (.aload_n 0, 1) := by decide +kernel
theorem dX5_tireWaiting_39 : decode cX5_tireWaiting 39 = .ok (.getfield 27, 3) := by decide +kernel
theorem dX5_tireWaiting_42 : decode cX5_tireWaiting 42 = .ok (.getfield 58, 3) := by decide +kernel
theorem dX5_tireWaiting_45 : decode cX5_tireWaiting 45 = .ok (.iload_n 3, 1) := by decide +kernel
theorem dX5_tireWaiting_46 : decode cX5_tireWaiting 46 = .ok (.aaload, 1) := by decide +kernel
theorem dX5_tireWaiting_47 : decode cX5_tireWaiting 47 = .ok (.aload 4, 2) := by decide +kernel
theorem dX5_tireWaiting_49 : decode cX5_tireWaiting 49 = .ok (.invokestatic 170, 3) := by decide +kernel
theorem dX5_tireWaiting_52 : decode cX5_tireWaiting 52 = .ok (.ifCond .eq 11, 3) := by decide +kernel
theorem dX5_tireWaiting_55 : decode cX5_tireWaiting 55 = .ok (.aload 4, 2) := by decide +kernel
theorem dX5_tireWaiting_57 : decode cX5_tireWaiting 57 = .ok (.invokevirtual 174, 3) := by decide +kernel
theorem dX5_tireWaiting_60 : decode cX5_tireWaiting 60 = .ok (.goto 13, 3) := by decide +kernel
theorem dX5_tireWaiting_63 : decode cX5_tireWaiting 63 = .ok (.aload_n 0, 1) := by decide +kernel
theorem dX5_tireWaiting_64 : decode cX5_tireWaiting 64 = .ok (.getfield 23, 3) := by decide +kernel
theorem dX5_tireWaiting_67 : decode cX5_tireWaiting 67 = .ok (.iload_n 1, 1) := by decide +kernel
theorem dX5_tireWaiting_68 : decode cX5_tireWaiting 68 = .ok (.iload_n 3, 1) := by decide +kernel
theorem dX5_tireWaiting_69 : decode cX5_tireWaiting 69 = .ok (.iastore, 1) := by decide +kernel
theorem dX5_tireWaiting_70 : decode cX5_tireWaiting 70 = .ok (.iinc 1 1, 3) := by decide +kernel
theorem dX5_tireWaiting_73 : decode cX5_tireWaiting 73 = .ok (.iinc 2 1, 3) := by decide +kernel
theorem dX5_tireWaiting_76 : decode cX5_tireWaiting 76 = .ok (.goto (-72), 3) := by decide +kernel
theorem dX5_tireWaiting_79 : decode cX5_tireWaiting 79 = .ok (.aload_n 0, 1) := by decide +kernel
theorem dX5_tireWaiting_80 : decode cX5_tireWaiting 80 = .ok (.iload_n 1, 1) := by decide +kernel
theorem dX5_tireWaiting_81 : decode cX5_tireWaiting 81 = .ok (.putfield 49, 3) := by decide +kernel
theorem dX5_tireWaiting_84 : decode cX5_tireWaiting 84 = .ok (.return_, 1) := by decide +kernel
theorem dX5_givesUp_0 : decode cX5_givesUp 0 = .ok (.aload_n 0, 1) := by decide +kernel
theorem dX5_givesUp_1 : decode cX5_givesUp 1 = .ok (.getfield 158, 3) := by decide +kernel
theorem dX5_givesUp_4 : decode cX5_givesUp 4 = .ok (.aload_n 1, 1) := by decide +kernel
theorem dX5_givesUp_5 : decode cX5_givesUp 5 = .ok (.getfield 162, 3) := by decide +kernel
theorem dX5_givesUp_8 : decode cX5_givesUp 8 = .ok (.invokevirtual 177, 3) := by decide +kernel
theorem dX5_givesUp_11 : decode cX5_givesUp 11 = .ok (.iconst (-1), 1) := by decide +kernel
theorem dX5_givesUp_12 : decode cX5_givesUp 12 = .ok (.if_icmp .eq 14, 3) := by decide +kernel
theorem dX5_givesUp_15 : decode cX5_givesUp 15 = .ok (.aload_n 1, 1) := by decide +kernel
theorem dX5_givesUp_16 : decode cX5_givesUp 16 = .ok (.getfield 109, 3) := by decide +kernel
theorem dX5_givesUp_19 : decode cX5_givesUp 19 = .ok (.aload_n 0, 1) := by decide +kernel
theorem dX5_givesUp_20 : decode cX5_givesUp 20 = .ok (.getfield 180, 3) := by decide +kernel
theorem dX5_givesUp_23 : decode cX5_givesUp 23 = .ok (.if_icmp .lt 7, 3) := by decide +kernel
theorem dX5_givesUp_26 : decode cX5_givesUp 26 = .ok (.iconst 1, 1) := by decide +kernel
theorem dX5_givesUp_27 : decode cX5_givesUp 27 = .ok (.goto 4, 3) := by decide +kernel
theorem dX5_givesUp_30 : decode cX5_givesUp 30 = .ok (.iconst 0, 1) := by decide +kernel
theorem dX5_givesUp_31 : decode cX5_givesUp 31 = .ok (.ireturn, 1) := by decide +kernel
theorem dX5_queueLength_0 : decode cX5_queueLength 0 = .ok (.iconst 0, 1) := by decide +kernel
theorem dX5_queueLength_1 : decode cX5_queueLength 1 = .ok (.istore_n 2, 1) := by decide +kernel
theorem dX5_queueLength_2 : decode cX5_queueLength 2 = .ok (.iconst 0, 1) := by decide +kernel
theorem dX5_queueLength_3 : decode cX5_queueLength 3 = .ok (.istore_n 3, 1) := by decide +kernel
theorem dX5_queueLength_4 : decode cX5_queueLength 4 = .ok (.iload_n 3, 1) := by decide +kernel
theorem dX5_queueLength_5 : decode cX5_queueLength 5 = .ok (.aload_n 0, 1) := by decide +kernel
theorem dX5_queueLength_6 : decode cX5_queueLength 6 = .ok (.getfield 49, 3) := by decide +kernel
theorem dX5_queueLength_9 : decode cX5_queueLength 9 = .ok (.if_icmp .ge 30, 3) := by decide +kernel
theorem dX5_queueLength_12 : decode cX5_queueLength 12 = .ok (.aload_n 0, 1) := by decide +kernel
theorem dX5_queueLength_13 : decode cX5_queueLength 13 = .ok (.getfield 11, 3) := by decide +kernel
theorem dX5_queueLength_16 : decode cX5_queueLength 16 = .ok (.aload_n 0, 1) := by decide +kernel
theorem dX5_queueLength_17 : decode cX5_queueLength 17 = .ok (.getfield 23, 3) := by decide +kernel
theorem dX5_queueLength_20 : decode cX5_queueLength 20 = .ok (.iload_n 3, 1) := by decide +kernel
theorem dX5_queueLength_21 : decode cX5_queueLength 21 = .ok (.iaload, 1) := by decide +kernel
theorem dX5_queueLength_22 : decode cX5_queueLength 22 = .ok (.aaload, 1) := by decide +kernel
theorem dX5_queueLength_23 : decode cX5_queueLength 23 = .ok (.getfield 162, 3) := by decide +kernel
theorem dX5_queueLength_26 : decode cX5_queueLength 26 = .ok (.iload_n 1, 1) := by decide +kernel
theorem dX5_queueLength_27 : decode cX5_queueLength 27 = .ok (.if_icmp .ne 6, 3) := by decide +kernel
theorem dX5_queueLength_30 : decode cX5_queueLength 30 = .ok (.iinc 2 1, 3) := by decide +kernel
theorem dX5_queueLength_33 : decode cX5_queueLength 33 = .ok (.iinc 3 1, 3) := by decide +kernel
theorem dX5_queueLength_36 : decode cX5_queueLength 36 = .ok (.goto (-32), 3) := by decide +kernel
theorem dX5_queueLength_39 : decode cX5_queueLength 39 = .ok (.iload_n 2, 1) := by decide +kernel
theorem dX5_queueLength_40 : decode cX5_queueLength 40 = .ok (.ireturn, 1) := by decide +kernel
theorem dX5_inQueue_0 : decode cX5_inQueue 0 = .ok (.iconst 0, 1) := by decide +kernel
theorem dX5_inQueue_1 : decode cX5_inQueue 1 = .ok (.istore_n 3, 1) := by decide +kernel
theorem dX5_inQueue_2 : decode cX5_inQueue 2 = .ok (.iconst 0, 1) := by decide +kernel
theorem dX5_inQueue_3 : decode cX5_inQueue 3 = .ok (.istore 4, 2) := by decide +kernel
theorem dX5_inQueue_5 : decode cX5_inQueue 5 = .ok (.iload 4, 2) := by decide +kernel
theorem dX5_inQueue_7 : decode cX5_inQueue 7 = .ok (.aload_n 0, 1) := by decide +kernel
theorem dX5_inQueue_8 : decode cX5_inQueue 8 = .ok (.getfield 49, 3) := by decide +kernel
theorem dX5_inQueue_11 : decode cX5_inQueue 11 = .ok (.if_icmp .ge 44, 3) := by decide +kernel
theorem dX5_inQueue_14 : decode cX5_inQueue 14 = .ok (.aload_n 0, 1) := by decide +kernel
theorem dX5_inQueue_15 : decode cX5_inQueue 15 = .ok (.getfield 11, 3) := by decide +kernel
theorem dX5_inQueue_18 : decode cX5_inQueue 18 = .ok (.aload_n 0, 1) := by decide +kernel
theorem dX5_inQueue_19 : decode cX5_inQueue 19 = .ok (.getfield 23, 3) := by decide +kernel
theorem dX5_inQueue_22 : decode cX5_inQueue 22 = .ok (.iload 4, 2) := by decide +kernel
theorem dX5_inQueue_24 : decode cX5_inQueue 24 = .ok (.iaload, 1) := by decide +kernel
theorem dX5_inQueue_25 : decode cX5_inQueue 25 = .ok (.aaload, 1) := by decide +kernel
theorem dX5_inQueue_26 : decode cX5_inQueue 26 = .ok (.getfield 162, 3) := by decide +kernel
theorem dX5_inQueue_29 : decode cX5_inQueue 29 = .ok (.iload_n 1, 1) := by decide +kernel
theorem dX5_inQueue_30 : decode cX5_inQueue 30 = .ok (.if_icmp .ne 19, 3) := by decide +kernel
theorem dX5_inQueue_33 : decode cX5_inQueue 33 = .ok (.iload_n 3, 1) := by decide +kernel
theorem dX5_inQueue_34 : decode cX5_inQueue 34 = .ok (.iload_n 2, 1) := by decide +kernel
theorem dX5_inQueue_35 : decode cX5_inQueue 35 = .ok (.if_icmp .ne 11, 3) := by decide +kernel
theorem dX5_inQueue_38 : decode cX5_inQueue 38 = .ok (.aload_n 0, 1) := by decide +kernel
theorem dX5_inQueue_39 : decode cX5_inQueue 39 = .ok (.getfield 23, 3) := by decide +kernel
theorem dX5_inQueue_42 : decode cX5_inQueue 42 = .ok (.iload 4, 2) := by decide +kernel
theorem dX5_inQueue_44 : decode cX5_inQueue 44 = .ok (.iaload, 1) := by decide +kernel
theorem dX5_inQueue_45 : decode cX5_inQueue 45 = .ok (.ireturn, 1) := by decide +kernel
theorem dX5_inQueue_46 : decode cX5_inQueue 46 = .ok (.iinc 3 1, 3) := by decide +kernel
theorem dX5_inQueue_49 : decode cX5_inQueue 49 = .ok (.iinc 4 1, 3) := by decide +kernel
theorem dX5_inQueue_52 : decode cX5_inQueue 52 = .ok (.goto (-47), 3) := by decide +kernel
theorem dX5_inQueue_55 : decode cX5_inQueue 55 = .ok (.iconst (-1), 1) := by decide +kernel
theorem dX5_inQueue_56 : decode cX5_inQueue 56 = .ok (.ireturn, 1) := by decide +kernel
theorem dX5_arrivedAt_0 : decode cX5_arrivedAt 0 = .ok (.iconst 0, 1) := by decide +kernel
theorem dX5_arrivedAt_1 : decode cX5_arrivedAt 1 = .ok (.istore_n 2, 1) := by decide +kernel
theorem dX5_arrivedAt_2 : decode cX5_arrivedAt 2 = .ok (.iconst 0, 1) := by decide +kernel
theorem dX5_arrivedAt_3 : decode cX5_arrivedAt 3 = .ok (.istore_n 3, 1) := by decide +kernel
theorem dX5_arrivedAt_4 : decode cX5_arrivedAt 4 = .ok (.iload_n 3, 1) := by decide +kernel
theorem dX5_arrivedAt_5 : decode cX5_arrivedAt 5 = .ok (.aload_n 0, 1) := by decide +kernel
theorem dX5_arrivedAt_6 : decode cX5_arrivedAt 6 = .ok (.getfield 27, 3) := by decide +kernel
theorem dX5_arrivedAt_9 : decode cX5_arrivedAt 9 = .ok (.getfield 33, 3) := by decide +kernel
theorem dX5_arrivedAt_12 : decode cX5_arrivedAt 12 = .ok (.if_icmp .ge 38, 3) := by decide +kernel
theorem dX5_arrivedAt_15 : decode cX5_arrivedAt 15 = .ok (.aload_n 0, 1) := by decide +kernel
theorem dX5_arrivedAt_16 : decode cX5_arrivedAt 16 = .ok (.getfield 11, 3) := by decide +kernel
theorem dX5_arrivedAt_19 : decode cX5_arrivedAt 19 = .ok (.iload_n 3, 1) := by decide +kernel
theorem dX5_arrivedAt_20 : decode cX5_arrivedAt 20 = .ok (.aaload, 1) := by decide +kernel
theorem dX5_arrivedAt_21 : decode cX5_arrivedAt 21 = .ok (.getfield 183, 3) := by decide +kernel
theorem dX5_arrivedAt_24 : decode cX5_arrivedAt 24 = .ok (.iconst 2, 1) := by decide +kernel
theorem dX5_arrivedAt_25 : decode cX5_arrivedAt 25 = .ok (.if_icmp .ne 19, 3) := by decide +kernel
theorem dX5_arrivedAt_28 : decode cX5_arrivedAt 28 = .ok (.aload_n 0, 1) := by decide +kernel
theorem dX5_arrivedAt_29 : decode cX5_arrivedAt 29 = .ok (.getfield 11, 3) := by decide +kernel
theorem dX5_arrivedAt_32 : decode cX5_arrivedAt 32 = .ok (.iload_n 3, 1) := by decide +kernel
theorem dX5_arrivedAt_33 : decode cX5_arrivedAt 33 = .ok (.aaload, 1) := by decide +kernel
theorem dX5_arrivedAt_34 : decode cX5_arrivedAt 34 = .ok (.getfield 162, 3) := by decide +kernel
theorem dX5_arrivedAt_37 : decode cX5_arrivedAt 37 = .ok (.iload_n 1, 1) := by decide +kernel
theorem dX5_arrivedAt_38 : decode cX5_arrivedAt 38 = .ok (.if_icmp .ne 6, 3) := by decide +kernel
theorem dX5_arrivedAt_41 : decode cX5_arrivedAt 41 = .ok (.iinc 2 1, 3) := by decide +kernel
theorem dX5_arrivedAt_44 : decode cX5_arrivedAt 44 = .ok (.iinc 3 1, 3) := by decide +kernel
theorem dX5_arrivedAt_47 : decode cX5_arrivedAt 47 = .ok (.goto (-43), 3) := by decide +kernel
theorem dX5_arrivedAt_50 : decode cX5_arrivedAt 50 = .ok (.iload_n 2, 1) := by decide +kernel
theorem dX5_arrivedAt_51 : decode cX5_arrivedAt 51 = .ok (.ireturn, 1) := by decide +kernel
theorem dX5_ridersIn_0 : decode cX5_ridersIn 0 = .ok (.iconst 0, 1) := by decide +kernel
theorem dX5_ridersIn_1 : decode cX5_ridersIn 1 = .ok (.istore_n 2, 1) := by decide +kernel
theorem dX5_ridersIn_2 : decode cX5_ridersIn 2 = .ok (.iconst 0, 1) := by decide +kernel
theorem dX5_ridersIn_3 : decode cX5_ridersIn 3 = .ok (.istore_n 3, 1) := by decide +kernel
theorem dX5_ridersIn_4 : decode cX5_ridersIn 4 = .ok (.iload_n 3, 1) := by decide +kernel
theorem dX5_ridersIn_5 : decode cX5_ridersIn 5 = .ok (.aload_n 0, 1) := by decide +kernel
theorem dX5_ridersIn_6 : decode cX5_ridersIn 6 = .ok (.getfield 27, 3) := by decide +kernel
theorem dX5_ridersIn_9 : decode cX5_ridersIn 9 = .ok (.getfield 33, 3) := by decide +kernel
theorem dX5_ridersIn_12 : decode cX5_ridersIn 12 = .ok (.if_icmp .ge 25, 3) := by decide +kernel
theorem dX5_ridersIn_15 : decode cX5_ridersIn 15 = .ok (.aload_n 0, 1) := by decide +kernel
theorem dX5_ridersIn_16 : decode cX5_ridersIn 16 = .ok (.getfield 11, 3) := by decide +kernel
theorem dX5_ridersIn_19 : decode cX5_ridersIn 19 = .ok (.iload_n 3, 1) := by decide +kernel
theorem dX5_ridersIn_20 : decode cX5_ridersIn 20 = .ok (.aaload, 1) := by decide +kernel
theorem dX5_ridersIn_21 : decode cX5_ridersIn 21 = .ok (.getfield 183, 3) := by decide +kernel
theorem dX5_ridersIn_24 : decode cX5_ridersIn 24 = .ok (.iload_n 1, 1) := by decide +kernel
theorem dX5_ridersIn_25 : decode cX5_ridersIn 25 = .ok (.if_icmp .ne 6, 3) := by decide +kernel
theorem dX5_ridersIn_28 : decode cX5_ridersIn 28 = .ok (.iinc 2 1, 3) := by decide +kernel
theorem dX5_ridersIn_31 : decode cX5_ridersIn 31 = .ok (.iinc 3 1, 3) := by decide +kernel
theorem dX5_ridersIn_34 : decode cX5_ridersIn 34 = .ok (.goto (-30), 3) := by decide +kernel
theorem dX5_ridersIn_37 : decode cX5_ridersIn 37 = .ok (.iload_n 2, 1) := by decide +kernel
theorem dX5_ridersIn_38 : decode cX5_ridersIn 38 = .ok (.ireturn, 1) := by decide +kernel
theorem dX5_trolleysInAll_0 : decode cX5_trolleysInAll 0 = .ok (.iconst 0, 1) := by decide +kernel
theorem dX5_trolleysInAll_1 : decode cX5_trolleysInAll 1 = .ok (.istore_n 1, 1) := by decide +kernel
theorem dX5_trolleysInAll_2 : decode cX5_trolleysInAll 2 = .ok (.iconst 0, 1) := by decide +kernel
theorem dX5_trolleysInAll_3 : decode cX5_trolleysInAll 3 = .ok (.istore_n 2, 1) := by decide +kernel
theorem dX5_trolleysInAll_4 : decode cX5_trolleysInAll 4 = .ok (.iload_n 2, 1) := by decide +kernel
theorem dX5_trolleysInAll_5 : decode cX5_trolleysInAll 5 = .ok (.aload_n 0, 1) := by decide +kernel
theorem dX5_trolleysInAll_6 : decode cX5_trolleysInAll 6 = .ok (.getfield 27, 3) := by decide +kernel
theorem dX5_trolleysInAll_9 : decode cX5_trolleysInAll 9 = .ok (.getfield 43, 3) := by decide +kernel
theorem dX5_trolleysInAll_12 : decode cX5_trolleysInAll 12 = .ok (.if_icmp .ge 21, 3) := by decide +kernel
theorem dX5_trolleysInAll_15 : decode cX5_trolleysInAll 15 = .ok (.iload_n 1, 1) := by decide +kernel
theorem dX5_trolleysInAll_16 : decode cX5_trolleysInAll 16 = .ok (.aload_n 0, 1) := by decide +kernel
theorem dX5_trolleysInAll_17 : decode cX5_trolleysInAll 17 = .ok (.getfield 19, 3) := by decide +kernel
theorem dX5_trolleysInAll_20 : decode cX5_trolleysInAll 20 = .ok (.iload_n 2, 1) := by decide +kernel
theorem dX5_trolleysInAll_21 : decode cX5_trolleysInAll 21 = .ok (.aaload, 1) := by decide +kernel
theorem dX5_trolleysInAll_22 : decode cX5_trolleysInAll 22 = .ok (.invokevirtual 186, 3) := by decide +kernel
theorem dX5_trolleysInAll_25 : decode cX5_trolleysInAll 25 = .ok (.iadd, 1) := by decide +kernel
theorem dX5_trolleysInAll_26 : decode cX5_trolleysInAll 26 = .ok (.istore_n 1, 1) := by decide +kernel
theorem dX5_trolleysInAll_27 : decode cX5_trolleysInAll 27 = .ok (.iinc 2 1, 3) := by decide +kernel
theorem dX5_trolleysInAll_30 : decode cX5_trolleysInAll 30 = .ok (.goto (-26), 3) := by decide +kernel
theorem dX5_trolleysInAll_33 : decode cX5_trolleysInAll 33 = .ok (.iload_n 1, 1) := by decide +kernel
theorem dX5_trolleysInAll_34 : decode cX5_trolleysInAll 34 = .ok (.ireturn, 1) := by decide +kernel
theorem dX5_ridesInAll_0 : decode cX5_ridesInAll 0 = .ok (.iconst 0, 1) := by decide +kernel
theorem dX5_ridesInAll_1 : decode cX5_ridesInAll 1 = .ok (.istore_n 1, 1) := by decide +kernel
theorem dX5_ridesInAll_2 : decode cX5_ridesInAll 2 = .ok (.iconst 0, 1) := by decide +kernel
theorem dX5_ridesInAll_3 : decode cX5_ridesInAll 3 = .ok (.istore_n 2, 1) := by decide +kernel
theorem dX5_ridesInAll_4 : decode cX5_ridesInAll 4 = .ok (.iload_n 2, 1) := by decide +kernel
theorem dX5_ridesInAll_5 : decode cX5_ridesInAll 5 = .ok (.aload_n 0, 1) := by decide +kernel
theorem dX5_ridesInAll_6 : decode cX5_ridesInAll 6 = .ok (.getfield 27, 3) := by decide +kernel
theorem dX5_ridesInAll_9 : decode cX5_ridesInAll 9 = .ok (.getfield 43, 3) := by decide +kernel
theorem dX5_ridesInAll_12 : decode cX5_ridesInAll 12 = .ok (.if_icmp .ge 21, 3) := by decide +kernel
theorem dX5_ridesInAll_15 : decode cX5_ridesInAll 15 = .ok (.iload_n 1, 1) := by decide +kernel
theorem dX5_ridesInAll_16 : decode cX5_ridesInAll 16 = .ok (.aload_n 0, 1) := by decide +kernel
theorem dX5_ridesInAll_17 : decode cX5_ridesInAll 17 = .ok (.getfield 19, 3) := by decide +kernel
theorem dX5_ridesInAll_20 : decode cX5_ridesInAll 20 = .ok (.iload_n 2, 1) := by decide +kernel
theorem dX5_ridesInAll_21 : decode cX5_ridesInAll 21 = .ok (.aaload, 1) := by decide +kernel
theorem dX5_ridesInAll_22 : decode cX5_ridesInAll 22 = .ok (.getfield 189, 3) := by decide +kernel
theorem dX5_ridesInAll_25 : decode cX5_ridesInAll 25 = .ok (.iadd, 1) := by decide +kernel
theorem dX5_ridesInAll_26 : decode cX5_ridesInAll 26 = .ok (.istore_n 1, 1) := by decide +kernel
theorem dX5_ridesInAll_27 : decode cX5_ridesInAll 27 = .ok (.iinc 2 1, 3) := by decide +kernel
theorem dX5_ridesInAll_30 : decode cX5_ridesInAll 30 = .ok (.goto (-26), 3) := by decide +kernel
theorem dX5_ridesInAll_33 : decode cX5_ridesInAll 33 = .ok (.iload_n 1, 1) := by decide +kernel
theorem dX5_ridesInAll_34 : decode cX5_ridesInAll 34 = .ok (.ireturn, 1) := by decide +kernel
theorem dX8_init_0 : decode cX8_init 0 = .ok (.aload_n 0, 1) := by decide +kernel
theorem dX8_init_1 : decode cX8_init 1 = .ok (.invokespecial 1, 3) := by decide +kernel
theorem dX8_init_4 : decode cX8_init 4 = .ok (.aload_n 0, 1) := by decide +kernel
theorem dX8_init_5 : decode cX8_init 5 = .ok (.new 7, 3) := by decide +kernel
theorem dX8_init_8 : decode cX8_init 8 = .ok (.dup, 1) := by decide +kernel
theorem dX8_init_9 : decode cX8_init 9 = .ok (.invokespecial 9, 3) := by decide +kernel
theorem dX8_init_12 : decode cX8_init 12 = .ok (.putfield 10, 3) := by decide +kernel
theorem dX8_init_15 : decode cX8_init 15 = .ok (.aload_n 0, 1) := by decide +kernel
theorem dX8_init_16 : decode cX8_init 16 = .ok (.new 16, 3) := by decide +kernel
theorem dX8_init_19 : decode cX8_init 19 = .ok (.dup, 1) := by decide +kernel
theorem dX8_init_20 : decode cX8_init 20 = .ok (.aload_n 0, 1) := by decide +kernel
theorem dX8_init_21 : decode cX8_init 21 = .ok (.getfield 10, 3) := by decide +kernel
theorem dX8_init_24 : decode cX8_init 24 = .ok (.invokespecial 18, 3) := by decide +kernel
theorem dX8_init_27 : decode cX8_init 27 = .ok (.putfield 21, 3) := by decide +kernel
theorem dX8_init_30 : decode cX8_init 30 = .ok (.aload_n 0, 1) := by decide +kernel
theorem dX8_init_31 : decode cX8_init 31 = .ok (.new 16, 3) := by decide +kernel
theorem dX8_init_34 : decode cX8_init 34 = .ok (.dup, 1) := by decide +kernel
theorem dX8_init_35 : decode cX8_init 35 = .ok (.aload_n 0, 1) := by decide +kernel
theorem dX8_init_36 : decode cX8_init 36 = .ok (.getfield 10, 3) := by decide +kernel
theorem dX8_init_39 : decode cX8_init 39 = .ok (.invokespecial 18, 3) := by decide +kernel
theorem dX8_init_42 : decode cX8_init 42 = .ok (.putfield 25, 3) := by decide +kernel
theorem dX8_init_45 : decode cX8_init 45 = .ok (.aload_n 0, 1) := by decide +kernel
theorem dX8_init_46 : decode cX8_init 46 = .ok (.new 28, 3) := by decide +kernel
theorem dX8_init_49 : decode cX8_init 49 = .ok (.dup, 1) := by decide +kernel
theorem dX8_init_50 : decode cX8_init 50 = .ok (.invokespecial 30, 3) := by decide +kernel
theorem dX8_init_53 : decode cX8_init 53 = .ok (.putfield 31, 3) := by decide +kernel
theorem dX8_init_56 : decode cX8_init 56 = .ok (.return_, 1) := by decide +kernel
theorem dX8_build_0 : decode cX8_build 0 = .ok (.iload_n 1, 1) := by decide +kernel
theorem dX8_build_1 : decode cX8_build 1 = .ok (.iconst 0, 1) := by decide +kernel
theorem dX8_build_2 : decode cX8_build 2 = .ok (.bipush 40, 2) := by decide +kernel
theorem dX8_build_4 : decode cX8_build 4 = .ok (.invokestatic 35, 3) := by decide +kernel
theorem dX8_build_7 : decode cX8_build 7 = .ok (.ifCond .eq 23, 3) := by decide +kernel
theorem dX8_build_10 : decode cX8_build 10 = .ok (.iload_n 2, 1) := by decide +kernel
theorem dX8_build_11 : decode cX8_build 11 = .ok (.iconst 0, 1) := by decide +kernel
theorem dX8_build_12 : decode cX8_build 12 = .ok (.bipush 40, 2) := by decide +kernel
theorem dX8_build_14 : decode cX8_build 14 = .ok (.invokestatic 35, 3) := by decide +kernel
theorem dX8_build_17 : decode cX8_build 17 = .ok (.ifCond .eq 13, 3) := by decide +kernel
theorem dX8_build_20 : decode cX8_build 20 = .ok (.iload_n 3, 1) := by decide +kernel
theorem dX8_build_21 : decode cX8_build 21 = .ok (.iconst 0, 1) := by decide +kernel
theorem dX8_build_22 : decode cX8_build 22 = .ok (.bipush 60, 2) := by decide +kernel
theorem dX8_build_24 : decode cX8_build 24 = .ok (.invokestatic 35, 3) := by decide +kernel
theorem dX8_build_27 : decode cX8_build 27 = .ok (.ifCond .ne 13, 3) := by decide +kernel
theorem dX8_build_30 : decode cX8_build 30 = .ok (.new 39, 3) := by decide +kernel
theorem dX8_build_33 : decode cX8_build 33 = .ok (.dup, 1) := by decide +kernel
theorem dX8_build_34 : decode cX8_build 34 = .ok (.ldc 41, 2) := by decide +kernel
theorem dX8_build_36 : decode cX8_build 36 = .ok (.invokespecial 43, 3) := by decide +kernel
theorem dX8_build_39 : decode cX8_build 39 = .ok (.athrow, 1) := by decide +kernel
theorem dX8_build_40 : decode cX8_build 40 = .ok (.aload_n 0, 1) := by decide +kernel
theorem dX8_build_41 : decode cX8_build 41 = .ok (.getfield 10, 3) := by decide +kernel
theorem dX8_build_44 : decode cX8_build 44 = .ok (.iload_n 1, 1) := by decide +kernel
theorem dX8_build_45 : decode cX8_build 45 = .ok (.iload_n 2, 1) := by decide +kernel
theorem dX8_build_46 : decode cX8_build 46 = .ok (.invokevirtual 46, 3) := by decide +kernel
theorem dX8_build_49 : decode cX8_build 49 = .ok (.ifCond .ne 15, 3) := by decide +kernel
theorem dX8_build_52 : decode cX8_build 52 = .ok (.aload_n 0, 1) := by decide +kernel
theorem dX8_build_53 : decode cX8_build 53 = .ok (.getfield 10, 3) := by decide +kernel
theorem dX8_build_56 : decode cX8_build 56 = .ok (.getfield 50, 3) := by decide +kernel
theorem dX8_build_59 : decode cX8_build 59 = .ok (.bipush 8, 2) := by decide +kernel
theorem dX8_build_61 : decode cX8_build 61 = .ok (.if_icmp .lt 13, 3) := by decide +kernel
theorem dX8_build_64 : decode cX8_build 64 = .ok (.new 54, 3) := by decide +kernel
theorem dX8_build_67 : decode cX8_build 67 = .ok (.dup, 1) := by decide +kernel
theorem dX8_build_68 : decode cX8_build 68 = .ok (.ldc 56, 2) := by decide +kernel
theorem dX8_build_70 : decode cX8_build 70 = .ok (.invokespecial 58, 3) := by decide +kernel
theorem dX8_build_73 : decode cX8_build 73 = .ok (.athrow, 1) := by decide +kernel
theorem dX8_build_74 : decode cX8_build 74 = .ok (.aload_n 0, 1) := by decide +kernel
theorem dX8_build_75 : decode cX8_build 75 = .ok (.getfield 10, 3) := by decide +kernel
theorem dX8_build_78 : decode cX8_build 78 = .ok (.iload_n 1, 1) := by decide +kernel
theorem dX8_build_79 : decode cX8_build 79 = .ok (.iload_n 2, 1) := by decide +kernel
theorem dX8_build_80 : decode cX8_build 80 = .ok (.iload_n 3, 1) := by decide +kernel
theorem dX8_build_81 : decode cX8_build 81 = .ok (.invokevirtual 59, 3) := by decide +kernel
theorem dX8_build_84 : decode cX8_build 84 = .ok (.ireturn, 1) := by decide +kernel
theorem dX8_span_0 : decode cX8_span 0 = .ok (.aload_n 0, 1) := by decide +kernel
theorem dX8_span_1 : decode cX8_span 1 = .ok (.iload_n 1, 1) := by decide +kernel
theorem dX8_span_2 : decode cX8_span 2 = .ok (.invokevirtual 63, 3) := by decide +kernel
theorem dX8_span_5 : decode cX8_span 5 = .ok (.ifCond .eq 11, 3) := by decide +kernel
theorem dX8_span_8 : decode cX8_span 8 = .ok (.aload_n 0, 1) := by decide +kernel
theorem dX8_span_9 : decode cX8_span 9 = .ok (.iload_n 2, 1) := by decide +kernel
theorem dX8_span_10 : decode cX8_span 10 = .ok (.invokevirtual 63, 3) := by decide +kernel
theorem dX8_span_13 : decode cX8_span 13 = .ok (.ifCond .ne 13, 3) := by decide +kernel
theorem dX8_span_16 : decode cX8_span 16 = .ok (.new 67, 3) := by decide +kernel
theorem dX8_span_19 : decode cX8_span 19 = .ok (.dup, 1) := by decide +kernel
theorem dX8_span_20 : decode cX8_span 20 = .ok (.ldc 69, 2) := by decide +kernel
theorem dX8_span_22 : decode cX8_span 22 = .ok (.invokespecial 71, 3) := by decide +kernel
theorem dX8_span_25 : decode cX8_span 25 = .ok (.athrow, 1) := by decide +kernel
theorem dX8_span_26 : decode cX8_span 26 = .ok (.aload_n 0, 1) := by decide +kernel
theorem dX8_span_27 : decode cX8_span 27 = .ok (.getfield 10, 3) := by decide +kernel
theorem dX8_span_30 : decode cX8_span 30 = .ok (.iload_n 2, 1) := by decide +kernel
theorem dX8_span_31 : decode cX8_span 31 = .ok (.iload_n 1, 1) := by decide +kernel
theorem dX8_span_32 : decode cX8_span 32 = .ok (.invokevirtual 72, 3) := by decide +kernel
theorem dX8_span_35 : decode cX8_span 35 = .ok (.ifCond .eq 25, 3) := by decide +kernel
theorem dX8_span_38 : decode cX8_span 38 = .ok (.iload_n 3, 1) := by decide +kernel
theorem dX8_span_39 : decode cX8_span 39 = .ok (.bipush 20, 2) := by decide +kernel
theorem dX8_span_41 : decode cX8_span 41 = .ok (.sipush 150, 3) := by decide +kernel
theorem dX8_span_44 : decode cX8_span 44 = .ok (.invokestatic 35, 3) := by decide +kernel
theorem dX8_span_47 : decode cX8_span 47 = .ok (.ifCond .eq 13, 3) := by decide +kernel
theorem dX8_span_50 : decode cX8_span 50 = .ok (.iload 4, 2) := by decide +kernel
theorem dX8_span_52 : decode cX8_span 52 = .ok (.iconst 1, 1) := by decide +kernel
theorem dX8_span_53 : decode cX8_span 53 = .ok (.iconst 3, 1) := by decide +kernel
theorem dX8_span_54 : decode cX8_span 54 = .ok (.invokestatic 35, 3) := by decide +kernel
theorem dX8_span_57 : decode cX8_span 57 = .ok (.ifCond .ne 13, 3) := by decide +kernel
theorem dX8_span_60 : decode cX8_span 60 = .ok (.new 39, 3) := by decide +kernel
theorem dX8_span_63 : decode cX8_span 63 = .ok (.dup, 1) := by decide +kernel
theorem dX8_span_64 : decode cX8_span 64 = .ok (.ldc 75, 2) := by decide +kernel
theorem dX8_span_66 : decode cX8_span 66 = .ok (.invokespecial 43, 3) := by decide +kernel
theorem dX8_span_69 : decode cX8_span 69 = .ok (.athrow, 1) := by decide +kernel
theorem dX8_span_70 : decode cX8_span 70 = .ok (.aload_n 0, 1) := by decide +kernel
theorem dX8_span_71 : decode cX8_span 71 = .ok (.getfield 10, 3) := by decide +kernel
theorem dX8_span_74 : decode cX8_span 74 = .ok (.getfield 77, 3) := by decide +kernel
theorem dX8_span_77 : decode cX8_span 77 = .ok (.bipush 12, 2) := by decide +kernel
theorem dX8_span_79 : decode cX8_span 79 = .ok (.if_icmp .lt 13, 3) := by decide +kernel
theorem dX8_span_82 : decode cX8_span 82 = .ok (.new 54, 3) := by decide +kernel
theorem dX8_span_85 : decode cX8_span 85 = .ok (.dup, 1) := by decide +kernel
theorem dX8_span_86 : decode cX8_span 86 = .ok (.ldc 80, 2) := by decide +kernel
theorem dX8_span_88 : decode cX8_span 88 = .ok (.invokespecial 58, 3) := by decide +kernel
theorem dX8_span_91 : decode cX8_span 91 = .ok (.athrow, 1) := by decide +kernel
theorem dX8_span_92 : decode cX8_span 92 = .ok (.aload_n 0, 1) := by decide +kernel
theorem dX8_span_93 : decode cX8_span 93 = .ok (.getfield 10, 3) := by decide +kernel
theorem dX8_span_96 : decode cX8_span 96 = .ok (.iload_n 1, 1) := by decide +kernel
theorem dX8_span_97 : decode cX8_span 97 = .ok (.iload_n 2, 1) := by decide +kernel
theorem dX8_span_98 : decode cX8_span 98 = .ok (.iload_n 3, 1) := by decide +kernel
theorem dX8_span_99 : decode cX8_span 99 = .ok (.invokevirtual 82, 3) := by decide +kernel
theorem dX8_span_102 : decode cX8_span 102 = .ok (.istore 5, 2) := by decide +kernel
theorem dX8_span_104 : decode cX8_span 104 = .ok (.aload_n 0, 1) := by decide +kernel
theorem dX8_span_105 : decode cX8_span 105 = .ok (.getfield 21, 3) := by decide +kernel
theorem dX8_span_108 : decode cX8_span 108 = .ok (.iload 5, 2) := by decide +kernel
theorem dX8_span_110 : decode cX8_span 110 = .ok (.iload 4, 2) := by decide +kernel
theorem dX8_span_112 : decode cX8_span 112 = .ok (.invokevirtual 85, 3) := by decide +kernel
theorem dX8_span_115 : decode cX8_span 115 = .ok (.iload 5, 2) := by decide +kernel
theorem dX8_span_117 : decode cX8_span 117 = .ok (.ireturn, 1) := by decide +kernel
theorem dX8_add_0 : decode cX8_add 0 = .ok (.aload_n 0, 1) := by decide +kernel
theorem dX8_add_1 : decode cX8_add 1 = .ok (.iload_n 1, 1) := by decide +kernel
theorem dX8_add_2 : decode cX8_add 2 = .ok (.invokevirtual 89, 3) := by decide +kernel
theorem dX8_add_5 : decode cX8_add 5 = .ok (.ifCond .ne 13, 3) := by decide +kernel
theorem dX8_add_8 : decode cX8_add 8 = .ok (.new 67, 3) := by decide +kernel
theorem dX8_add_11 : decode cX8_add 11 = .ok (.dup, 1) := by decide +kernel
theorem dX8_add_12 : decode cX8_add 12 = .ok (.ldc 92, 2) := by decide +kernel
theorem dX8_add_14 : decode cX8_add 14 = .ok (.invokespecial 71, 3) := by decide +kernel
theorem dX8_add_17 : decode cX8_add 17 = .ok (.athrow, 1) := by decide +kernel
theorem dX8_add_18 : decode cX8_add 18 = .ok (.aload_n 0, 1) := by decide +kernel
theorem dX8_add_19 : decode cX8_add 19 = .ok (.getfield 21, 3) := by decide +kernel
theorem dX8_add_22 : decode cX8_add 22 = .ok (.getfield 94, 3) := by decide +kernel
theorem dX8_add_25 : decode cX8_add 25 = .ok (.iload_n 1, 1) := by decide +kernel
theorem dX8_add_26 : decode cX8_add 26 = .ok (.aaload, 1) := by decide +kernel
theorem dX8_add_27 : decode cX8_add 27 = .ok (.invokevirtual 98, 3) := by decide +kernel
theorem dX8_add_30 : decode cX8_add 30 = .ok (.iconst 3, 1) := by decide +kernel
theorem dX8_add_31 : decode cX8_add 31 = .ok (.if_icmp .lt 13, 3) := by decide +kernel
theorem dX8_add_34 : decode cX8_add 34 = .ok (.new 54, 3) := by decide +kernel
theorem dX8_add_37 : decode cX8_add 37 = .ok (.dup, 1) := by decide +kernel
theorem dX8_add_38 : decode cX8_add 38 = .ok (.ldc 104, 2) := by decide +kernel
theorem dX8_add_40 : decode cX8_add 40 = .ok (.invokespecial 58, 3) := by decide +kernel
theorem dX8_add_43 : decode cX8_add 43 = .ok (.athrow, 1) := by decide +kernel
theorem dX8_add_44 : decode cX8_add 44 = .ok (.aload_n 0, 1) := by decide +kernel
theorem dX8_add_45 : decode cX8_add 45 = .ok (.getfield 21, 3) := by decide +kernel
theorem dX8_add_48 : decode cX8_add 48 = .ok (.iload_n 1, 1) := by decide +kernel
theorem dX8_add_49 : decode cX8_add 49 = .ok (.iconst 1, 1) := by decide +kernel
theorem dX8_add_50 : decode cX8_add 50 = .ok (.invokevirtual 85, 3) := by decide +kernel
theorem dX8_add_53 : decode cX8_add 53 = .ok (.aload_n 0, 1) := by decide +kernel
theorem dX8_add_54 : decode cX8_add 54 = .ok (.getfield 21, 3) := by decide +kernel
theorem dX8_add_57 : decode cX8_add 57 = .ok (.getfield 94, 3) := by decide +kernel
theorem dX8_add_60 : decode cX8_add 60 = .ok (.iload_n 1, 1) := by decide +kernel
theorem dX8_add_61 : decode cX8_add 61 = .ok (.aaload, 1) := by decide +kernel
theorem dX8_add_62 : decode cX8_add 62 = .ok (.invokevirtual 98, 3) := by decide +kernel
theorem dX8_add_65 : decode cX8_add 65 = .ok (.ireturn, 1) := by decide +kernel
theorem dX8_setWind_0 : decode cX8_setWind 0 = .ok (.iload_n 1, 1) := by decide +kernel
theorem dX8_setWind_1 : decode cX8_setWind 1 = .ok (.iconst 0, 1) := by decide +kernel
theorem dX8_setWind_2 : decode cX8_setWind 2 = .ok (.bipush 11, 2) := by decide +kernel
theorem dX8_setWind_4 : decode cX8_setWind 4 = .ok (.invokestatic 35, 3) := by decide +kernel
theorem dX8_setWind_7 : decode cX8_setWind 7 = .ok (.ifCond .ne 13, 3) := by decide +kernel
theorem dX8_setWind_10 : decode cX8_setWind 10 = .ok (.new 67, 3) := by decide +kernel
theorem dX8_setWind_13 : decode cX8_setWind 13 = .ok (.dup, 1) := by decide +kernel
theorem dX8_setWind_14 : decode cX8_setWind 14 = .ok (.ldc 106, 2) := by decide +kernel
theorem dX8_setWind_16 : decode cX8_setWind 16 = .ok (.invokespecial 71, 3) := by decide +kernel
theorem dX8_setWind_19 : decode cX8_setWind 19 = .ok (.athrow, 1) := by decide +kernel
theorem dX8_setWind_20 : decode cX8_setWind 20 = .ok (.iload_n 2, 1) := by decide +kernel
theorem dX8_setWind_21 : decode cX8_setWind 21 = .ok (.iconst 0, 1) := by decide +kernel
theorem dX8_setWind_22 : decode cX8_setWind 22 = .ok (.bipush 9, 2) := by decide +kernel
theorem dX8_setWind_24 : decode cX8_setWind 24 = .ok (.invokestatic 35, 3) := by decide +kernel
theorem dX8_setWind_27 : decode cX8_setWind 27 = .ok (.ifCond .ne 13, 3) := by decide +kernel
theorem dX8_setWind_30 : decode cX8_setWind 30 = .ok (.new 39, 3) := by decide +kernel
theorem dX8_setWind_33 : decode cX8_setWind 33 = .ok (.dup, 1) := by decide +kernel
theorem dX8_setWind_34 : decode cX8_setWind 34 = .ok (.ldc 108, 2) := by decide +kernel
theorem dX8_setWind_36 : decode cX8_setWind 36 = .ok (.invokespecial 43, 3) := by decide +kernel
theorem dX8_setWind_39 : decode cX8_setWind 39 = .ok (.athrow, 1) := by decide +kernel
theorem dX8_setWind_40 : decode cX8_setWind 40 = .ok (.aload_n 0, 1) := by decide +kernel
theorem dX8_setWind_41 : decode cX8_setWind 41 = .ok (.getfield 10, 3) := by decide +kernel
theorem dX8_setWind_44 : decode cX8_setWind 44 = .ok (.getfield 110, 3) := by decide +kernel
theorem dX8_setWind_47 : decode cX8_setWind 47 = .ok (.iload_n 1, 1) := by decide +kernel
theorem dX8_setWind_48 : decode cX8_setWind 48 = .ok (.iaload, 1) := by decide +kernel
theorem dX8_setWind_49 : decode cX8_setWind 49 = .ok (.istore_n 3, 1) := by decide +kernel
theorem dX8_setWind_50 : decode cX8_setWind 50 = .ok (.aload_n 0, 1) := by decide +kernel
theorem dX8_setWind_51 : decode cX8_setWind 51 = .ok (.getfield 10, 3) := by decide +kernel
theorem dX8_setWind_54 : decode cX8_setWind 54 = .ok (.getfield 110, 3) := by decide +kernel
theorem dX8_setWind_57 : decode cX8_setWind 57 = .ok (.iload_n 1, 1) := by decide +kernel
theorem dX8_setWind_58 : decode cX8_setWind 58 = .ok (.iload_n 2, 1) := by decide +kernel
theorem dX8_setWind_59 : decode cX8_setWind 59 = .ok (.iastore, 1) := by decide +kernel
theorem dX8_setWind_60 : decode cX8_setWind 60 = .ok (.iload_n 3, 1) := by decide +kernel
theorem dX8_setWind_61 : decode cX8_setWind 61 = .ok (.ireturn, 1) := by decide +kernel
theorem dX8_platform_0 : decode cX8_platform 0 = .ok (.aload_n 0, 1) := by decide +kernel
theorem dX8_platform_1 : decode cX8_platform 1 = .ok (.iload_n 1, 1) := by decide +kernel
theorem dX8_platform_2 : decode cX8_platform 2 = .ok (.invokevirtual 63, 3) := by decide +kernel
theorem dX8_platform_5 : decode cX8_platform 5 = .ok (.ifCond .eq 13, 3) := by decide +kernel
theorem dX8_platform_8 : decode cX8_platform 8 = .ok (.iload_n 2, 1) := by decide +kernel
theorem dX8_platform_9 : decode cX8_platform 9 = .ok (.iconst 0, 1) := by decide +kernel
theorem dX8_platform_10 : decode cX8_platform 10 = .ok (.bipush 7, 2) := by decide +kernel
theorem dX8_platform_12 : decode cX8_platform 12 = .ok (.invokestatic 35, 3) := by decide +kernel
theorem dX8_platform_15 : decode cX8_platform 15 = .ok (.ifCond .ne 13, 3) := by decide +kernel
theorem dX8_platform_18 : decode cX8_platform 18 = .ok (.new 67, 3) := by decide +kernel
theorem dX8_platform_21 : decode cX8_platform 21 = .ok (.dup, 1) := by decide +kernel
theorem dX8_platform_22 : decode cX8_platform 22 = .ok (.ldc 114, 2) := by decide +kernel
theorem dX8_platform_24 : decode cX8_platform 24 = .ok (.invokespecial 71, 3) := by decide +kernel
theorem dX8_platform_27 : decode cX8_platform 27 = .ok (.athrow, 1) := by decide +kernel
theorem dX8_platform_28 : decode cX8_platform 28 = .ok (.aload_n 0, 1) := by decide +kernel
theorem dX8_platform_29 : decode cX8_platform 29 = .ok (.iload_n 1, 1) := by decide +kernel
theorem dX8_platform_30 : decode cX8_platform 30 = .ok (.iload_n 2, 1) := by decide +kernel
theorem dX8_platform_31 : decode cX8_platform 31 = .ok (.invokevirtual 116, 3) := by decide +kernel
theorem dX8_platform_34 : decode cX8_platform 34 = .ok (.ireturn, 1) := by decide +kernel
theorem dX8_line_0 : decode cX8_line 0 = .ok (.aload_n 0, 1) := by decide +kernel
theorem dX8_line_1 : decode cX8_line 1 = .ok (.iload_n 1, 1) := by decide +kernel
theorem dX8_line_2 : decode cX8_line 2 = .ok (.invokevirtual 89, 3) := by decide +kernel
theorem dX8_line_5 : decode cX8_line 5 = .ok (.ifCond .eq 13, 3) := by decide +kernel
theorem dX8_line_8 : decode cX8_line 8 = .ok (.iload_n 2, 1) := by decide +kernel
theorem dX8_line_9 : decode cX8_line 9 = .ok (.iconst 0, 1) := by decide +kernel
theorem dX8_line_10 : decode cX8_line 10 = .ok (.bipush 10, 2) := by decide +kernel
theorem dX8_line_12 : decode cX8_line 12 = .ok (.invokestatic 35, 3) := by decide +kernel
theorem dX8_line_15 : decode cX8_line 15 = .ok (.ifCond .ne 13, 3) := by decide +kernel
theorem dX8_line_18 : decode cX8_line 18 = .ok (.new 67, 3) := by decide +kernel
theorem dX8_line_21 : decode cX8_line 21 = .ok (.dup, 1) := by decide +kernel
theorem dX8_line_22 : decode cX8_line 22 = .ok (.ldc 120, 2) := by decide +kernel
theorem dX8_line_24 : decode cX8_line 24 = .ok (.invokespecial 71, 3) := by decide +kernel
theorem dX8_line_27 : decode cX8_line 27 = .ok (.athrow, 1) := by decide +kernel
theorem dX8_line_28 : decode cX8_line 28 = .ok (.aload_n 0, 1) := by decide +kernel
theorem dX8_line_29 : decode cX8_line 29 = .ok (.iload_n 1, 1) := by decide +kernel
theorem dX8_line_30 : decode cX8_line 30 = .ok (.iload_n 2, 1) := by decide +kernel
theorem dX8_line_31 : decode cX8_line 31 = .ok (.invokevirtual 122, 3) := by decide +kernel
theorem dX8_line_34 : decode cX8_line 34 = .ok (.ireturn, 1) := by decide +kernel
theorem dX8_ride_0 : decode cX8_ride 0 = .ok (.aload_n 0, 1) := by decide +kernel
theorem dX8_ride_1 : decode cX8_ride 1 = .ok (.iload_n 1, 1) := by decide +kernel
theorem dX8_ride_2 : decode cX8_ride 2 = .ok (.invokevirtual 89, 3) := by decide +kernel
theorem dX8_ride_5 : decode cX8_ride 5 = .ok (.ifCond .ne 13, 3) := by decide +kernel
theorem dX8_ride_8 : decode cX8_ride 8 = .ok (.new 67, 3) := by decide +kernel
theorem dX8_ride_11 : decode cX8_ride 11 = .ok (.dup, 1) := by decide +kernel
theorem dX8_ride_12 : decode cX8_ride 12 = .ok (.ldc 92, 2) := by decide +kernel
theorem dX8_ride_14 : decode cX8_ride 14 = .ok (.invokespecial 71, 3) := by decide +kernel
theorem dX8_ride_17 : decode cX8_ride 17 = .ok (.athrow, 1) := by decide +kernel
theorem dX8_ride_18 : decode cX8_ride 18 = .ok (.iload_n 2, 1) := by decide +kernel
theorem dX8_ride_19 : decode cX8_ride 19 = .ok (.invokestatic 125, 3) := by decide +kernel
theorem dX8_ride_22 : decode cX8_ride 22 = .ok (.ifCond .ne 13, 3) := by decide +kernel
theorem dX8_ride_25 : decode cX8_ride 25 = .ok (.new 39, 3) := by decide +kernel
theorem dX8_ride_28 : decode cX8_ride 28 = .ok (.dup, 1) := by decide +kernel
theorem dX8_ride_29 : decode cX8_ride 29 = .ok (.ldc 128, 2) := by decide +kernel
theorem dX8_ride_31 : decode cX8_ride 31 = .ok (.invokespecial 43, 3) := by decide +kernel
theorem dX8_ride_34 : decode cX8_ride 34 = .ok (.athrow, 1) := by decide +kernel
theorem dX8_ride_35 : decode cX8_ride 35 = .ok (.aload_n 0, 1) := by decide +kernel
theorem dX8_ride_36 : decode cX8_ride 36 = .ok (.getfield 10, 3) := by decide +kernel
theorem dX8_ride_39 : decode cX8_ride 39 = .ok (.getfield 130, 3) := by decide +kernel
theorem dX8_ride_42 : decode cX8_ride 42 = .ok (.iload_n 1, 1) := by decide +kernel
theorem dX8_ride_43 : decode cX8_ride 43 = .ok (.aaload, 1) := by decide +kernel
theorem dX8_ride_44 : decode cX8_ride 44 = .ok (.astore_n 3, 1) := by decide +kernel
theorem dX8_ride_45 : decode cX8_ride 45 = .ok (.aload_n 3, 1) := by decide +kernel
theorem dX8_ride_46 : decode cX8_ride 46 = .ok (.iload_n 2, 1) := by decide +kernel
theorem dX8_ride_47 : decode cX8_ride 47 = .ok (.invokevirtual 134, 3) := by decide +kernel
theorem dX8_ride_50 : decode cX8_ride 50 = .ok (.ifCond .ne 5, 3) := by decide +kernel
theorem dX8_ride_53 : decode cX8_ride 53 = .ok (.iconst 0, 1) := by decide +kernel
theorem dX8_ride_54 : decode cX8_ride 54 = .ok (.ireturn, 1) := by decide +kernel
theorem dX8_ride_55 : decode cX8_ride 55 = .ok (.aload_n 3, 1) := by decide +kernel
theorem dX8_ride_56 : decode cX8_ride 56 = .ok (.iload_n 2, 1) := by decide +kernel
theorem dX8_ride_57 : decode cX8_ride 57 = .ok (.invokevirtual 139, 3) := by decide +kernel
theorem dX8_ride_60 : decode cX8_ride 60 = .ok (.ifCond .eq 12, 3) := by decide +kernel
theorem dX8_ride_63 : decode cX8_ride 63 = .ok (.aload_n 3, 1) := by decide +kernel
theorem dX8_ride_64 : decode cX8_ride 64 = .ok (.iload_n 2, 1) := by decide +kernel
theorem dX8_ride_65 : decode cX8_ride 65 = .ok (.invokevirtual 142, 3) := by decide +kernel
theorem dX8_ride_68 : decode cX8_ride 68 = .ok (.ineg, 1) := by decide +kernel
theorem dX8_ride_69 : decode cX8_ride 69 = .ok (.goto 8, 3) := by decide +kernel
theorem dX8_ride_72 : decode cX8_ride 72 = .ok (.aload_n 3, 1) := by decide +kernel
theorem dX8_ride_73 : decode cX8_ride 73 = .ok (.iload_n 2, 1) := by decide +kernel
theorem dX8_ride_74 : decode cX8_ride 74 = .ok (.invokevirtual 142, 3) := by decide +kernel
theorem dX8_ride_77 : decode cX8_ride 77 = .ok (.ireturn, 1) := by decide +kernel
theorem dX8_come_0 : decode cX8_come 0 = .ok (.aload_n 0, 1) := by decide +kernel
theorem dX8_come_1 : decode cX8_come 1 = .ok (.iload_n 1, 1) := by decide +kernel
theorem dX8_come_2 : decode cX8_come 2 = .ok (.invokevirtual 63, 3) := by decide +kernel
theorem dX8_come_5 : decode cX8_come 5 = .ok (.ifCond .eq 11, 3) := by decide +kernel
theorem dX8_come_8 : decode cX8_come 8 = .ok (.aload_n 0, 1) := by decide +kernel
theorem dX8_come_9 : decode cX8_come 9 = .ok (.iload_n 2, 1) := by decide +kernel
theorem dX8_come_10 : decode cX8_come 10 = .ok (.invokevirtual 63, 3) := by decide +kernel
theorem dX8_come_13 : decode cX8_come 13 = .ok (.ifCond .ne 13, 3) := by decide +kernel
theorem dX8_come_16 : decode cX8_come 16 = .ok (.new 67, 3) := by decide +kernel
theorem dX8_come_19 : decode cX8_come 19 = .ok (.dup, 1) := by decide +kernel
theorem dX8_come_20 : decode cX8_come 20 = .ok (.ldc 146, 2) := by decide +kernel
theorem dX8_come_22 : decode cX8_come 22 = .ok (.invokespecial 71, 3) := by decide +kernel
theorem dX8_come_25 : decode cX8_come 25 = .ok (.athrow, 1) := by decide +kernel
theorem dX8_come_26 : decode cX8_come 26 = .ok (.iload_n 3, 1) := by decide +kernel
theorem dX8_come_27 : decode cX8_come 27 = .ok (.invokestatic 125, 3) := by decide +kernel
theorem dX8_come_30 : decode cX8_come 30 = .ok (.ifCond .eq 14, 3) := by decide +kernel
theorem dX8_come_33 : decode cX8_come 33 = .ok (.iload 4, 2) := by decide +kernel
theorem dX8_come_35 : decode cX8_come 35 = .ok (.iconst 1, 1) := by decide +kernel
theorem dX8_come_36 : decode cX8_come 36 = .ok (.bipush 60, 2) := by decide +kernel
theorem dX8_come_38 : decode cX8_come 38 = .ok (.invokestatic 35, 3) := by decide +kernel
theorem dX8_come_41 : decode cX8_come 41 = .ok (.ifCond .ne 13, 3) := by decide +kernel
theorem dX8_come_44 : decode cX8_come 44 = .ok (.new 39, 3) := by decide +kernel
theorem dX8_come_47 : decode cX8_come 47 = .ok (.dup, 1) := by decide +kernel
theorem dX8_come_48 : decode cX8_come 48 = .ok (.ldc 148, 2) := by decide +kernel
theorem dX8_come_50 : decode cX8_come 50 = .ok (.invokespecial 43, 3) := by decide +kernel
theorem dX8_come_53 : decode cX8_come 53 = .ok (.athrow, 1) := by decide +kernel
theorem dX8_come_54 : decode cX8_come 54 = .ok (.aload_n 0, 1) := by decide +kernel
theorem dX8_come_55 : decode cX8_come 55 = .ok (.getfield 10, 3) := by decide +kernel
theorem dX8_come_58 : decode cX8_come 58 = .ok (.getfield 150, 3) := by decide +kernel
theorem dX8_come_61 : decode cX8_come 61 = .ok (.bipush 12, 2) := by decide +kernel
theorem dX8_come_63 : decode cX8_come 63 = .ok (.if_icmp .lt 13, 3) := by decide +kernel
theorem dX8_come_66 : decode cX8_come 66 = .ok (.new 54, 3) := by decide +kernel
theorem dX8_come_69 : decode cX8_come 69 = .ok (.dup, 1) := by decide +kernel
theorem dX8_come_70 : decode cX8_come 70 = .ok (.ldc 153, 2) := by decide +kernel
theorem dX8_come_72 : decode cX8_come 72 = .ok (.invokespecial 58, 3) := by decide +kernel
theorem dX8_come_75 : decode cX8_come 75 = .ok (.athrow, 1) := by decide +kernel
theorem dX8_come_76 : decode cX8_come 76 = .ok (.aload_n 0, 1) := by decide +kernel
theorem dX8_come_77 : decode cX8_come 77 = .ok (.getfield 10, 3) := by decide +kernel
theorem dX8_come_80 : decode cX8_come 80 = .ok (.iload_n 2, 1) := by decide +kernel
theorem dX8_come_81 : decode cX8_come 81 = .ok (.iload_n 3, 1) := by decide +kernel
theorem dX8_come_82 : decode cX8_come 82 = .ok (.iload 4, 2) := by decide +kernel
theorem dX8_come_84 : decode cX8_come 84 = .ok (.invokevirtual 155, 3) := by decide +kernel
theorem dX8_come_87 : decode cX8_come 87 = .ok (.istore 5, 2) := by decide +kernel
theorem dX8_come_89 : decode cX8_come 89 = .ok (.aload_n 0, 1) := by decide +kernel
theorem dX8_come_90 : decode cX8_come 90 = .ok (.getfield 21, 3) := by decide +kernel
theorem dX8_come_93 : decode cX8_come 93 = .ok (.iload 5, 2) := by decide +kernel
theorem dX8_come_95 : decode cX8_come 95 = .ok (.iload_n 1, 1) := by decide +kernel
theorem dX8_come_96 : decode cX8_come 96 = .ok (.invokevirtual 158, 3) := by decide +kernel
theorem dX8_come_99 : decode cX8_come 99 = .ok (.iload 5, 2) := by decide +kernel
theorem dX8_come_101 : decode cX8_come 101 = .ok (.ireturn, 1) := by decide +kernel
theorem dX8_rider_0 : decode cX8_rider 0 = .ok (.aload_n 0, 1) := by decide +kernel
theorem dX8_rider_1 : decode cX8_rider 1 = .ok (.iload_n 1, 1) := by decide +kernel
theorem dX8_rider_2 : decode cX8_rider 2 = .ok (.invokevirtual 161, 3) := by decide +kernel
theorem dX8_rider_5 : decode cX8_rider 5 = .ok (.ifCond .eq 13, 3) := by decide +kernel
theorem dX8_rider_8 : decode cX8_rider 8 = .ok (.iload_n 2, 1) := by decide +kernel
theorem dX8_rider_9 : decode cX8_rider 9 = .ok (.iconst 0, 1) := by decide +kernel
theorem dX8_rider_10 : decode cX8_rider 10 = .ok (.bipush 10, 2) := by decide +kernel
theorem dX8_rider_12 : decode cX8_rider 12 = .ok (.invokestatic 35, 3) := by decide +kernel
theorem dX8_rider_15 : decode cX8_rider 15 = .ok (.ifCond .ne 13, 3) := by decide +kernel
theorem dX8_rider_18 : decode cX8_rider 18 = .ok (.new 67, 3) := by decide +kernel
theorem dX8_rider_21 : decode cX8_rider 21 = .ok (.dup, 1) := by decide +kernel
theorem dX8_rider_22 : decode cX8_rider 22 = .ok (.ldc 164, 2) := by decide +kernel
theorem dX8_rider_24 : decode cX8_rider 24 = .ok (.invokespecial 71, 3) := by decide +kernel
theorem dX8_rider_27 : decode cX8_rider 27 = .ok (.athrow, 1) := by decide +kernel
theorem dX8_rider_28 : decode cX8_rider 28 = .ok (.aload_n 0, 1) := by decide +kernel
theorem dX8_rider_29 : decode cX8_rider 29 = .ok (.iload_n 1, 1) := by decide +kernel
theorem dX8_rider_30 : decode cX8_rider 30 = .ok (.iload_n 2, 1) := by decide +kernel
theorem dX8_rider_31 : decode cX8_rider 31 = .ok (.invokevirtual 166, 3) := by decide +kernel
theorem dX8_rider_34 : decode cX8_rider 34 = .ok (.ireturn, 1) := by decide +kernel
theorem dX8_queue_0 : decode cX8_queue 0 = .ok (.aload_n 0, 1) := by decide +kernel
theorem dX8_queue_1 : decode cX8_queue 1 = .ok (.iload_n 1, 1) := by decide +kernel
theorem dX8_queue_2 : decode cX8_queue 2 = .ok (.invokevirtual 63, 3) := by decide +kernel
theorem dX8_queue_5 : decode cX8_queue 5 = .ok (.ifCond .eq 21, 3) := by decide +kernel
theorem dX8_queue_8 : decode cX8_queue 8 = .ok (.iload_n 2, 1) := by decide +kernel
theorem dX8_queue_9 : decode cX8_queue 9 = .ok (.iconst 0, 1) := by decide +kernel
theorem dX8_queue_10 : decode cX8_queue 10 = .ok (.aload_n 0, 1) := by decide +kernel
theorem dX8_queue_11 : decode cX8_queue 11 = .ok (.getfield 21, 3) := by decide +kernel
theorem dX8_queue_14 : decode cX8_queue 14 = .ok (.iload_n 1, 1) := by decide +kernel
theorem dX8_queue_15 : decode cX8_queue 15 = .ok (.invokevirtual 169, 3) := by decide +kernel
theorem dX8_queue_18 : decode cX8_queue 18 = .ok (.iconst 1, 1) := by decide +kernel
theorem dX8_queue_19 : decode cX8_queue 19 = .ok (.isub, 1) := by decide +kernel
theorem dX8_queue_20 : decode cX8_queue 20 = .ok (.invokestatic 35, 3) := by decide +kernel
theorem dX8_queue_23 : decode cX8_queue 23 = .ok (.ifCond .ne 13, 3) := by decide +kernel
theorem dX8_queue_26 : decode cX8_queue 26 = .ok (.new 67, 3) := by decide +kernel
theorem dX8_queue_29 : decode cX8_queue 29 = .ok (.dup, 1) := by decide +kernel
theorem dX8_queue_30 : decode cX8_queue 30 = .ok (.ldc 172, 2) := by decide +kernel
theorem dX8_queue_32 : decode cX8_queue 32 = .ok (.invokespecial 71, 3) := by decide +kernel
theorem dX8_queue_35 : decode cX8_queue 35 = .ok (.athrow, 1) := by decide +kernel
theorem dX8_queue_36 : decode cX8_queue 36 = .ok (.aload_n 0, 1) := by decide +kernel
theorem dX8_queue_37 : decode cX8_queue 37 = .ok (.getfield 21, 3) := by decide +kernel
theorem dX8_queue_40 : decode cX8_queue 40 = .ok (.iload_n 1, 1) := by decide +kernel
theorem dX8_queue_41 : decode cX8_queue 41 = .ok (.iload_n 2, 1) := by decide +kernel
theorem dX8_queue_42 : decode cX8_queue 42 = .ok (.invokevirtual 174, 3) := by decide +kernel
theorem dX8_queue_45 : decode cX8_queue 45 = .ok (.ireturn, 1) := by decide +kernel
theorem dX8_pass_0 : decode cX8_pass 0 = .ok (.iload_n 1, 1) := by decide +kernel
theorem dX8_pass_1 : decode cX8_pass 1 = .ok (.iconst 1, 1) := by decide +kernel
theorem dX8_pass_2 : decode cX8_pass 2 = .ok (.bipush 100, 2) := by decide +kernel
theorem dX8_pass_4 : decode cX8_pass 4 = .ok (.invokestatic 35, 3) := by decide +kernel
theorem dX8_pass_7 : decode cX8_pass 7 = .ok (.ifCond .ne 13, 3) := by decide +kernel
theorem dX8_pass_10 : decode cX8_pass 10 = .ok (.new 39, 3) := by decide +kernel
theorem dX8_pass_13 : decode cX8_pass 13 = .ok (.dup, 1) := by decide +kernel
theorem dX8_pass_14 : decode cX8_pass 14 = .ok (.ldc 177, 2) := by decide +kernel
theorem dX8_pass_16 : decode cX8_pass 16 = .ok (.invokespecial 43, 3) := by decide +kernel
theorem dX8_pass_19 : decode cX8_pass 19 = .ok (.athrow, 1) := by decide +kernel
theorem dX8_pass_20 : decode cX8_pass 20 = .ok (.aload_n 0, 1) := by decide +kernel
theorem dX8_pass_21 : decode cX8_pass 21 = .ok (.getfield 21, 3) := by decide +kernel
theorem dX8_pass_24 : decode cX8_pass 24 = .ok (.iload_n 1, 1) := by decide +kernel
theorem dX8_pass_25 : decode cX8_pass 25 = .ok (.invokevirtual 179, 3) := by decide +kernel
theorem dX8_pass_28 : decode cX8_pass 28 = .ok (.ireturn, 1) := by decide +kernel
theorem dX8_count_0 : decode cX8_count 0 = .ok (.iload_n 1, 1) := by decide +kernel
theorem dX8_count_1 : decode cX8_count 1 = .ok (.iconst 0, 1) := by decide +kernel
theorem dX8_count_2 : decode cX8_count 2 = .ok (.bipush 9, 2) := by decide +kernel
theorem dX8_count_4 : decode cX8_count 4 = .ok (.invokestatic 35, 3) := by decide +kernel
theorem dX8_count_7 : decode cX8_count 7 = .ok (.ifCond .ne 13, 3) := by decide +kernel
theorem dX8_count_10 : decode cX8_count 10 = .ok (.new 67, 3) := by decide +kernel
theorem dX8_count_13 : decode cX8_count 13 = .ok (.dup, 1) := by decide +kernel
theorem dX8_count_14 : decode cX8_count 14 = .ok (.ldc 182, 2) := by decide +kernel
theorem dX8_count_16 : decode cX8_count 16 = .ok (.invokespecial 71, 3) := by decide +kernel
theorem dX8_count_19 : decode cX8_count 19 = .ok (.athrow, 1) := by decide +kernel
theorem dX8_count_20 : decode cX8_count 20 = .ok (.aload_n 0, 1) := by decide +kernel
theorem dX8_count_21 : decode cX8_count 21 = .ok (.iload_n 1, 1) := by decide +kernel
theorem dX8_count_22 : decode cX8_count 22 = .ok (.invokevirtual 184, 3) := by decide +kernel
theorem dX8_count_25 : decode cX8_count 25 = .ok (.ireturn, 1) := by decide +kernel
theorem dX8_way_0 : decode cX8_way 0 = .ok (.aload_n 0, 1) := by decide +kernel
theorem dX8_way_1 : decode cX8_way 1 = .ok (.iload_n 1, 1) := by decide +kernel
theorem dX8_way_2 : decode cX8_way 2 = .ok (.invokevirtual 63, 3) := by decide +kernel
theorem dX8_way_5 : decode cX8_way 5 = .ok (.ifCond .eq 11, 3) := by decide +kernel
theorem dX8_way_8 : decode cX8_way 8 = .ok (.aload_n 0, 1) := by decide +kernel
theorem dX8_way_9 : decode cX8_way 9 = .ok (.iload_n 2, 1) := by decide +kernel
theorem dX8_way_10 : decode cX8_way 10 = .ok (.invokevirtual 63, 3) := by decide +kernel
theorem dX8_way_13 : decode cX8_way 13 = .ok (.ifCond .ne 13, 3) := by decide +kernel
theorem dX8_way_16 : decode cX8_way 16 = .ok (.new 67, 3) := by decide +kernel
theorem dX8_way_19 : decode cX8_way 19 = .ok (.dup, 1) := by decide +kernel
theorem dX8_way_20 : decode cX8_way 20 = .ok (.ldc 69, 2) := by decide +kernel
theorem dX8_way_22 : decode cX8_way 22 = .ok (.invokespecial 71, 3) := by decide +kernel
theorem dX8_way_25 : decode cX8_way 25 = .ok (.athrow, 1) := by decide +kernel
theorem dX8_way_26 : decode cX8_way 26 = .ok (.iload_n 3, 1) := by decide +kernel
theorem dX8_way_27 : decode cX8_way 27 = .ok (.invokestatic 125, 3) := by decide +kernel
theorem dX8_way_30 : decode cX8_way 30 = .ok (.ifCond .ne 13, 3) := by decide +kernel
theorem dX8_way_33 : decode cX8_way 33 = .ok (.new 39, 3) := by decide +kernel
theorem dX8_way_36 : decode cX8_way 36 = .ok (.dup, 1) := by decide +kernel
theorem dX8_way_37 : decode cX8_way 37 = .ok (.ldc 128, 2) := by decide +kernel
theorem dX8_way_39 : decode cX8_way 39 = .ok (.invokespecial 43, 3) := by decide +kernel
theorem dX8_way_42 : decode cX8_way 42 = .ok (.athrow, 1) := by decide +kernel
theorem dX8_way_43 : decode cX8_way 43 = .ok (.aload_n 0, 1) := by decide +kernel
theorem dX8_way_44 : decode cX8_way 44 = .ok (.getfield 31, 3) := by decide +kernel
theorem dX8_way_47 : decode cX8_way 47 = .ok (.aload_n 0, 1) := by decide +kernel
theorem dX8_way_48 : decode cX8_way 48 = .ok (.getfield 10, 3) := by decide +kernel
theorem dX8_way_51 : decode cX8_way 51 = .ok (.iload_n 2, 1) := by decide +kernel
theorem dX8_way_52 : decode cX8_way 52 = .ok (.iload_n 3, 1) := by decide +kernel
theorem dX8_way_53 : decode cX8_way 53 = .ok (.invokevirtual 187, 3) := by decide +kernel
theorem dX8_way_56 : decode cX8_way 56 = .ok (.aload_n 0, 1) := by decide +kernel
theorem dX8_way_57 : decode cX8_way 57 = .ok (.getfield 31, 3) := by decide +kernel
theorem dX8_way_60 : decode cX8_way 60 = .ok (.iload_n 1, 1) := by decide +kernel
theorem dX8_way_61 : decode cX8_way 61 = .ok (.invokevirtual 191, 3) := by decide +kernel
theorem dX8_way_64 : decode cX8_way 64 = .ok (.ireturn, 1) := by decide +kernel
theorem dX8_arrives_0 : decode cX8_arrives 0 = .ok (.aload_n 0, 1) := by decide +kernel
theorem dX8_arrives_1 : decode cX8_arrives 1 = .ok (.iload_n 1, 1) := by decide +kernel
theorem dX8_arrives_2 : decode cX8_arrives 2 = .ok (.invokevirtual 161, 3) := by decide +kernel
theorem dX8_arrives_5 : decode cX8_arrives 5 = .ok (.ifCond .ne 13, 3) := by decide +kernel
theorem dX8_arrives_8 : decode cX8_arrives 8 = .ok (.new 67, 3) := by decide +kernel
theorem dX8_arrives_11 : decode cX8_arrives 11 = .ok (.dup, 1) := by decide +kernel
theorem dX8_arrives_12 : decode cX8_arrives 12 = .ok (.ldc 194, 2) := by decide +kernel
theorem dX8_arrives_14 : decode cX8_arrives 14 = .ok (.invokespecial 71, 3) := by decide +kernel
theorem dX8_arrives_17 : decode cX8_arrives 17 = .ok (.athrow, 1) := by decide +kernel
theorem dX8_arrives_18 : decode cX8_arrives 18 = .ok (.aload_n 0, 1) := by decide +kernel
theorem dX8_arrives_19 : decode cX8_arrives 19 = .ok (.getfield 25, 3) := by decide +kernel
theorem dX8_arrives_22 : decode cX8_arrives 22 = .ok (.aload_n 0, 1) := by decide +kernel
theorem dX8_arrives_23 : decode cX8_arrives 23 = .ok (.getfield 21, 3) := by decide +kernel
theorem dX8_arrives_26 : decode cX8_arrives 26 = .ok (.invokevirtual 196, 3) := by decide +kernel
theorem dX8_arrives_29 : decode cX8_arrives 29 = .ok (.aload_n 0, 1) := by decide +kernel
theorem dX8_arrives_30 : decode cX8_arrives 30 = .ok (.getfield 25, 3) := by decide +kernel
theorem dX8_arrives_33 : decode cX8_arrives 33 = .ok (.getfield 200, 3) := by decide +kernel
theorem dX8_arrives_36 : decode cX8_arrives 36 = .ok (.iload_n 1, 1) := by decide +kernel
theorem dX8_arrives_37 : decode cX8_arrives 37 = .ok (.aaload, 1) := by decide +kernel
theorem dX8_arrives_38 : decode cX8_arrives 38 = .ok (.astore_n 2, 1) := by decide +kernel
theorem dX8_arrives_39 : decode cX8_arrives 39 = .ok (.iconst 0, 1) := by decide +kernel
theorem dX8_arrives_40 : decode cX8_arrives 40 = .ok (.istore_n 3, 1) := by decide +kernel
theorem dX8_arrives_41 : decode cX8_arrives 41 = .ok (.iload_n 3, 1) := by decide +kernel
theorem dX8_arrives_42 : decode cX8_arrives 42 = .ok (.sipush 200, 3) := by decide +kernel
theorem dX8_arrives_45 : decode cX8_arrives 45 = .ok (.if_icmp .ge 23, 3) := by decide +kernel
theorem dX8_arrives_48 : decode cX8_arrives 48 = .ok (.aload_n 2, 1) := by decide +kernel
theorem dX8_arrives_49 : decode cX8_arrives 49 = .ok (.invokevirtual 204, 3) := by decide +kernel
theorem dX8_arrives_52 : decode cX8_arrives 52 = .ok (.ifCond .eq 16, 3) := by decide +kernel
theorem dX8_arrives_55 : decode cX8_arrives 55 = .ok (.aload_n 0, 1) := by decide +kernel
theorem dX8_arrives_56 : decode cX8_arrives 56 = .ok (.getfield 25, 3) := by decide +kernel
theorem dX8_arrives_59 : decode cX8_arrives 59 = .ok (.invokevirtual 210, 3) := by decide +kernel
theorem dX8_arrives_62 : decode cX8_arrives 62 = .ok (.iinc 3 1, 3) := by decide +kernel
theorem dX8_arrives_65 : decode cX8_arrives 65 = .ok (.goto (-24), 3) := by decide +kernel
theorem dX8_arrives_68 : decode cX8_arrives 68 = .ok (.aload_n 2, 1) := by decide +kernel
theorem dX8_arrives_69 : decode cX8_arrives 69 = .ok (.getfield 213, 3) := by decide +kernel
theorem dX8_arrives_72 : decode cX8_arrives 72 = .ok (.ireturn, 1) := by decide +kernel
theorem dX8_advise_0 : decode cX8_advise 0 = .ok (.iload_n 1, 1) := by decide +kernel
theorem dX8_advise_1 : decode cX8_advise 1 = .ok (.iconst 1, 1) := by decide +kernel
theorem dX8_advise_2 : decode cX8_advise 2 = .ok (.bipush 30, 2) := by decide +kernel
theorem dX8_advise_4 : decode cX8_advise 4 = .ok (.invokestatic 35, 3) := by decide +kernel
theorem dX8_advise_7 : decode cX8_advise 7 = .ok (.ifCond .ne 13, 3) := by decide +kernel
theorem dX8_advise_10 : decode cX8_advise 10 = .ok (.new 39, 3) := by decide +kernel
theorem dX8_advise_13 : decode cX8_advise 13 = .ok (.dup, 1) := by decide +kernel
theorem dX8_advise_14 : decode cX8_advise 14 = .ok (.ldc 216, 2) := by decide +kernel
theorem dX8_advise_16 : decode cX8_advise 16 = .ok (.invokespecial 43, 3) := by decide +kernel
theorem dX8_advise_19 : decode cX8_advise 19 = .ok (.athrow, 1) := by decide +kernel
theorem dX8_advise_20 : decode cX8_advise 20 = .ok (.aload_n 0, 1) := by decide +kernel
theorem dX8_advise_21 : decode cX8_advise 21 = .ok (.getfield 25, 3) := by decide +kernel
theorem dX8_advise_24 : decode cX8_advise 24 = .ok (.aload_n 0, 1) := by decide +kernel
theorem dX8_advise_25 : decode cX8_advise 25 = .ok (.getfield 21, 3) := by decide +kernel
theorem dX8_advise_28 : decode cX8_advise 28 = .ok (.invokevirtual 196, 3) := by decide +kernel
theorem dX8_advise_31 : decode cX8_advise 31 = .ok (.aload_n 0, 1) := by decide +kernel
theorem dX8_advise_32 : decode cX8_advise 32 = .ok (.getfield 25, 3) := by decide +kernel
theorem dX8_advise_35 : decode cX8_advise 35 = .ok (.iload_n 1, 1) := by decide +kernel
theorem dX8_advise_36 : decode cX8_advise 36 = .ok (.invokevirtual 179, 3) := by decide +kernel
theorem dX8_advise_39 : decode cX8_advise 39 = .ok (.istore_n 2, 1) := by decide +kernel
theorem dX8_advise_40 : decode cX8_advise 40 = .ok (.iconst (-1), 1) := by decide +kernel
theorem dX8_advise_41 : decode cX8_advise 41 = .ok (.istore_n 3, 1) := by decide +kernel
theorem dX8_advise_42 : decode cX8_advise 42 = .ok (.iconst 0, 1) := by decide +kernel
theorem dX8_advise_43 : decode cX8_advise 43 = .ok (.istore 4, 2) := by decide +kernel
theorem dX8_advise_45 : decode cX8_advise 45 = .ok (.iload 4, 2) := by decide +kernel
theorem dX8_advise_47 : decode cX8_advise 47 = .ok (.aload_n 0, 1) := by decide +kernel
theorem dX8_advise_48 : decode cX8_advise 48 = .ok (.getfield 10, 3) := by decide +kernel
theorem dX8_advise_51 : decode cX8_advise 51 = .ok (.getfield 77, 3) := by decide +kernel
theorem dX8_advise_54 : decode cX8_advise 54 = .ok (.if_icmp .ge 47, 3) := by decide +kernel
theorem dX8_advise_57 : decode cX8_advise 57 = .ok (.aload_n 0, 1) := by decide +kernel
theorem dX8_advise_58 : decode cX8_advise 58 = .ok (.getfield 21, 3) := by decide +kernel
theorem dX8_advise_61 : decode cX8_advise 61 = .ok (.getfield 94, 3) := by decide +kernel
theorem dX8_advise_64 : decode cX8_advise 64 = .ok (.iload 4, 2) := by decide +kernel
theorem dX8_advise_66 : decode cX8_advise 66 = .ok (.aaload, 1) := by decide +kernel
theorem dX8_advise_67 : decode cX8_advise 67 = .ok (.invokevirtual 98, 3) := by decide +kernel
theorem dX8_advise_70 : decode cX8_advise 70 = .ok (.iconst 3, 1) := by decide +kernel
theorem dX8_advise_71 : decode cX8_advise 71 = .ok (.if_icmp .ge 24, 3) := by decide +kernel
theorem dX8_advise_74 : decode cX8_advise 74 = .ok (.aload_n 0, 1) := by decide +kernel
theorem dX8_advise_75 : decode cX8_advise 75 = .ok (.iload 4, 2) := by decide +kernel
theorem dX8_advise_77 : decode cX8_advise 77 = .ok (.iload_n 1, 1) := by decide +kernel
theorem dX8_advise_78 : decode cX8_advise 78 = .ok (.invokevirtual 218, 3) := by decide +kernel
theorem dX8_advise_81 : decode cX8_advise 81 = .ok (.istore 5, 2) := by decide +kernel
theorem dX8_advise_83 : decode cX8_advise 83 = .ok (.iload 5, 2) := by decide +kernel
theorem dX8_advise_85 : decode cX8_advise 85 = .ok (.iload_n 2, 1) := by decide +kernel
theorem dX8_advise_86 : decode cX8_advise 86 = .ok (.if_icmp .le 9, 3) := by decide +kernel
theorem dX8_advise_89 : decode cX8_advise 89 = .ok (.iload 5, 2) := by decide +kernel
theorem dX8_advise_91 : decode cX8_advise 91 = .ok (.istore_n 2, 1) := by decide +kernel
theorem dX8_advise_92 : decode cX8_advise 92 = .ok (.iload 4, 2) := by decide +kernel
theorem dX8_advise_94 : decode cX8_advise 94 = .ok (.istore_n 3, 1) := by decide +kernel
theorem dX8_advise_95 : decode cX8_advise 95 = .ok (.iinc 4 1, 3) := by decide +kernel
theorem dX8_advise_98 : decode cX8_advise 98 = .ok (.goto (-53), 3) := by decide +kernel
theorem dX8_advise_101 : decode cX8_advise 101 = .ok (.iload_n 3, 1) := by decide +kernel
theorem dX8_advise_102 : decode cX8_advise 102 = .ok (.ireturn, 1) := by decide +kernel
theorem dX8_mean_0 : decode cX8_mean 0 = .ok (.iconst 0, 1) := by decide +kernel
theorem dX8_mean_1 : decode cX8_mean 1 = .ok (.istore_n 1, 1) := by decide +kernel
theorem dX8_mean_2 : decode cX8_mean 2 = .ok (.iconst 0, 1) := by decide +kernel
theorem dX8_mean_3 : decode cX8_mean 3 = .ok (.istore_n 2, 1) := by decide +kernel
theorem dX8_mean_4 : decode cX8_mean 4 = .ok (.iconst 0, 1) := by decide +kernel
theorem dX8_mean_5 : decode cX8_mean 5 = .ok (.istore_n 3, 1) := by decide +kernel
theorem dX8_mean_6 : decode cX8_mean 6 = .ok (.iload_n 3, 1) := by decide +kernel
theorem dX8_mean_7 : decode cX8_mean 7 = .ok (.aload_n 0, 1) := by decide +kernel
theorem dX8_mean_8 : decode cX8_mean 8 = .ok (.getfield 10, 3) := by decide +kernel
theorem dX8_mean_11 : decode cX8_mean 11 = .ok (.getfield 150, 3) := by decide +kernel
theorem dX8_mean_14 : decode cX8_mean 14 = .ok (.if_icmp .ge 43, 3) := by decide +kernel
theorem dX8_mean_17 : decode cX8_mean 17 = .ok (.aload_n 0, 1) := by decide +kernel
theorem dX8_mean_18 : decode cX8_mean 18 = .ok (.getfield 21, 3) := by decide +kernel
theorem dX8_mean_21 : decode cX8_mean 21 = .ok (.getfield 200, 3) := by decide +kernel
theorem dX8_mean_24 : decode cX8_mean 24 = .ok (.iload_n 3, 1) := by decide +kernel
theorem dX8_mean_25 : decode cX8_mean 25 = .ok (.aaload, 1) := by decide +kernel
theorem dX8_mean_26 : decode cX8_mean 26 = .ok (.getfield 221, 3) := by decide +kernel
theorem dX8_mean_29 : decode cX8_mean 29 = .ok (.iconst 2, 1) := by decide +kernel
theorem dX8_mean_30 : decode cX8_mean 30 = .ok (.if_icmp .ne 21, 3) := by decide +kernel
theorem dX8_mean_33 : decode cX8_mean 33 = .ok (.iinc 1 1, 3) := by decide +kernel
theorem dX8_mean_36 : decode cX8_mean 36 = .ok (.iload_n 2, 1) := by decide +kernel
theorem dX8_mean_37 : decode cX8_mean 37 = .ok (.aload_n 0, 1) := by decide +kernel
theorem dX8_mean_38 : decode cX8_mean 38 = .ok (.getfield 21, 3) := by decide +kernel
theorem dX8_mean_41 : decode cX8_mean 41 = .ok (.getfield 200, 3) := by decide +kernel
theorem dX8_mean_44 : decode cX8_mean 44 = .ok (.iload_n 3, 1) := by decide +kernel
theorem dX8_mean_45 : decode cX8_mean 45 = .ok (.aaload, 1) := by decide +kernel
theorem dX8_mean_46 : decode cX8_mean 46 = .ok (.getfield 213, 3) := by decide +kernel
theorem dX8_mean_49 : decode cX8_mean 49 = .ok (.iadd, 1) := by decide +kernel
theorem dX8_mean_50 : decode cX8_mean 50 = .ok (.istore_n 2, 1) := by decide +kernel
theorem dX8_mean_51 : decode cX8_mean 51 = .ok (.iinc 3 1, 3) := by decide +kernel
theorem dX8_mean_54 : decode cX8_mean 54 = .ok (.goto (-48), 3) := by decide +kernel
theorem dX8_mean_57 : decode cX8_mean 57 = .ok (.iload_n 1, 1) := by decide +kernel
theorem dX8_mean_58 : decode cX8_mean 58 = .ok (.ifCond .ne 7, 3) := by decide +kernel
theorem dX8_mean_61 : decode cX8_mean 61 = .ok (.dconst 0, 1) := by decide +kernel
theorem dX8_mean_62 : decode cX8_mean 62 = .ok (.goto 8, 3) := by decide +kernel
theorem dX8_mean_65 : decode cX8_mean 65 = .ok (.iload_n 2, 1) := by decide +kernel
theorem dX8_mean_66 : decode cX8_mean 66 = .ok (.i2d, 1) := by decide +kernel
theorem dX8_mean_67 : decode cX8_mean 67 = .ok (.iload_n 1, 1) := by decide +kernel
theorem dX8_mean_68 : decode cX8_mean 68 = .ok (.i2d, 1) := by decide +kernel
theorem dX8_mean_69 : decode cX8_mean 69 = .ok (.ddiv, 1) := by decide +kernel
theorem dX8_mean_70 : decode cX8_mean 70 = .ok (.dreturn, 1) := by decide +kernel
theorem dX8_digest_0 : decode cX8_digest 0 = .ok (.ldc2_w 224, 3) := by decide +kernel
theorem dX8_digest_3 : decode cX8_digest 3 = .ok (.lstore_n 1, 1) := by decide +kernel
theorem dX8_digest_4 : decode cX8_digest 4 = .ok (.iconst 0, 1) := by decide +kernel
theorem dX8_digest_5 : decode cX8_digest 5 = .ok (.istore_n 3, 1) := by decide +kernel
theorem dX8_digest_6 : decode cX8_digest 6 = .ok (.iload_n 3, 1) := by decide +kernel
theorem dX8_digest_7 : decode cX8_digest 7 = .ok (.bipush 10, 2) := by decide +kernel
theorem dX8_digest_9 : decode cX8_digest 9 = .ok (.if_icmp .ge 22, 3) := by decide +kernel
theorem dX8_digest_12 : decode cX8_digest 12 = .ok (.lload_n 1, 1) := by decide +kernel
theorem dX8_digest_13 : decode cX8_digest 13 = .ok (.ldc2_w 226, 3) := by decide +kernel
theorem dX8_digest_16 : decode cX8_digest 16 = .ok (.lmul, 1) := by decide +kernel
theorem dX8_digest_17 : decode cX8_digest 17 = .ok (.aload_n 0, 1) := by decide +kernel
theorem dX8_digest_18 : decode cX8_digest 18 = .ok (.iload_n 3, 1) := by decide +kernel
theorem dX8_digest_19 : decode cX8_digest 19 = .ok (.invokevirtual 184, 3) := by decide +kernel
theorem dX8_digest_22 : decode cX8_digest 22 = .ok (.i2l, 1) := by decide +kernel
theorem dX8_digest_23 : decode cX8_digest 23 = .ok (.ladd, 1) := by decide +kernel
theorem dX8_digest_24 : decode cX8_digest 24 = .ok (.lstore_n 1, 1) := by decide +kernel
theorem dX8_digest_25 : decode cX8_digest 25 = .ok (.iinc 3 1, 3) := by decide +kernel
theorem dX8_digest_28 : decode cX8_digest 28 = .ok (.goto (-22), 3) := by decide +kernel
theorem dX8_digest_31 : decode cX8_digest 31 = .ok (.iconst 0, 1) := by decide +kernel
theorem dX8_digest_32 : decode cX8_digest 32 = .ok (.istore_n 3, 1) := by decide +kernel
theorem dX8_digest_33 : decode cX8_digest 33 = .ok (.iload_n 3, 1) := by decide +kernel
theorem dX8_digest_34 : decode cX8_digest 34 = .ok (.bipush 12, 2) := by decide +kernel
theorem dX8_digest_36 : decode cX8_digest 36 = .ok (.if_icmp .ge 26, 3) := by decide +kernel
theorem dX8_digest_39 : decode cX8_digest 39 = .ok (.lload_n 1, 1) := by decide +kernel
theorem dX8_digest_40 : decode cX8_digest 40 = .ok (.ldc2_w 226, 3) := by decide +kernel
theorem dX8_digest_43 : decode cX8_digest 43 = .ok (.lmul, 1) := by decide +kernel
theorem dX8_digest_44 : decode cX8_digest 44 = .ok (.aload_n 0, 1) := by decide +kernel
theorem dX8_digest_45 : decode cX8_digest 45 = .ok (.getfield 10, 3) := by decide +kernel
theorem dX8_digest_48 : decode cX8_digest 48 = .ok (.getfield 110, 3) := by decide +kernel
theorem dX8_digest_51 : decode cX8_digest 51 = .ok (.iload_n 3, 1) := by decide +kernel
theorem dX8_digest_52 : decode cX8_digest 52 = .ok (.iaload, 1) := by decide +kernel
theorem dX8_digest_53 : decode cX8_digest 53 = .ok (.i2l, 1) := by decide +kernel
theorem dX8_digest_54 : decode cX8_digest 54 = .ok (.ladd, 1) := by decide +kernel
theorem dX8_digest_55 : decode cX8_digest 55 = .ok (.lstore_n 1, 1) := by decide +kernel
theorem dX8_digest_56 : decode cX8_digest 56 = .ok (.iinc 3 1, 3) := by decide +kernel
theorem dX8_digest_59 : decode cX8_digest 59 = .ok (.goto (-26), 3) := by decide +kernel
theorem dX8_digest_62 : decode cX8_digest 62 = .ok (.iconst 0, 1) := by decide +kernel
theorem dX8_digest_63 : decode cX8_digest 63 = .ok (.istore_n 3, 1) := by decide +kernel
theorem dX8_digest_64 : decode cX8_digest 64 = .ok (.iload_n 3, 1) := by decide +kernel
theorem dX8_digest_65 : decode cX8_digest 65 = .ok (.aload_n 0, 1) := by decide +kernel
theorem dX8_digest_66 : decode cX8_digest 66 = .ok (.getfield 10, 3) := by decide +kernel
theorem dX8_digest_69 : decode cX8_digest 69 = .ok (.getfield 50, 3) := by decide +kernel
theorem dX8_digest_72 : decode cX8_digest 72 = .ok (.if_icmp .ge 16, 3) := by decide +kernel
theorem dX8_digest_75 : decode cX8_digest 75 = .ok (.aload_n 0, 1) := by decide +kernel
theorem dX8_digest_76 : decode cX8_digest 76 = .ok (.lload_n 1, 1) := by decide +kernel
theorem dX8_digest_77 : decode cX8_digest 77 = .ok (.iload_n 3, 1) := by decide +kernel
theorem dX8_digest_78 : decode cX8_digest 78 = .ok (.invokevirtual 228, 3) := by decide +kernel
theorem dX8_digest_81 : decode cX8_digest 81 = .ok (.lstore_n 1, 1) := by decide +kernel
theorem dX8_digest_82 : decode cX8_digest 82 = .ok (.iinc 3 1, 3) := by decide +kernel
theorem dX8_digest_85 : decode cX8_digest 85 = .ok (.goto (-21), 3) := by decide +kernel
theorem dX8_digest_88 : decode cX8_digest 88 = .ok (.iconst 0, 1) := by decide +kernel
theorem dX8_digest_89 : decode cX8_digest 89 = .ok (.istore_n 3, 1) := by decide +kernel
theorem dX8_digest_90 : decode cX8_digest 90 = .ok (.iload_n 3, 1) := by decide +kernel
theorem dX8_digest_91 : decode cX8_digest 91 = .ok (.aload_n 0, 1) := by decide +kernel
theorem dX8_digest_92 : decode cX8_digest 92 = .ok (.getfield 10, 3) := by decide +kernel
theorem dX8_digest_95 : decode cX8_digest 95 = .ok (.getfield 77, 3) := by decide +kernel
theorem dX8_digest_98 : decode cX8_digest 98 = .ok (.if_icmp .ge 40, 3) := by decide +kernel
theorem dX8_digest_101 : decode cX8_digest 101 = .ok (.iconst 0, 1) := by decide +kernel
theorem dX8_digest_102 : decode cX8_digest 102 = .ok (.istore 4, 2) := by decide +kernel
theorem dX8_digest_104 : decode cX8_digest 104 = .ok (.iload 4, 2) := by decide +kernel
theorem dX8_digest_106 : decode cX8_digest 106 = .ok (.bipush 11, 2) := by decide +kernel
theorem dX8_digest_108 : decode cX8_digest 108 = .ok (.if_icmp .ge 24, 3) := by decide +kernel
theorem dX8_digest_111 : decode cX8_digest 111 = .ok (.lload_n 1, 1) := by decide +kernel
theorem dX8_digest_112 : decode cX8_digest 112 = .ok (.ldc2_w 226, 3) := by decide +kernel
theorem dX8_digest_115 : decode cX8_digest 115 = .ok (.lmul, 1) := by decide +kernel
theorem dX8_digest_116 : decode cX8_digest 116 = .ok (.aload_n 0, 1) := by decide +kernel
theorem dX8_digest_117 : decode cX8_digest 117 = .ok (.iload_n 3, 1) := by decide +kernel
theorem dX8_digest_118 : decode cX8_digest 118 = .ok (.iload 4, 2) := by decide +kernel
theorem dX8_digest_120 : decode cX8_digest 120 = .ok (.invokevirtual 122, 3) := by decide +kernel
theorem dX8_digest_123 : decode cX8_digest 123 = .ok (.i2l, 1) := by decide +kernel
theorem dX8_digest_124 : decode cX8_digest 124 = .ok (.ladd, 1) := by decide +kernel
theorem dX8_digest_125 : decode cX8_digest 125 = .ok (.lstore_n 1, 1) := by decide +kernel
theorem dX8_digest_126 : decode cX8_digest 126 = .ok (.iinc 4 1, 3) := by decide +kernel
theorem dX8_digest_129 : decode cX8_digest 129 = .ok (.goto (-25), 3) := by decide +kernel
theorem dX8_digest_132 : decode cX8_digest 132 = .ok (.iinc 3 1, 3) := by decide +kernel
theorem dX8_digest_135 : decode cX8_digest 135 = .ok (.goto (-45), 3) := by decide +kernel
theorem dX8_digest_138 : decode cX8_digest 138 = .ok (.iconst 0, 1) := by decide +kernel
theorem dX8_digest_139 : decode cX8_digest 139 = .ok (.istore_n 3, 1) := by decide +kernel
theorem dX8_digest_140 : decode cX8_digest 140 = .ok (.iload_n 3, 1) := by decide +kernel
theorem dX8_digest_141 : decode cX8_digest 141 = .ok (.aload_n 0, 1) := by decide +kernel
theorem dX8_digest_142 : decode cX8_digest 142 = .ok (.getfield 10, 3) := by decide +kernel
theorem dX8_digest_145 : decode cX8_digest 145 = .ok (.getfield 150, 3) := by decide +kernel
theorem dX8_digest_148 : decode cX8_digest 148 = .ok (.if_icmp .ge 40, 3) := by decide +kernel
theorem dX8_digest_151 : decode cX8_digest 151 = .ok (.iconst 0, 1) := by decide +kernel
theorem dX8_digest_152 : decode cX8_digest 152 = .ok (.istore 4, 2) := by decide +kernel
theorem dX8_digest_154 : decode cX8_digest 154 = .ok (.iload 4, 2) := by decide +kernel
theorem dX8_digest_156 : decode cX8_digest 156 = .ok (.bipush 11, 2) := by decide +kernel
theorem dX8_digest_158 : decode cX8_digest 158 = .ok (.if_icmp .ge 24, 3) := by decide +kernel
theorem dX8_digest_161 : decode cX8_digest 161 = .ok (.lload_n 1, 1) := by decide +kernel
theorem dX8_digest_162 : decode cX8_digest 162 = .ok (.ldc2_w 226, 3) := by decide +kernel
theorem dX8_digest_165 : decode cX8_digest 165 = .ok (.lmul, 1) := by decide +kernel
theorem dX8_digest_166 : decode cX8_digest 166 = .ok (.aload_n 0, 1) := by decide +kernel
theorem dX8_digest_167 : decode cX8_digest 167 = .ok (.iload_n 3, 1) := by decide +kernel
theorem dX8_digest_168 : decode cX8_digest 168 = .ok (.iload 4, 2) := by decide +kernel
theorem dX8_digest_170 : decode cX8_digest 170 = .ok (.invokevirtual 166, 3) := by decide +kernel
theorem dX8_digest_173 : decode cX8_digest 173 = .ok (.i2l, 1) := by decide +kernel
theorem dX8_digest_174 : decode cX8_digest 174 = .ok (.ladd, 1) := by decide +kernel
theorem dX8_digest_175 : decode cX8_digest 175 = .ok (.lstore_n 1, 1) := by decide +kernel
theorem dX8_digest_176 : decode cX8_digest 176 = .ok (.iinc 4 1, 3) := by decide +kernel
theorem dX8_digest_179 : decode cX8_digest 179 = .ok (.goto (-25), 3) := by decide +kernel
theorem dX8_digest_182 : decode cX8_digest 182 = .ok (.iinc 3 1, 3) := by decide +kernel
theorem dX8_digest_185 : decode cX8_digest 185 = .ok (.goto (-45), 3) := by decide +kernel
theorem dX8_digest_188 : decode cX8_digest 188 = .ok (.lload_n 1, 1) := by decide +kernel
theorem dX8_digest_189 : decode cX8_digest 189 = .ok (.lreturn, 1) := by decide +kernel
theorem dX8_within_0 : decode cX8_within 0 = .ok (.iload_n 0, 1) := by decide +kernel
theorem dX8_within_1 : decode cX8_within 1 = .ok (.iload_n 1, 1) := by decide +kernel
theorem dX8_within_2 : decode cX8_within 2 = .ok (.if_icmp .lt 12, 3) := by decide +kernel
theorem dX8_within_5 : decode cX8_within 5 = .ok (.iload_n 0, 1) := by decide +kernel
theorem dX8_within_6 : decode cX8_within 6 = .ok (.iload_n 2, 1) := by decide +kernel
theorem dX8_within_7 : decode cX8_within 7 = .ok (.if_icmp .gt 7, 3) := by decide +kernel
theorem dX8_within_10 : decode cX8_within 10 = .ok (.iconst 1, 1) := by decide +kernel
theorem dX8_within_11 : decode cX8_within 11 = .ok (.goto 4, 3) := by decide +kernel
theorem dX8_within_14 : decode cX8_within 14 = .ok (.iconst 0, 1) := by decide +kernel
theorem dX8_within_15 : decode cX8_within 15 = .ok (.ireturn, 1) := by decide +kernel
theorem dX8_isWeight_0 : decode cX8_isWeight 0 = .ok (.iload_n 0, 1) := by decide +kernel
theorem dX8_isWeight_1 : decode cX8_isWeight 1 = .ok (.bipush 20, 2) := by decide +kernel
theorem dX8_isWeight_3 : decode cX8_isWeight 3 = .ok (.bipush 120, 2) := by decide +kernel
theorem dX8_isWeight_5 : decode cX8_isWeight 5 = .ok (.invokestatic 35, 3) := by decide +kernel
theorem dX8_isWeight_8 : decode cX8_isWeight 8 = .ok (.ireturn, 1) := by decide +kernel
theorem dX8_isPlatform_0 : decode cX8_isPlatform 0 = .ok (.iload_n 1, 1) := by decide +kernel
theorem dX8_isPlatform_1 : decode cX8_isPlatform 1 = .ok (.iconst 0, 1) := by decide +kernel
theorem dX8_isPlatform_2 : decode cX8_isPlatform 2 = .ok (.aload_n 0, 1) := by decide +kernel
theorem dX8_isPlatform_3 : decode cX8_isPlatform 3 = .ok (.getfield 10, 3) := by decide +kernel
theorem dX8_isPlatform_6 : decode cX8_isPlatform 6 = .ok (.getfield 50, 3) := by decide +kernel
theorem dX8_isPlatform_9 : decode cX8_isPlatform 9 = .ok (.iconst 1, 1) := by decide +kernel
theorem dX8_isPlatform_10 : decode cX8_isPlatform 10 = .ok (.isub, 1) := by decide +kernel
theorem dX8_isPlatform_11 : decode cX8_isPlatform 11 = .ok (.invokestatic 35, 3) := by decide +kernel
theorem dX8_isPlatform_14 : decode cX8_isPlatform 14 = .ok (.ireturn, 1) := by decide +kernel
theorem dX8_isLine_0 : decode cX8_isLine 0 = .ok (.iload_n 1, 1) := by decide +kernel
theorem dX8_isLine_1 : decode cX8_isLine 1 = .ok (.iconst 0, 1) := by decide +kernel
theorem dX8_isLine_2 : decode cX8_isLine 2 = .ok (.aload_n 0, 1) := by decide +kernel
theorem dX8_isLine_3 : decode cX8_isLine 3 = .ok (.getfield 10, 3) := by decide +kernel
theorem dX8_isLine_6 : decode cX8_isLine 6 = .ok (.getfield 77, 3) := by decide +kernel
theorem dX8_isLine_9 : decode cX8_isLine 9 = .ok (.iconst 1, 1) := by decide +kernel
theorem dX8_isLine_10 : decode cX8_isLine 10 = .ok (.isub, 1) := by decide +kernel
theorem dX8_isLine_11 : decode cX8_isLine 11 = .ok (.invokestatic 35, 3) := by decide +kernel
theorem dX8_isLine_14 : decode cX8_isLine 14 = .ok (.ireturn, 1) := by decide +kernel
theorem dX8_isRider_0 : decode cX8_isRider 0 = .ok (.iload_n 1, 1) := by decide +kernel
theorem dX8_isRider_1 : decode cX8_isRider 1 = .ok (.iconst 0, 1) := by decide +kernel
theorem dX8_isRider_2 : decode cX8_isRider 2 = .ok (.aload_n 0, 1) := by decide +kernel
theorem dX8_isRider_3 : decode cX8_isRider 3 = .ok (.getfield 10, 3) := by decide +kernel
theorem dX8_isRider_6 : decode cX8_isRider 6 = .ok (.getfield 150, 3) := by decide +kernel
theorem dX8_isRider_9 : decode cX8_isRider 9 = .ok (.iconst 1, 1) := by decide +kernel
theorem dX8_isRider_10 : decode cX8_isRider 10 = .ok (.isub, 1) := by decide +kernel
theorem dX8_isRider_11 : decode cX8_isRider 11 = .ok (.invokestatic 35, 3) := by decide +kernel
theorem dX8_isRider_14 : decode cX8_isRider 14 = .ok (.ireturn, 1) := by decide +kernel
theorem dX8_arrivalsWithOneMore_0 : decode cX8_arrivalsWithOneMore 0 = .ok (.aload_n 0, 1) := by decide +kernel
theorem dX8_arrivalsWithOneMore_1 : decode cX8_arrivalsWithOneMore 1 = .ok (.getfield 25, 3) := by decide +kernel
theorem dX8_arrivalsWithOneMore_4 : decode cX8_arrivalsWithOneMore 4 = .ok (.aload_n 0, 1) := by decide +kernel
theorem dX8_arrivalsWithOneMore_5 : decode cX8_arrivalsWithOneMore 5 = .ok (.getfield 21, 3) := by decide +kernel
theorem dX8_arrivalsWithOneMore_8 : decode cX8_arrivalsWithOneMore 8 = .ok (.invokevirtual 196, 3) := by decide +kernel
theorem dX8_arrivalsWithOneMore_11 : decode cX8_arrivalsWithOneMore 11 = .ok (.aload_n 0, 1) := by decide +kernel
theorem dX8_arrivalsWithOneMore_12 : decode cX8_arrivalsWithOneMore 12 = .ok (.getfield 25, 3) := by decide +kernel
theorem dX8_arrivalsWithOneMore_15 : decode cX8_arrivalsWithOneMore 15 = .ok (.iload_n 1, 1) := by decide +kernel
theorem dX8_arrivalsWithOneMore_16 : decode cX8_arrivalsWithOneMore 16 = .ok (.iconst 1, 1) := by decide +kernel
theorem dX8_arrivalsWithOneMore_17 : decode cX8_arrivalsWithOneMore 17 = .ok (.invokevirtual 85, 3) := by decide +kernel
theorem dX8_arrivalsWithOneMore_20 : decode cX8_arrivalsWithOneMore 20 = .ok (.aload_n 0, 1) := by decide +kernel
theorem dX8_arrivalsWithOneMore_21 : decode cX8_arrivalsWithOneMore 21 = .ok (.getfield 25, 3) := by decide +kernel
theorem dX8_arrivalsWithOneMore_24 : decode cX8_arrivalsWithOneMore 24 = .ok (.iload_n 2, 1) := by decide +kernel
theorem dX8_arrivalsWithOneMore_25 : decode cX8_arrivalsWithOneMore 25 = .ok (.invokevirtual 179, 3) := by decide +kernel
theorem dX8_arrivalsWithOneMore_28 : decode cX8_arrivalsWithOneMore 28 = .ok (.ireturn, 1) := by decide +kernel
theorem dX8_digestPlatform_0 : decode cX8_digestPlatform 0 = .ok (.lload_n 1, 1) := by decide +kernel
theorem dX8_digestPlatform_1 : decode cX8_digestPlatform 1 = .ok (.lstore 4, 2) := by decide +kernel
theorem dX8_digestPlatform_3 : decode cX8_digestPlatform 3 = .ok (.iconst 0, 1) := by decide +kernel
theorem dX8_digestPlatform_4 : decode cX8_digestPlatform 4 = .ok (.istore 6, 2) := by decide +kernel
theorem dX8_digestPlatform_6 : decode cX8_digestPlatform 6 = .ok (.iload 6, 2) := by decide +kernel
theorem dX8_digestPlatform_8 : decode cX8_digestPlatform 8 = .ok (.bipush 8, 2) := by decide +kernel
theorem dX8_digestPlatform_10 : decode cX8_digestPlatform 10 = .ok (.if_icmp .ge 26, 3) := by decide +kernel
theorem dX8_digestPlatform_13 : decode cX8_digestPlatform 13 = .ok (.lload 4, 2) := by decide +kernel
theorem dX8_digestPlatform_15 : decode cX8_digestPlatform 15 = .ok (.ldc2_w 226, 3) := by decide +kernel
theorem dX8_digestPlatform_18 : decode cX8_digestPlatform 18 = .ok (.lmul, 1) := by decide +kernel
theorem dX8_digestPlatform_19 : decode cX8_digestPlatform 19 = .ok (.aload_n 0, 1) := by decide +kernel
theorem dX8_digestPlatform_20 : decode cX8_digestPlatform 20 = .ok (.iload_n 3, 1) := by decide +kernel
theorem dX8_digestPlatform_21 : decode cX8_digestPlatform 21 = .ok (.iload 6, 2) := by decide +kernel
theorem dX8_digestPlatform_23 : decode cX8_digestPlatform 23 = .ok (.invokevirtual 116, 3) := by decide +kernel
theorem dX8_digestPlatform_26 : decode cX8_digestPlatform 26 = .ok (.i2l, 1) := by decide +kernel
theorem dX8_digestPlatform_27 : decode cX8_digestPlatform 27 = .ok (.ladd, 1) := by decide +kernel
theorem dX8_digestPlatform_28 : decode cX8_digestPlatform 28 = .ok (.lstore 4, 2) := by decide +kernel
theorem dX8_digestPlatform_30 : decode cX8_digestPlatform 30 = .ok (.iinc 6 1, 3) := by decide +kernel
theorem dX8_digestPlatform_33 : decode cX8_digestPlatform 33 = .ok (.goto (-27), 3) := by decide +kernel
theorem dX8_digestPlatform_36 : decode cX8_digestPlatform 36 = .ok (.iconst 0, 1) := by decide +kernel
theorem dX8_digestPlatform_37 : decode cX8_digestPlatform 37 = .ok (.istore 6, 2) := by decide +kernel
theorem dX8_digestPlatform_39 : decode cX8_digestPlatform 39 = .ok (.iload 6, 2) := by decide +kernel
theorem dX8_digestPlatform_41 : decode cX8_digestPlatform 41 = .ok (.aload_n 0, 1) := by decide +kernel
theorem dX8_digestPlatform_42 : decode cX8_digestPlatform 42 = .ok (.getfield 21, 3) := by decide +kernel
theorem dX8_digestPlatform_45 : decode cX8_digestPlatform 45 = .ok (.iload_n 3, 1) := by decide +kernel
theorem dX8_digestPlatform_46 : decode cX8_digestPlatform 46 = .ok (.invokevirtual 169, 3) := by decide +kernel
theorem dX8_digestPlatform_49 : decode cX8_digestPlatform 49 = .ok (.if_icmp .ge 29, 3) := by decide +kernel
theorem dX8_digestPlatform_52 : decode cX8_digestPlatform 52 = .ok (.lload 4, 2) := by decide +kernel
theorem dX8_digestPlatform_54 : decode cX8_digestPlatform 54 = .ok (.ldc2_w 226, 3) := by decide +kernel
theorem dX8_digestPlatform_57 : decode cX8_digestPlatform 57 = .ok (.lmul, 1) := by decide +kernel
theorem dX8_digestPlatform_58 : decode cX8_digestPlatform 58 = .ok (.aload_n 0, 1) := by decide +kernel
theorem dX8_digestPlatform_59 : decode cX8_digestPlatform 59 = .ok (.getfield 21, 3) := by decide +kernel
theorem dX8_digestPlatform_62 : decode cX8_digestPlatform 62 = .ok (.iload_n 3, 1) := by decide +kernel
theorem dX8_digestPlatform_63 : decode cX8_digestPlatform 63 = .ok (.iload 6, 2) := by decide +kernel
theorem dX8_digestPlatform_65 : decode cX8_digestPlatform 65 = .ok (.invokevirtual 174, 3) := by decide +kernel
theorem dX8_digestPlatform_68 : decode cX8_digestPlatform 68 = .ok (.i2l, 1) := by decide +kernel
theorem dX8_digestPlatform_69 : decode cX8_digestPlatform 69 = .ok (.ladd, 1) := by decide +kernel
theorem dX8_digestPlatform_70 : decode cX8_digestPlatform 70 = .ok (.lstore 4, 2) := by decide +kernel
theorem dX8_digestPlatform_72 : decode cX8_digestPlatform 72 = .ok (.iinc 6 1, 3) := by decide +kernel
theorem dX8_digestPlatform_75 : decode cX8_digestPlatform 75 = .ok (.goto (-36), 3) := by decide +kernel
theorem dX8_digestPlatform_78 : decode cX8_digestPlatform 78 = .ok (.lload 4, 2) := by decide +kernel
theorem dX8_digestPlatform_80 : decode cX8_digestPlatform 80 = .ok (.lreturn, 1) := by decide +kernel
theorem dX8_platformFact_0 : decode cX8_platformFact 0 = .ok (.aload_n 0, 1) := by decide +kernel
theorem dX8_platformFact_1 : decode cX8_platformFact 1 = .ok (.getfield 10, 3) := by decide +kernel
theorem dX8_platformFact_4 : decode cX8_platformFact 4 = .ok (.getfield 232, 3) := by decide +kernel
theorem dX8_platformFact_7 : decode cX8_platformFact 7 = .ok (.iload_n 1, 1) := by decide +kernel
theorem dX8_platformFact_8 : decode cX8_platformFact 8 = .ok (.aaload, 1) := by decide +kernel
theorem dX8_platformFact_9 : decode cX8_platformFact 9 = .ok (.astore_n 3, 1) := by decide +kernel
theorem dX8_platformFact_10 : decode cX8_platformFact 10 = .ok (.iload_n 2, 1) := by decide +kernel
theorem dX8_platformFact_11 : decode cX8_platformFact 11 = .ok (.tableswitch 93 0 6 #[41, 46, 51, 56, 65, 75, 84], 41) := by decide +kernel
theorem dX8_platformFact_52 : decode cX8_platformFact 52 = .ok (.aload_n 3, 1) := by decide +kernel
theorem dX8_platformFact_53 : decode cX8_platformFact 53 = .ok (.getfield 236, 3) := by decide +kernel
theorem dX8_platformFact_56 : decode cX8_platformFact 56 = .ok (.ireturn, 1) := by decide +kernel
theorem dX8_platformFact_57 : decode cX8_platformFact 57 = .ok (.aload_n 3, 1) := by decide +kernel
theorem dX8_platformFact_58 : decode cX8_platformFact 58 = .ok (.getfield 241, 3) := by decide +kernel
theorem dX8_platformFact_61 : decode cX8_platformFact 61 = .ok (.ireturn, 1) := by decide +kernel
theorem dX8_platformFact_62 : decode cX8_platformFact 62 = .ok (.aload_n 3, 1) := by decide +kernel
theorem dX8_platformFact_63 : decode cX8_platformFact 63 = .ok (.getfield 244, 3) := by decide +kernel
theorem dX8_platformFact_66 : decode cX8_platformFact 66 = .ok (.ireturn, 1) := by decide +kernel
theorem dX8_platformFact_67 : decode cX8_platformFact 67 = .ok (.aload_n 0, 1) := by decide +kernel
theorem dX8_platformFact_68 : decode cX8_platformFact 68 = .ok (.getfield 21, 3) := by decide +kernel
theorem dX8_platformFact_71 : decode cX8_platformFact 71 = .ok (.iload_n 1, 1) := by decide +kernel
theorem dX8_platformFact_72 : decode cX8_platformFact 72 = .ok (.invokevirtual 169, 3) := by decide +kernel
theorem dX8_platformFact_75 : decode cX8_platformFact 75 = .ok (.ireturn, 1) := by decide +kernel
theorem dX8_platformFact_76 : decode cX8_platformFact 76 = .ok (.aload_n 0, 1) := by decide +kernel
theorem dX8_platformFact_77 : decode cX8_platformFact 77 = .ok (.getfield 21, 3) := by decide +kernel
theorem dX8_platformFact_80 : decode cX8_platformFact 80 = .ok (.iload_n 1, 1) := by decide +kernel
theorem dX8_platformFact_81 : decode cX8_platformFact 81 = .ok (.iconst 0, 1) := by decide +kernel
theorem dX8_platformFact_82 : decode cX8_platformFact 82 = .ok (.invokevirtual 174, 3) := by decide +kernel
theorem dX8_platformFact_85 : decode cX8_platformFact 85 = .ok (.ireturn, 1) := by decide +kernel
theorem dX8_platformFact_86 : decode cX8_platformFact 86 = .ok (.aload_n 0, 1) := by decide +kernel
theorem dX8_platformFact_87 : decode cX8_platformFact 87 = .ok (.getfield 10, 3) := by decide +kernel
theorem dX8_platformFact_90 : decode cX8_platformFact 90 = .ok (.iload_n 1, 1) := by decide +kernel
theorem dX8_platformFact_91 : decode cX8_platformFact 91 = .ok (.invokevirtual 247, 3) := by decide +kernel
theorem dX8_platformFact_94 : decode cX8_platformFact 94 = .ok (.ireturn, 1) := by decide +kernel
theorem dX8_platformFact_95 : decode cX8_platformFact 95 = .ok (.aload_n 0, 1) := by decide +kernel
theorem dX8_platformFact_96 : decode cX8_platformFact 96 = .ok (.getfield 10, 3) := by decide +kernel
theorem dX8_platformFact_99 : decode cX8_platformFact 99 = .ok (.iload_n 1, 1) := by decide +kernel
theorem dX8_platformFact_100 : decode cX8_platformFact 100 = .ok (.invokevirtual 250, 3) := by decide +kernel
theorem dX8_platformFact_103 : decode cX8_platformFact 103 = .ok (.ireturn, 1) := by decide +kernel
theorem dX8_platformFact_104 : decode cX8_platformFact 104 = .ok (.aload_n 0, 1) := by decide +kernel
theorem dX8_platformFact_105 : decode cX8_platformFact 105 = .ok (.getfield 21, 3) := by decide +kernel
theorem dX8_platformFact_108 : decode cX8_platformFact 108 = .ok (.iload_n 1, 1) := by decide +kernel
theorem dX8_platformFact_109 : decode cX8_platformFact 109 = .ok (.invokevirtual 253, 3) := by decide +kernel
theorem dX8_platformFact_112 : decode cX8_platformFact 112 = .ok (.ireturn, 1) := by decide +kernel
theorem dX8_lineFact_0 : decode cX8_lineFact 0 = .ok (.aload_n 0, 1) := by decide +kernel
theorem dX8_lineFact_1 : decode cX8_lineFact 1 = .ok (.getfield 10, 3) := by decide +kernel
theorem dX8_lineFact_4 : decode cX8_lineFact 4 = .ok (.getfield 130, 3) := by decide +kernel
theorem dX8_lineFact_7 : decode cX8_lineFact 7 = .ok (.iload_n 1, 1) := by decide +kernel
theorem dX8_lineFact_8 : decode cX8_lineFact 8 = .ok (.aaload, 1) := by decide +kernel
theorem dX8_lineFact_9 : decode cX8_lineFact 9 = .ok (.astore_n 3, 1) := by decide +kernel
theorem dX8_lineFact_10 : decode cX8_lineFact 10 = .ok (.aload_n 0, 1) := by decide +kernel
theorem dX8_lineFact_11 : decode cX8_lineFact 11 = .ok (.getfield 21, 3) := by decide +kernel
theorem dX8_lineFact_14 : decode cX8_lineFact 14 = .ok (.getfield 94, 3) := by decide +kernel
theorem dX8_lineFact_17 : decode cX8_lineFact 17 = .ok (.iload_n 1, 1) := by decide +kernel
theorem dX8_lineFact_18 : decode cX8_lineFact 18 = .ok (.aaload, 1) := by decide +kernel
theorem dX8_lineFact_19 : decode cX8_lineFact 19 = .ok (.astore 4, 2) := by decide +kernel
theorem dX8_lineFact_21 : decode cX8_lineFact 21 = .ok (.iload_n 2, 1) := by decide +kernel
theorem dX8_lineFact_22 : decode cX8_lineFact 22 = .ok (.tableswitch 109 0 9 #[54, 59, 64, 69, 74, 79, 85, 91, 97, 103], 54) := by decide +kernel
theorem dX8_lineFact_76 : decode cX8_lineFact 76 = .ok (.aload_n 3, 1) := by decide +kernel
theorem dX8_lineFact_77 : decode cX8_lineFact 77 = .ok (.getfield 256, 3) := by decide +kernel
theorem dX8_lineFact_80 : decode cX8_lineFact 80 = .ok (.ireturn, 1) := by decide +kernel
theorem dX8_lineFact_81 : decode cX8_lineFact 81 = .ok (.aload_n 3, 1) := by decide +kernel
theorem dX8_lineFact_82 : decode cX8_lineFact 82 = .ok (.getfield 259, 3) := by decide +kernel
theorem dX8_lineFact_85 : decode cX8_lineFact 85 = .ok (.ireturn, 1) := by decide +kernel
theorem dX8_lineFact_86 : decode cX8_lineFact 86 = .ok (.aload_n 3, 1) := by decide +kernel
theorem dX8_lineFact_87 : decode cX8_lineFact 87 = .ok (.getfield 262, 3) := by decide +kernel
theorem dX8_lineFact_90 : decode cX8_lineFact 90 = .ok (.ireturn, 1) := by decide +kernel
theorem dX8_lineFact_91 : decode cX8_lineFact 91 = .ok (.aload_n 3, 1) := by decide +kernel
theorem dX8_lineFact_92 : decode cX8_lineFact 92 = .ok (.getfield 265, 3) := by decide +kernel
theorem dX8_lineFact_95 : decode cX8_lineFact 95 = .ok (.ireturn, 1) := by decide +kernel
theorem dX8_lineFact_96 : decode cX8_lineFact 96 = .ok (.aload_n 3, 1) := by decide +kernel
theorem dX8_lineFact_97 : decode cX8_lineFact 97 = .ok (.getfield 268, 3) := by decide +kernel
theorem dX8_lineFact_100 : decode cX8_lineFact 100 = .ok (.ireturn, 1) := by decide +kernel
theorem dX8_lineFact_101 : decode cX8_lineFact 101 = .ok (.aload 4, 2) := by decide +kernel
theorem dX8_lineFact_103 : decode cX8_lineFact 103 = .ok (.invokevirtual 98, 3) := by decide +kernel
theorem dX8_lineFact_106 : decode cX8_lineFact 106 = .ok (.ireturn, 1) := by decide +kernel
theorem dX8_lineFact_107 : decode cX8_lineFact 107 = .ok (.aload 4, 2) := by decide +kernel
theorem dX8_lineFact_109 : decode cX8_lineFact 109 = .ok (.getfield 271, 3) := by decide +kernel
theorem dX8_lineFact_112 : decode cX8_lineFact 112 = .ok (.ireturn, 1) := by decide +kernel
theorem dX8_lineFact_113 : decode cX8_lineFact 113 = .ok (.aload 4, 2) := by decide +kernel
theorem dX8_lineFact_115 : decode cX8_lineFact 115 = .ok (.invokevirtual 274, 3) := by decide +kernel
theorem dX8_lineFact_118 : decode cX8_lineFact 118 = .ok (.ireturn, 1) := by decide +kernel
theorem dX8_lineFact_119 : decode cX8_lineFact 119 = .ok (.aload 4, 2) := by decide +kernel
theorem dX8_lineFact_121 : decode cX8_lineFact 121 = .ok (.getfield 277, 3) := by decide +kernel
theorem dX8_lineFact_124 : decode cX8_lineFact 124 = .ok (.ireturn, 1) := by decide +kernel
theorem dX8_lineFact_125 : decode cX8_lineFact 125 = .ok (.aload 4, 2) := by decide +kernel
theorem dX8_lineFact_127 : decode cX8_lineFact 127 = .ok (.getfield 280, 3) := by decide +kernel
theorem dX8_lineFact_130 : decode cX8_lineFact 130 = .ok (.ireturn, 1) := by decide +kernel
theorem dX8_lineFact_131 : decode cX8_lineFact 131 = .ok (.aload_n 0, 1) := by decide +kernel
theorem dX8_lineFact_132 : decode cX8_lineFact 132 = .ok (.getfield 10, 3) := by decide +kernel
theorem dX8_lineFact_135 : decode cX8_lineFact 135 = .ok (.aload_n 3, 1) := by decide +kernel
theorem dX8_lineFact_136 : decode cX8_lineFact 136 = .ok (.aload_n 0, 1) := by decide +kernel
theorem dX8_lineFact_137 : decode cX8_lineFact 137 = .ok (.getfield 21, 3) := by decide +kernel
theorem dX8_lineFact_140 : decode cX8_lineFact 140 = .ok (.getfield 283, 3) := by decide +kernel
theorem dX8_lineFact_143 : decode cX8_lineFact 143 = .ok (.invokevirtual 286, 3) := by decide +kernel
theorem dX8_lineFact_146 : decode cX8_lineFact 146 = .ok (.ifCond .eq 7, 3) := by decide +kernel
theorem dX8_lineFact_149 : decode cX8_lineFact 149 = .ok (.iconst 1, 1) := by decide +kernel
theorem dX8_lineFact_150 : decode cX8_lineFact 150 = .ok (.goto 4, 3) := by decide +kernel
theorem dX8_lineFact_153 : decode cX8_lineFact 153 = .ok (.iconst 0, 1) := by decide +kernel
theorem dX8_lineFact_154 : decode cX8_lineFact 154 = .ok (.ireturn, 1) := by decide +kernel
theorem dX8_riderFact_0 : decode cX8_riderFact 0 = .ok (.aload_n 0, 1) := by decide +kernel
theorem dX8_riderFact_1 : decode cX8_riderFact 1 = .ok (.getfield 10, 3) := by decide +kernel
theorem dX8_riderFact_4 : decode cX8_riderFact 4 = .ok (.getfield 290, 3) := by decide +kernel
theorem dX8_riderFact_7 : decode cX8_riderFact 7 = .ok (.iload_n 1, 1) := by decide +kernel
theorem dX8_riderFact_8 : decode cX8_riderFact 8 = .ok (.aaload, 1) := by decide +kernel
theorem dX8_riderFact_9 : decode cX8_riderFact 9 = .ok (.astore_n 3, 1) := by decide +kernel
theorem dX8_riderFact_10 : decode cX8_riderFact 10 = .ok (.aload_n 0, 1) := by decide +kernel
theorem dX8_riderFact_11 : decode cX8_riderFact 11 = .ok (.getfield 21, 3) := by decide +kernel
theorem dX8_riderFact_14 : decode cX8_riderFact 14 = .ok (.getfield 200, 3) := by decide +kernel
theorem dX8_riderFact_17 : decode cX8_riderFact 17 = .ok (.iload_n 1, 1) := by decide +kernel
theorem dX8_riderFact_18 : decode cX8_riderFact 18 = .ok (.aaload, 1) := by decide +kernel
theorem dX8_riderFact_19 : decode cX8_riderFact 19 = .ok (.astore 4, 2) := by decide +kernel
theorem dX8_riderFact_21 : decode cX8_riderFact 21 = .ok (.iload_n 2, 1) := by decide +kernel
theorem dX8_riderFact_22 : decode cX8_riderFact 22 = .ok (.tableswitch 153 0 9 #[54, 59, 64, 69, 75, 81, 87, 93, 122, 147], 54) := by decide +kernel
theorem dX8_riderFact_76 : decode cX8_riderFact 76 = .ok (.aload_n 3, 1) := by decide +kernel
theorem dX8_riderFact_77 : decode cX8_riderFact 77 = .ok (.getfield 294, 3) := by decide +kernel
theorem dX8_riderFact_80 : decode cX8_riderFact 80 = .ok (.ireturn, 1) := by decide +kernel
theorem dX8_riderFact_81 : decode cX8_riderFact 81 = .ok (.aload_n 3, 1) := by decide +kernel
theorem dX8_riderFact_82 : decode cX8_riderFact 82 = .ok (.getfield 299, 3) := by decide +kernel
theorem dX8_riderFact_85 : decode cX8_riderFact 85 = .ok (.ireturn, 1) := by decide +kernel
theorem dX8_riderFact_86 : decode cX8_riderFact 86 = .ok (.aload_n 3, 1) := by decide +kernel
theorem dX8_riderFact_87 : decode cX8_riderFact 87 = .ok (.getfield 302, 3) := by decide +kernel
theorem dX8_riderFact_90 : decode cX8_riderFact 90 = .ok (.ireturn, 1) := by decide +kernel
theorem dX8_riderFact_91 : decode cX8_riderFact 91 = .ok (.aload 4, 2) := by decide +kernel
theorem dX8_riderFact_93 : decode cX8_riderFact 93 = .ok (.getfield 221, 3) := by decide +kernel
theorem dX8_riderFact_96 : decode cX8_riderFact 96 = .ok (.ireturn, 1) := by decide +kernel
theorem dX8_riderFact_97 : decode cX8_riderFact 97 = .ok (.aload 4, 2) := by decide +kernel
theorem dX8_riderFact_99 : decode cX8_riderFact 99 = .ok (.getfield 305, 3) := by decide +kernel
theorem dX8_riderFact_102 : decode cX8_riderFact 102 = .ok (.ireturn, 1) := by decide +kernel
theorem dX8_riderFact_103 : decode cX8_riderFact 103 = .ok (.aload 4, 2) := by decide +kernel
theorem dX8_riderFact_105 : decode cX8_riderFact 105 = .ok (.getfield 308, 3) := by decide +kernel
theorem dX8_riderFact_108 : decode cX8_riderFact 108 = .ok (.ireturn, 1) := by decide +kernel
theorem dX8_riderFact_109 : decode cX8_riderFact 109 = .ok (.aload 4, 2) := by decide +kernel
theorem dX8_riderFact_111 : decode cX8_riderFact 111 = .ok (.getfield 311, 3) := by decide +kernel
theorem dX8_riderFact_114 : decode cX8_riderFact 114 = .ok (.ireturn, 1) := by decide +kernel
theorem dX8_riderFact_115 : decode cX8_riderFact 115 = .ok (.aload 4, 2) := by decide +kernel
theorem dX8_riderFact_117 : decode cX8_riderFact 117 = .ok (.getfield 221, 3) := by decide +kernel
theorem dX8_riderFact_120 : decode cX8_riderFact 120 = .ok (.ifCond .ne 22, 3) := by decide +kernel
theorem dX8_riderFact_123 : decode cX8_riderFact 123 = .ok (.aload_n 3, 1) := by decide +kernel
theorem dX8_riderFact_124 : decode cX8_riderFact 124 = .ok (.getfield 314, 3) := by decide +kernel
theorem dX8_riderFact_127 : decode cX8_riderFact 127 = .ok (.aload 4, 2) := by decide +kernel
theorem dX8_riderFact_129 : decode cX8_riderFact 129 = .ok (.getfield 305, 3) := by decide +kernel
theorem dX8_riderFact_132 : decode cX8_riderFact 132 = .ok (.invokevirtual 191, 3) := by decide +kernel
theorem dX8_riderFact_135 : decode cX8_riderFact 135 = .ok (.iconst 0, 1) := by decide +kernel
theorem dX8_riderFact_136 : decode cX8_riderFact 136 = .ok (.invokestatic 317, 3) := by decide +kernel
theorem dX8_riderFact_139 : decode cX8_riderFact 139 = .ok (.goto 4, 3) := by decide +kernel
theorem dX8_riderFact_142 : decode cX8_riderFact 142 = .ok (.iconst 0, 1) := by decide +kernel
theorem dX8_riderFact_143 : decode cX8_riderFact 143 = .ok (.ireturn, 1) := by decide +kernel
theorem dX8_riderFact_144 : decode cX8_riderFact 144 = .ok (.aload 4, 2) := by decide +kernel
theorem dX8_riderFact_146 : decode cX8_riderFact 146 = .ok (.getfield 221, 3) := by decide +kernel
theorem dX8_riderFact_149 : decode cX8_riderFact 149 = .ok (.ifCond .ne 18, 3) := by decide +kernel
theorem dX8_riderFact_152 : decode cX8_riderFact 152 = .ok (.aload_n 3, 1) := by decide +kernel
theorem dX8_riderFact_153 : decode cX8_riderFact 153 = .ok (.getfield 314, 3) := by decide +kernel
theorem dX8_riderFact_156 : decode cX8_riderFact 156 = .ok (.aload 4, 2) := by decide +kernel
theorem dX8_riderFact_158 : decode cX8_riderFact 158 = .ok (.getfield 305, 3) := by decide +kernel
theorem dX8_riderFact_161 : decode cX8_riderFact 161 = .ok (.invokevirtual 322, 3) := by decide +kernel
theorem dX8_riderFact_164 : decode cX8_riderFact 164 = .ok (.goto 4, 3) := by decide +kernel
theorem dX8_riderFact_167 : decode cX8_riderFact 167 = .ok (.iconst (-1), 1) := by decide +kernel
theorem dX8_riderFact_168 : decode cX8_riderFact 168 = .ok (.ireturn, 1) := by decide +kernel
theorem dX8_riderFact_169 : decode cX8_riderFact 169 = .ok (.aload 4, 2) := by decide +kernel
theorem dX8_riderFact_171 : decode cX8_riderFact 171 = .ok (.getfield 325, 3) := by decide +kernel
theorem dX8_riderFact_174 : decode cX8_riderFact 174 = .ok (.ireturn, 1) := by decide +kernel
theorem dX8_riderFact_175 : decode cX8_riderFact 175 = .ok (.aload 4, 2) := by decide +kernel
theorem dX8_riderFact_177 : decode cX8_riderFact 177 = .ok (.getfield 213, 3) := by decide +kernel
theorem dX8_riderFact_180 : decode cX8_riderFact 180 = .ok (.ireturn, 1) := by decide +kernel
theorem dX8_countFact_0 : decode cX8_countFact 0 = .ok (.iload_n 1, 1) := by decide +kernel
theorem dX8_countFact_1 : decode cX8_countFact 1 = .ok (.tableswitch 127 0 8 #[51, 59, 67, 75, 83, 92, 101, 110, 119], 51) := by decide +kernel
theorem dX8_countFact_52 : decode cX8_countFact 52 = .ok (.aload_n 0, 1) := by decide +kernel
theorem dX8_countFact_53 : decode cX8_countFact 53 = .ok (.getfield 21, 3) := by decide +kernel
theorem dX8_countFact_56 : decode cX8_countFact 56 = .ok (.getfield 283, 3) := by decide +kernel
theorem dX8_countFact_59 : decode cX8_countFact 59 = .ok (.ireturn, 1) := by decide +kernel
theorem dX8_countFact_60 : decode cX8_countFact 60 = .ok (.aload_n 0, 1) := by decide +kernel
theorem dX8_countFact_61 : decode cX8_countFact 61 = .ok (.getfield 10, 3) := by decide +kernel
theorem dX8_countFact_64 : decode cX8_countFact 64 = .ok (.getfield 50, 3) := by decide +kernel
theorem dX8_countFact_67 : decode cX8_countFact 67 = .ok (.ireturn, 1) := by decide +kernel
theorem dX8_countFact_68 : decode cX8_countFact 68 = .ok (.aload_n 0, 1) := by decide +kernel
theorem dX8_countFact_69 : decode cX8_countFact 69 = .ok (.getfield 10, 3) := by decide +kernel
theorem dX8_countFact_72 : decode cX8_countFact 72 = .ok (.getfield 77, 3) := by decide +kernel
theorem dX8_countFact_75 : decode cX8_countFact 75 = .ok (.ireturn, 1) := by decide +kernel
theorem dX8_countFact_76 : decode cX8_countFact 76 = .ok (.aload_n 0, 1) := by decide +kernel
theorem dX8_countFact_77 : decode cX8_countFact 77 = .ok (.getfield 10, 3) := by decide +kernel
theorem dX8_countFact_80 : decode cX8_countFact 80 = .ok (.getfield 150, 3) := by decide +kernel
theorem dX8_countFact_83 : decode cX8_countFact 83 = .ok (.ireturn, 1) := by decide +kernel
theorem dX8_countFact_84 : decode cX8_countFact 84 = .ok (.aload_n 0, 1) := by decide +kernel
theorem dX8_countFact_85 : decode cX8_countFact 85 = .ok (.getfield 21, 3) := by decide +kernel
theorem dX8_countFact_88 : decode cX8_countFact 88 = .ok (.iconst 0, 1) := by decide +kernel
theorem dX8_countFact_89 : decode cX8_countFact 89 = .ok (.invokevirtual 328, 3) := by decide +kernel
theorem dX8_countFact_92 : decode cX8_countFact 92 = .ok (.ireturn, 1) := by decide +kernel
theorem dX8_countFact_93 : decode cX8_countFact 93 = .ok (.aload_n 0, 1) := by decide +kernel
theorem dX8_countFact_94 : decode cX8_countFact 94 = .ok (.getfield 21, 3) := by decide +kernel
theorem dX8_countFact_97 : decode cX8_countFact 97 = .ok (.iconst 1, 1) := by decide +kernel
theorem dX8_countFact_98 : decode cX8_countFact 98 = .ok (.invokevirtual 328, 3) := by decide +kernel
theorem dX8_countFact_101 : decode cX8_countFact 101 = .ok (.ireturn, 1) := by decide +kernel
theorem dX8_countFact_102 : decode cX8_countFact 102 = .ok (.aload_n 0, 1) := by decide +kernel
theorem dX8_countFact_103 : decode cX8_countFact 103 = .ok (.getfield 21, 3) := by decide +kernel
theorem dX8_countFact_106 : decode cX8_countFact 106 = .ok (.iconst 2, 1) := by decide +kernel
theorem dX8_countFact_107 : decode cX8_countFact 107 = .ok (.invokevirtual 328, 3) := by decide +kernel
theorem dX8_countFact_110 : decode cX8_countFact 110 = .ok (.ireturn, 1) := by decide +kernel
theorem dX8_countFact_111 : decode cX8_countFact 111 = .ok (.aload_n 0, 1) := by decide +kernel
theorem dX8_countFact_112 : decode cX8_countFact 112 = .ok (.getfield 21, 3) := by decide +kernel
theorem dX8_countFact_115 : decode cX8_countFact 115 = .ok (.iconst 3, 1) := by decide +kernel
theorem dX8_countFact_116 : decode cX8_countFact 116 = .ok (.invokevirtual 328, 3) := by decide +kernel
theorem dX8_countFact_119 : decode cX8_countFact 119 = .ok (.ireturn, 1) := by decide +kernel
theorem dX8_countFact_120 : decode cX8_countFact 120 = .ok (.aload_n 0, 1) := by decide +kernel
theorem dX8_countFact_121 : decode cX8_countFact 121 = .ok (.getfield 21, 3) := by decide +kernel
theorem dX8_countFact_124 : decode cX8_countFact 124 = .ok (.invokevirtual 331, 3) := by decide +kernel
theorem dX8_countFact_127 : decode cX8_countFact 127 = .ok (.ireturn, 1) := by decide +kernel
theorem dX8_countFact_128 : decode cX8_countFact 128 = .ok (.aload_n 0, 1) := by decide +kernel
theorem dX8_countFact_129 : decode cX8_countFact 129 = .ok (.getfield 21, 3) := by decide +kernel
theorem dX8_countFact_132 : decode cX8_countFact 132 = .ok (.invokevirtual 334, 3) := by decide +kernel
theorem dX8_countFact_135 : decode cX8_countFact 135 = .ok (.ireturn, 1) := by decide +kernel
end
section
theorem dX9_init_0 : decode cX9_init 0 = .ok (.aload_n 0, 1) := by decide +kernel
theorem dX9_init_1 : decode cX9_init 1 = .ok (.aload_n 1, 1) := by decide +kernel
theorem dX9_init_2 : decode cX9_init 2 = .ok (.putfield 3, 3) := by decide +kernel
theorem dX9_init_5 : decode cX9_init 5 = .ok (.aload_n 0, 1) := by decide +kernel
theorem dX9_init_6 : decode cX9_init 6 = .ok (.invokespecial 9, 3) := by decide +kernel
theorem dX9_init_9 : decode cX9_init 9 = .ok (.aload_n 0, 1) := by decide +kernel
theorem dX9_init_10 : decode cX9_init 10 = .ok (.bipush 12, 2) := by decide +kernel
theorem dX9_init_12 : decode cX9_init 12 = .ok (.newarray .int, 2) := by decide +kernel
theorem dX9_init_14 : decode cX9_init 14 = .ok (.putfield 15, 3) := by decide +kernel
theorem dX9_init_17 : decode cX9_init 17 = .ok (.aload_n 0, 1) := by decide +kernel
theorem dX9_init_18 : decode cX9_init 18 = .ok (.bipush 12, 2) := by decide +kernel
theorem dX9_init_20 : decode cX9_init 20 = .ok (.newarray .int, 2) := by decide +kernel
theorem dX9_init_22 : decode cX9_init 22 = .ok (.putfield 19, 3) := by decide +kernel
theorem dX9_init_25 : decode cX9_init 25 = .ok (.aload_n 0, 1) := by decide +kernel
theorem dX9_init_26 : decode cX9_init 26 = .ok (.bipush 36, 2) := by decide +kernel
theorem dX9_init_28 : decode cX9_init 28 = .ok (.newarray .int, 2) := by decide +kernel
theorem dX9_init_30 : decode cX9_init 30 = .ok (.putfield 22, 3) := by decide +kernel
theorem dX9_init_33 : decode cX9_init 33 = .ok (.aload_n 0, 1) := by decide +kernel
theorem dX9_init_34 : decode cX9_init 34 = .ok (.bipush 36, 2) := by decide +kernel
theorem dX9_init_36 : decode cX9_init 36 = .ok (.newarray .int, 2) := by decide +kernel
theorem dX9_init_38 : decode cX9_init 38 = .ok (.putfield 25, 3) := by decide +kernel
theorem dX9_init_41 : decode cX9_init 41 = .ok (.aload_n 0, 1) := by decide +kernel
theorem dX9_init_42 : decode cX9_init 42 = .ok (.bipush 12, 2) := by decide +kernel
theorem dX9_init_44 : decode cX9_init 44 = .ok (.newarray .int, 2) := by decide +kernel
theorem dX9_init_46 : decode cX9_init 46 = .ok (.putfield 28, 3) := by decide +kernel
theorem dX9_init_49 : decode cX9_init 49 = .ok (.aload_n 0, 1) := by decide +kernel
theorem dX9_init_50 : decode cX9_init 50 = .ok (.bipush 12, 2) := by decide +kernel
theorem dX9_init_52 : decode cX9_init 52 = .ok (.newarray .int, 2) := by decide +kernel
theorem dX9_init_54 : decode cX9_init 54 = .ok (.putfield 31, 3) := by decide +kernel
theorem dX9_init_57 : decode cX9_init 57 = .ok (.aload_n 0, 1) := by decide +kernel
theorem dX9_init_58 : decode cX9_init 58 = .ok (.bipush 8, 2) := by decide +kernel
theorem dX9_init_60 : decode cX9_init 60 = .ok (.newarray .int, 2) := by decide +kernel
theorem dX9_init_62 : decode cX9_init 62 = .ok (.putfield 34, 3) := by decide +kernel
theorem dX9_init_65 : decode cX9_init 65 = .ok (.aload_n 0, 1) := by decide +kernel
theorem dX9_init_66 : decode cX9_init 66 = .ok (.bipush 96, 2) := by decide +kernel
theorem dX9_init_68 : decode cX9_init 68 = .ok (.newarray .int, 2) := by decide +kernel
theorem dX9_init_70 : decode cX9_init 70 = .ok (.putfield 37, 3) := by decide +kernel
theorem dX9_init_73 : decode cX9_init 73 = .ok (.aload_n 0, 1) := by decide +kernel
theorem dX9_init_74 : decode cX9_init 74 = .ok (.bipush 12, 2) := by decide +kernel
theorem dX9_init_76 : decode cX9_init 76 = .ok (.newarray .int, 2) := by decide +kernel
theorem dX9_init_78 : decode cX9_init 78 = .ok (.putfield 40, 3) := by decide +kernel
theorem dX9_init_81 : decode cX9_init 81 = .ok (.aload_n 0, 1) := by decide +kernel
theorem dX9_init_82 : decode cX9_init 82 = .ok (.bipush 12, 2) := by decide +kernel
theorem dX9_init_84 : decode cX9_init 84 = .ok (.newarray .int, 2) := by decide +kernel
theorem dX9_init_86 : decode cX9_init 86 = .ok (.putfield 43, 3) := by decide +kernel
theorem dX9_init_89 : decode cX9_init 89 = .ok (.aload_n 0, 1) := by decide +kernel
theorem dX9_init_90 : decode cX9_init 90 = .ok (.bipush 12, 2) := by decide +kernel
theorem dX9_init_92 : decode cX9_init 92 = .ok (.newarray .int, 2) := by decide +kernel
theorem dX9_init_94 : decode cX9_init 94 = .ok (.putfield 46, 3) := by decide +kernel
theorem dX9_init_97 : decode cX9_init 97 = .ok (.aload_n 0, 1) := by decide +kernel
theorem dX9_init_98 : decode cX9_init 98 = .ok (.bipush 12, 2) := by decide +kernel
theorem dX9_init_100 : decode cX9_init 100 = .ok (.newarray .int, 2) := by decide +kernel
theorem dX9_init_102 : decode cX9_init 102 = .ok (.putfield 49, 3) := by decide +kernel
theorem dX9_init_105 : decode cX9_init 105 = .ok (.aload_n 0, 1) := by decide +kernel
theorem dX9_init_106 : decode cX9_init 106 = .ok (.bipush 12, 2) := by decide +kernel
theorem dX9_init_108 : decode cX9_init 108 = .ok (.newarray .int, 2) := by decide +kernel
theorem dX9_init_110 : decode cX9_init 110 = .ok (.putfield 52, 3) := by decide +kernel
theorem dX9_init_113 : decode cX9_init 113 = .ok (.return_, 1) := by decide +kernel
theorem dX9_copy_0 : decode cX9_copy 0 = .ok (.aload_n 1, 1) := by decide +kernel
theorem dX9_copy_1 : decode cX9_copy 1 = .ok (.iconst 0, 1) := by decide +kernel
theorem dX9_copy_2 : decode cX9_copy 2 = .ok (.aload_n 2, 1) := by decide +kernel
theorem dX9_copy_3 : decode cX9_copy 3 = .ok (.iconst 0, 1) := by decide +kernel
theorem dX9_copy_4 : decode cX9_copy 4 = .ok (.aload_n 1, 1) := by decide +kernel
theorem dX9_copy_5 : decode cX9_copy 5 = .ok (.arraylength, 1) := by decide +kernel
theorem dX9_copy_6 : decode cX9_copy 6 = .ok (.invokestatic 55, 3) := by decide +kernel
theorem dX9_copy_9 : decode cX9_copy 9 = .ok (.return_, 1) := by decide +kernel
theorem dX9_become_0 : decode cX9_become 0 = .ok (.aload_n 0, 1) := by decide +kernel
theorem dX9_become_1 : decode cX9_become 1 = .ok (.aload_n 1, 1) := by decide +kernel
theorem dX9_become_2 : decode cX9_become 2 = .ok (.getfield 61, 3) := by decide +kernel
theorem dX9_become_5 : decode cX9_become 5 = .ok (.putfield 61, 3) := by decide +kernel
theorem dX9_become_8 : decode cX9_become 8 = .ok (.aload_n 0, 1) := by decide +kernel
theorem dX9_become_9 : decode cX9_become 9 = .ok (.aload_n 1, 1) := by decide +kernel
theorem dX9_become_10 : decode cX9_become 10 = .ok (.getfield 15, 3) := by decide +kernel
theorem dX9_become_13 : decode cX9_become 13 = .ok (.aload_n 0, 1) := by decide +kernel
theorem dX9_become_14 : decode cX9_become 14 = .ok (.getfield 15, 3) := by decide +kernel
theorem dX9_become_17 : decode cX9_become 17 = .ok (.invokevirtual 65, 3) := by decide +kernel
theorem dX9_become_20 : decode cX9_become 20 = .ok (.aload_n 0, 1) := by decide +kernel
theorem dX9_become_21 : decode cX9_become 21 = .ok (.aload_n 1, 1) := by decide +kernel
theorem dX9_become_22 : decode cX9_become 22 = .ok (.getfield 19, 3) := by decide +kernel
theorem dX9_become_25 : decode cX9_become 25 = .ok (.aload_n 0, 1) := by decide +kernel
theorem dX9_become_26 : decode cX9_become 26 = .ok (.getfield 19, 3) := by decide +kernel
theorem dX9_become_29 : decode cX9_become 29 = .ok (.invokevirtual 65, 3) := by decide +kernel
theorem dX9_become_32 : decode cX9_become 32 = .ok (.aload_n 0, 1) := by decide +kernel
theorem dX9_become_33 : decode cX9_become 33 = .ok (.aload_n 1, 1) := by decide +kernel
theorem dX9_become_34 : decode cX9_become 34 = .ok (.getfield 22, 3) := by decide +kernel
theorem dX9_become_37 : decode cX9_become 37 = .ok (.aload_n 0, 1) := by decide +kernel
theorem dX9_become_38 : decode cX9_become 38 = .ok (.getfield 22, 3) := by decide +kernel
theorem dX9_become_41 : decode cX9_become 41 = .ok (.invokevirtual 65, 3) := by decide +kernel
theorem dX9_become_44 : decode cX9_become 44 = .ok (.aload_n 0, 1) := by decide +kernel
theorem dX9_become_45 : decode cX9_become 45 = .ok (.aload_n 1, 1) := by decide +kernel
theorem dX9_become_46 : decode cX9_become 46 = .ok (.getfield 25, 3) := by decide +kernel
theorem dX9_become_49 : decode cX9_become 49 = .ok (.aload_n 0, 1) := by decide +kernel
theorem dX9_become_50 : decode cX9_become 50 = .ok (.getfield 25, 3) := by decide +kernel
theorem dX9_become_53 : decode cX9_become 53 = .ok (.invokevirtual 65, 3) := by decide +kernel
theorem dX9_become_56 : decode cX9_become 56 = .ok (.aload_n 0, 1) := by decide +kernel
theorem dX9_become_57 : decode cX9_become 57 = .ok (.aload_n 1, 1) := by decide +kernel
theorem dX9_become_58 : decode cX9_become 58 = .ok (.getfield 28, 3) := by decide +kernel
theorem dX9_become_61 : decode cX9_become 61 = .ok (.aload_n 0, 1) := by decide +kernel
theorem dX9_become_62 : decode cX9_become 62 = .ok (.getfield 28, 3) := by decide +kernel
theorem dX9_become_65 : decode cX9_become 65 = .ok (.invokevirtual 65, 3) := by decide +kernel
theorem dX9_become_68 : decode cX9_become 68 = .ok (.aload_n 0, 1) := by decide +kernel
theorem dX9_become_69 : decode cX9_become 69 = .ok (.aload_n 1, 1) := by decide +kernel
theorem dX9_become_70 : decode cX9_become 70 = .ok (.getfield 31, 3) := by decide +kernel
theorem dX9_become_73 : decode cX9_become 73 = .ok (.aload_n 0, 1) := by decide +kernel
theorem dX9_become_74 : decode cX9_become 74 = .ok (.getfield 31, 3) := by decide +kernel
theorem dX9_become_77 : decode cX9_become 77 = .ok (.invokevirtual 65, 3) := by decide +kernel
theorem dX9_become_80 : decode cX9_become 80 = .ok (.aload_n 0, 1) := by decide +kernel
theorem dX9_become_81 : decode cX9_become 81 = .ok (.aload_n 1, 1) := by decide +kernel
theorem dX9_become_82 : decode cX9_become 82 = .ok (.getfield 34, 3) := by decide +kernel
theorem dX9_become_85 : decode cX9_become 85 = .ok (.aload_n 0, 1) := by decide +kernel
theorem dX9_become_86 : decode cX9_become 86 = .ok (.getfield 34, 3) := by decide +kernel
theorem dX9_become_89 : decode cX9_become 89 = .ok (.invokevirtual 65, 3) := by decide +kernel
theorem dX9_become_92 : decode cX9_become 92 = .ok (.aload_n 0, 1) := by decide +kernel
theorem dX9_become_93 : decode cX9_become 93 = .ok (.aload_n 1, 1) := by decide +kernel
theorem dX9_become_94 : decode cX9_become 94 = .ok (.getfield 37, 3) := by decide +kernel
theorem dX9_become_97 : decode cX9_become 97 = .ok (.aload_n 0, 1) := by decide +kernel
theorem dX9_become_98 : decode cX9_become 98 = .ok (.getfield 37, 3) := by decide +kernel
theorem dX9_become_101 : decode cX9_become 101 = .ok (.invokevirtual 65, 3) := by decide +kernel
theorem dX9_become_104 : decode cX9_become 104 = .ok (.aload_n 0, 1) := by decide +kernel
theorem dX9_become_105 : decode cX9_become 105 = .ok (.aload_n 1, 1) := by decide +kernel
theorem dX9_become_106 : decode cX9_become 106 = .ok (.getfield 40, 3) := by decide +kernel
theorem dX9_become_109 : decode cX9_become 109 = .ok (.aload_n 0, 1) := by decide +kernel
theorem dX9_become_110 : decode cX9_become 110 = .ok (.getfield 40, 3) := by decide +kernel
theorem dX9_become_113 : decode cX9_become 113 = .ok (.invokevirtual 65, 3) := by decide +kernel
theorem dX9_become_116 : decode cX9_become 116 = .ok (.aload_n 0, 1) := by decide +kernel
theorem dX9_become_117 : decode cX9_become 117 = .ok (.aload_n 1, 1) := by decide +kernel
theorem dX9_become_118 : decode cX9_become 118 = .ok (.getfield 43, 3) := by decide +kernel
theorem dX9_become_121 : decode cX9_become 121 = .ok (.aload_n 0, 1) := by decide +kernel
theorem dX9_become_122 : decode cX9_become 122 = .ok (.getfield 43, 3) := by decide +kernel
theorem dX9_become_125 : decode cX9_become 125 = .ok (.invokevirtual 65, 3) := by decide +kernel
theorem dX9_become_128 : decode cX9_become 128 = .ok (.aload_n 0, 1) := by decide +kernel
theorem dX9_become_129 : decode cX9_become 129 = .ok (.aload_n 1, 1) := by decide +kernel
theorem dX9_become_130 : decode cX9_become 130 = .ok (.getfield 46, 3) := by decide +kernel
theorem dX9_become_133 : decode cX9_become 133 = .ok (.aload_n 0, 1) := by decide +kernel
theorem dX9_become_134 : decode cX9_become 134 = .ok (.getfield 46, 3) := by decide +kernel
theorem dX9_become_137 : decode cX9_become 137 = .ok (.invokevirtual 65, 3) := by decide +kernel
theorem dX9_become_140 : decode cX9_become 140 = .ok (.aload_n 0, 1) := by decide +kernel
theorem dX9_become_141 : decode cX9_become 141 = .ok (.aload_n 1, 1) := by decide +kernel
theorem dX9_become_142 : decode cX9_become 142 = .ok (.getfield 49, 3) := by decide +kernel
theorem dX9_become_145 : decode cX9_become 145 = .ok (.aload_n 0, 1) := by decide +kernel
theorem dX9_become_146 : decode cX9_become 146 = .ok (.getfield 49, 3) := by decide +kernel
theorem dX9_become_149 : decode cX9_become 149 = .ok (.invokevirtual 65, 3) := by decide +kernel
theorem dX9_become_152 : decode cX9_become 152 = .ok (.aload_n 0, 1) := by decide +kernel
theorem dX9_become_153 : decode cX9_become 153 = .ok (.aload_n 1, 1) := by decide +kernel
theorem dX9_become_154 : decode cX9_become 154 = .ok (.getfield 52, 3) := by decide +kernel
theorem dX9_become_157 : decode cX9_become 157 = .ok (.aload_n 0, 1) := by decide +kernel
theorem dX9_become_158 : decode cX9_become 158 = .ok (.getfield 52, 3) := by decide +kernel
theorem dX9_become_161 : decode cX9_become 161 = .ok (.invokevirtual 65, 3) := by decide +kernel
theorem dX9_become_164 : decode cX9_become 164 = .ok (.return_, 1) := by decide +kernel
theorem dX9_many_0 : decode cX9_many 0 = .ok (.iconst 0, 1) := by decide +kernel
theorem dX9_many_1 : decode cX9_many 1 = .ok (.istore_n 2, 1) := by decide +kernel
theorem dX9_many_2 : decode cX9_many 2 = .ok (.iconst 0, 1) := by decide +kernel
theorem dX9_many_3 : decode cX9_many 3 = .ok (.istore_n 3, 1) := by decide +kernel
theorem dX9_many_4 : decode cX9_many 4 = .ok (.iload_n 3, 1) := by decide +kernel
theorem dX9_many_5 : decode cX9_many 5 = .ok (.aload_n 0, 1) := by decide +kernel
theorem dX9_many_6 : decode cX9_many 6 = .ok (.getfield 3, 3) := by decide +kernel
theorem dX9_many_9 : decode cX9_many 9 = .ok (.getfield 69, 3) := by decide +kernel
theorem dX9_many_12 : decode cX9_many 12 = .ok (.if_icmp .ge 27, 3) := by decide +kernel
theorem dX9_many_15 : decode cX9_many 15 = .ok (.iload_n 2, 1) := by decide +kernel
theorem dX9_many_16 : decode cX9_many 16 = .ok (.aload_n 0, 1) := by decide +kernel
theorem dX9_many_17 : decode cX9_many 17 = .ok (.getfield 40, 3) := by decide +kernel
theorem dX9_many_20 : decode cX9_many 20 = .ok (.iload_n 3, 1) := by decide +kernel
theorem dX9_many_21 : decode cX9_many 21 = .ok (.iaload, 1) := by decide +kernel
theorem dX9_many_22 : decode cX9_many 22 = .ok (.iload_n 1, 1) := by decide +kernel
theorem dX9_many_23 : decode cX9_many 23 = .ok (.if_icmp .ne 7, 3) := by decide +kernel
theorem dX9_many_26 : decode cX9_many 26 = .ok (.iconst 1, 1) := by decide +kernel
theorem dX9_many_27 : decode cX9_many 27 = .ok (.goto 4, 3) := by decide +kernel
theorem dX9_many_30 : decode cX9_many 30 = .ok (.iconst 0, 1) := by decide +kernel
theorem dX9_many_31 : decode cX9_many 31 = .ok (.iadd, 1) := by decide +kernel
theorem dX9_many_32 : decode cX9_many 32 = .ok (.istore_n 2, 1) := by decide +kernel
theorem dX9_many_33 : decode cX9_many 33 = .ok (.iinc 3 1, 3) := by decide +kernel
theorem dX9_many_36 : decode cX9_many 36 = .ok (.goto (-32), 3) := by decide +kernel
theorem dX9_many_39 : decode cX9_many 39 = .ok (.iload_n 2, 1) := by decide +kernel
theorem dX9_many_40 : decode cX9_many 40 = .ok (.ireturn, 1) := by decide +kernel
theorem dX9_come_0 : decode cX9_come 0 = .ok (.aload_n 0, 1) := by decide +kernel
theorem dX9_come_1 : decode cX9_come 1 = .ok (.getfield 43, 3) := by decide +kernel
theorem dX9_come_4 : decode cX9_come 4 = .ok (.iload_n 1, 1) := by decide +kernel
theorem dX9_come_5 : decode cX9_come 5 = .ok (.iload_n 2, 1) := by decide +kernel
theorem dX9_come_6 : decode cX9_come 6 = .ok (.iastore, 1) := by decide +kernel
theorem dX9_come_7 : decode cX9_come 7 = .ok (.aload_n 0, 1) := by decide +kernel
theorem dX9_come_8 : decode cX9_come 8 = .ok (.getfield 46, 3) := by decide +kernel
theorem dX9_come_11 : decode cX9_come 11 = .ok (.iload_n 1, 1) := by decide +kernel
theorem dX9_come_12 : decode cX9_come 12 = .ok (.iconst 0, 1) := by decide +kernel
theorem dX9_come_13 : decode cX9_come 13 = .ok (.iastore, 1) := by decide +kernel
theorem dX9_come_14 : decode cX9_come 14 = .ok (.aload_n 0, 1) := by decide +kernel
theorem dX9_come_15 : decode cX9_come 15 = .ok (.getfield 40, 3) := by decide +kernel
theorem dX9_come_18 : decode cX9_come 18 = .ok (.iload_n 1, 1) := by decide +kernel
theorem dX9_come_19 : decode cX9_come 19 = .ok (.iload_n 2, 1) := by decide +kernel
theorem dX9_come_20 : decode cX9_come 20 = .ok (.aload_n 0, 1) := by decide +kernel
theorem dX9_come_21 : decode cX9_come 21 = .ok (.getfield 3, 3) := by decide +kernel
theorem dX9_come_24 : decode cX9_come 24 = .ok (.getfield 72, 3) := by decide +kernel
theorem dX9_come_27 : decode cX9_come 27 = .ok (.iload_n 1, 1) := by decide +kernel
theorem dX9_come_28 : decode cX9_come 28 = .ok (.iaload, 1) := by decide +kernel
theorem dX9_come_29 : decode cX9_come 29 = .ok (.if_icmp .ne 7, 3) := by decide +kernel
theorem dX9_come_32 : decode cX9_come 32 = .ok (.iconst 2, 1) := by decide +kernel
theorem dX9_come_33 : decode cX9_come 33 = .ok (.goto 4, 3) := by decide +kernel
theorem dX9_come_36 : decode cX9_come 36 = .ok (.iconst 0, 1) := by decide +kernel
theorem dX9_come_37 : decode cX9_come 37 = .ok (.iastore, 1) := by decide +kernel
theorem dX9_come_38 : decode cX9_come 38 = .ok (.aload_n 0, 1) := by decide +kernel
theorem dX9_come_39 : decode cX9_come 39 = .ok (.getfield 40, 3) := by decide +kernel
theorem dX9_come_42 : decode cX9_come 42 = .ok (.iload_n 1, 1) := by decide +kernel
theorem dX9_come_43 : decode cX9_come 43 = .ok (.iaload, 1) := by decide +kernel
theorem dX9_come_44 : decode cX9_come 44 = .ok (.iconst 2, 1) := by decide +kernel
theorem dX9_come_45 : decode cX9_come 45 = .ok (.if_icmp .ne 16, 3) := by decide +kernel
theorem dX9_come_48 : decode cX9_come 48 = .ok (.aload_n 0, 1) := by decide +kernel
theorem dX9_come_49 : decode cX9_come 49 = .ok (.getfield 52, 3) := by decide +kernel
theorem dX9_come_52 : decode cX9_come 52 = .ok (.iload_n 1, 1) := by decide +kernel
theorem dX9_come_53 : decode cX9_come 53 = .ok (.aload_n 0, 1) := by decide +kernel
theorem dX9_come_54 : decode cX9_come 54 = .ok (.getfield 61, 3) := by decide +kernel
theorem dX9_come_57 : decode cX9_come 57 = .ok (.iastore, 1) := by decide +kernel
theorem dX9_come_58 : decode cX9_come 58 = .ok (.goto 30, 3) := by decide +kernel
theorem dX9_come_61 : decode cX9_come 61 = .ok (.aload_n 0, 1) := by decide +kernel
theorem dX9_come_62 : decode cX9_come 62 = .ok (.getfield 37, 3) := by decide +kernel
theorem dX9_come_65 : decode cX9_come 65 = .ok (.bipush 12, 2) := by decide +kernel
theorem dX9_come_67 : decode cX9_come 67 = .ok (.iload_n 2, 1) := by decide +kernel
theorem dX9_come_68 : decode cX9_come 68 = .ok (.imul, 1) := by decide +kernel
theorem dX9_come_69 : decode cX9_come 69 = .ok (.aload_n 0, 1) := by decide +kernel
theorem dX9_come_70 : decode cX9_come 70 = .ok (.getfield 34, 3) := by decide +kernel
theorem dX9_come_73 : decode cX9_come 73 = .ok (.iload_n 2, 1) := by decide +kernel
theorem dX9_come_74 : decode cX9_come 74 = .ok (.iaload, 1) := by decide +kernel
theorem dX9_come_75 : decode cX9_come 75 = .ok (.iadd, 1) := by decide +kernel
theorem dX9_come_76 : decode cX9_come 76 = .ok (.iload_n 1, 1) := by decide +kernel
theorem dX9_come_77 : decode cX9_come 77 = .ok (.iastore, 1) := by decide +kernel
theorem dX9_come_78 : decode cX9_come 78 = .ok (.aload_n 0, 1) := by decide +kernel
theorem dX9_come_79 : decode cX9_come 79 = .ok (.getfield 34, 3) := by decide +kernel
theorem dX9_come_82 : decode cX9_come 82 = .ok (.iload_n 2, 1) := by decide +kernel
theorem dX9_come_83 : decode cX9_come 83 = .ok (.dup2, 1) := by decide +kernel
theorem dX9_come_84 : decode cX9_come 84 = .ok (.iaload, 1) := by decide +kernel
theorem dX9_come_85 : decode cX9_come 85 = .ok (.iconst 1, 1) := by decide +kernel
theorem dX9_come_86 : decode cX9_come 86 = .ok (.iadd, 1) := by decide +kernel
theorem dX9_come_87 : decode cX9_come 87 = .ok (.iastore, 1) := by decide +kernel
theorem dX9_come_88 : decode cX9_come 88 = .ok (.return_, 1) := by decide +kernel
theorem dX9_strike_0 : decode cX9_strike 0 = .ok (.bipush 12, 2) := by decide +kernel
theorem dX9_strike_2 : decode cX9_strike 2 = .ok (.aload_n 0, 1) := by decide +kernel
theorem dX9_strike_3 : decode cX9_strike 3 = .ok (.getfield 43, 3) := by decide +kernel
theorem dX9_strike_6 : decode cX9_strike 6 = .ok (.iload_n 1, 1) := by decide +kernel
theorem dX9_strike_7 : decode cX9_strike 7 = .ok (.iaload, 1) := by decide +kernel
theorem dX9_strike_8 : decode cX9_strike 8 = .ok (.imul, 1) := by decide +kernel
theorem dX9_strike_9 : decode cX9_strike 9 = .ok (.istore_n 2, 1) := by decide +kernel
theorem dX9_strike_10 : decode cX9_strike 10 = .ok (.iload_n 2, 1) := by decide +kernel
theorem dX9_strike_11 : decode cX9_strike 11 = .ok (.istore_n 3, 1) := by decide +kernel
theorem dX9_strike_12 : decode cX9_strike 12 = .ok (.aload_n 0, 1) := by decide +kernel
theorem dX9_strike_13 : decode cX9_strike 13 = .ok (.getfield 37, 3) := by decide +kernel
theorem dX9_strike_16 : decode cX9_strike 16 = .ok (.iload_n 3, 1) := by decide +kernel
theorem dX9_strike_17 : decode cX9_strike 17 = .ok (.iaload, 1) := by decide +kernel
theorem dX9_strike_18 : decode cX9_strike 18 = .ok (.iload_n 1, 1) := by decide +kernel
theorem dX9_strike_19 : decode cX9_strike 19 = .ok (.if_icmp .eq 9, 3) := by decide +kernel
theorem dX9_strike_22 : decode cX9_strike 22 = .ok (.iinc 3 1, 3) := by decide +kernel
theorem dX9_strike_25 : decode cX9_strike 25 = .ok (.goto (-13), 3) := by decide +kernel
theorem dX9_strike_28 : decode cX9_strike 28 = .ok (.aload_n 0, 1) := by decide +kernel
theorem dX9_strike_29 : decode cX9_strike 29 = .ok (.getfield 34, 3) := by decide +kernel
theorem dX9_strike_32 : decode cX9_strike 32 = .ok (.aload_n 0, 1) := by decide +kernel
theorem dX9_strike_33 : decode cX9_strike 33 = .ok (.getfield 43, 3) := by decide +kernel
theorem dX9_strike_36 : decode cX9_strike 36 = .ok (.iload_n 1, 1) := by decide +kernel
theorem dX9_strike_37 : decode cX9_strike 37 = .ok (.iaload, 1) := by decide +kernel
theorem dX9_strike_38 : decode cX9_strike 38 = .ok (.dup2, 1) := by decide +kernel
theorem dX9_strike_39 : decode cX9_strike 39 = .ok (.iaload, 1) := by decide +kernel
theorem dX9_strike_40 : decode cX9_strike 40 = .ok (.iconst 1, 1) := by decide +kernel
theorem dX9_strike_41 : decode cX9_strike 41 = .ok (.isub, 1) := by decide +kernel
theorem dX9_strike_42 : decode cX9_strike 42 = .ok (.iastore, 1) := by decide +kernel
theorem dX9_strike_43 : decode cX9_strike 43 = .ok (.iload_n 3, 1) := by decide +kernel
theorem dX9_strike_44 : decode cX9_strike 44 = .ok (.iload_n 2, 1) := by decide +kernel
theorem dX9_strike_45 : decode cX9_strike 45 = .ok (.aload_n 0, 1) := by decide +kernel
theorem dX9_strike_46 : decode cX9_strike 46 = .ok (.getfield 34, 3) := by decide +kernel
theorem dX9_strike_49 : decode cX9_strike 49 = .ok (.aload_n 0, 1) := by decide +kernel
theorem dX9_strike_50 : decode cX9_strike 50 = .ok (.getfield 43, 3) := by decide +kernel
theorem dX9_strike_53 : decode cX9_strike 53 = .ok (.iload_n 1, 1) := by decide +kernel
theorem dX9_strike_54 : decode cX9_strike 54 = .ok (.iaload, 1) := by decide +kernel
theorem dX9_strike_55 : decode cX9_strike 55 = .ok (.iaload, 1) := by decide +kernel
theorem dX9_strike_56 : decode cX9_strike 56 = .ok (.iadd, 1) := by decide +kernel
theorem dX9_strike_57 : decode cX9_strike 57 = .ok (.if_icmp .ge 23, 3) := by decide +kernel
theorem dX9_strike_60 : decode cX9_strike 60 = .ok (.aload_n 0, 1) := by decide +kernel
theorem dX9_strike_61 : decode cX9_strike 61 = .ok (.getfield 37, 3) := by decide +kernel
theorem dX9_strike_64 : decode cX9_strike 64 = .ok (.iload_n 3, 1) := by decide +kernel
theorem dX9_strike_65 : decode cX9_strike 65 = .ok (.aload_n 0, 1) := by decide +kernel
theorem dX9_strike_66 : decode cX9_strike 66 = .ok (.getfield 37, 3) := by decide +kernel
theorem dX9_strike_69 : decode cX9_strike 69 = .ok (.iload_n 3, 1) := by decide +kernel
theorem dX9_strike_70 : decode cX9_strike 70 = .ok (.iconst 1, 1) := by decide +kernel
theorem dX9_strike_71 : decode cX9_strike 71 = .ok (.iadd, 1) := by decide +kernel
theorem dX9_strike_72 : decode cX9_strike 72 = .ok (.iaload, 1) := by decide +kernel
theorem dX9_strike_73 : decode cX9_strike 73 = .ok (.iastore, 1) := by decide +kernel
theorem dX9_strike_74 : decode cX9_strike 74 = .ok (.iinc 3 1, 3) := by decide +kernel
theorem dX9_strike_77 : decode cX9_strike 77 = .ok (.goto (-34), 3) := by decide +kernel
theorem dX9_strike_80 : decode cX9_strike 80 = .ok (.return_, 1) := by decide +kernel
theorem dX9_pass_0 : decode cX9_pass 0 = .ok (.aload_n 0, 1) := by decide +kernel
theorem dX9_pass_1 : decode cX9_pass 1 = .ok (.iconst 2, 1) := by decide +kernel
theorem dX9_pass_2 : decode cX9_pass 2 = .ok (.invokevirtual 75, 3) := by decide +kernel
theorem dX9_pass_5 : decode cX9_pass 5 = .ok (.istore_n 1, 1) := by decide +kernel
theorem dX9_pass_6 : decode cX9_pass 6 = .ok (.iconst 0, 1) := by decide +kernel
theorem dX9_pass_7 : decode cX9_pass 7 = .ok (.istore_n 2, 1) := by decide +kernel
theorem dX9_pass_8 : decode cX9_pass 8 = .ok (.iload_n 2, 1) := by decide +kernel
theorem dX9_pass_9 : decode cX9_pass 9 = .ok (.aload_n 0, 1) := by decide +kernel
theorem dX9_pass_10 : decode cX9_pass 10 = .ok (.getfield 3, 3) := by decide +kernel
theorem dX9_pass_13 : decode cX9_pass 13 = .ok (.getfield 79, 3) := by decide +kernel
theorem dX9_pass_16 : decode cX9_pass 16 = .ok (.if_icmp .ge 14, 3) := by decide +kernel
theorem dX9_pass_19 : decode cX9_pass 19 = .ok (.aload_n 0, 1) := by decide +kernel
theorem dX9_pass_20 : decode cX9_pass 20 = .ok (.iload_n 2, 1) := by decide +kernel
theorem dX9_pass_21 : decode cX9_pass 21 = .ok (.invokevirtual 82, 3) := by decide +kernel
theorem dX9_pass_24 : decode cX9_pass 24 = .ok (.iinc 2 1, 3) := by decide +kernel
theorem dX9_pass_27 : decode cX9_pass 27 = .ok (.goto (-19), 3) := by decide +kernel
theorem dX9_pass_30 : decode cX9_pass 30 = .ok (.iconst 0, 1) := by decide +kernel
theorem dX9_pass_31 : decode cX9_pass 31 = .ok (.istore_n 2, 1) := by decide +kernel
theorem dX9_pass_32 : decode cX9_pass 32 = .ok (.iload_n 2, 1) := by decide +kernel
theorem dX9_pass_33 : decode cX9_pass 33 = .ok (.aload_n 0, 1) := by decide +kernel
theorem dX9_pass_34 : decode cX9_pass 34 = .ok (.getfield 3, 3) := by decide +kernel
theorem dX9_pass_37 : decode cX9_pass 37 = .ok (.getfield 79, 3) := by decide +kernel
theorem dX9_pass_40 : decode cX9_pass 40 = .ok (.if_icmp .ge 44, 3) := by decide +kernel
theorem dX9_pass_43 : decode cX9_pass 43 = .ok (.aload_n 0, 1) := by decide +kernel
theorem dX9_pass_44 : decode cX9_pass 44 = .ok (.getfield 3, 3) := by decide +kernel
theorem dX9_pass_47 : decode cX9_pass 47 = .ok (.iload_n 2, 1) := by decide +kernel
theorem dX9_pass_48 : decode cX9_pass 48 = .ok (.aload_n 0, 1) := by decide +kernel
theorem dX9_pass_49 : decode cX9_pass 49 = .ok (.getfield 61, 3) := by decide +kernel
theorem dX9_pass_52 : decode cX9_pass 52 = .ok (.invokevirtual 86, 3) := by decide +kernel
theorem dX9_pass_55 : decode cX9_pass 55 = .ok (.ifCond .ne 23, 3) := by decide +kernel
theorem dX9_pass_58 : decode cX9_pass 58 = .ok (.aload_n 0, 1) := by decide +kernel
theorem dX9_pass_59 : decode cX9_pass 59 = .ok (.getfield 19, 3) := by decide +kernel
theorem dX9_pass_62 : decode cX9_pass 62 = .ok (.iload_n 2, 1) := by decide +kernel
theorem dX9_pass_63 : decode cX9_pass 63 = .ok (.iaload, 1) := by decide +kernel
theorem dX9_pass_64 : decode cX9_pass 64 = .ok (.aload_n 0, 1) := by decide +kernel
theorem dX9_pass_65 : decode cX9_pass 65 = .ok (.getfield 15, 3) := by decide +kernel
theorem dX9_pass_68 : decode cX9_pass 68 = .ok (.iload_n 2, 1) := by decide +kernel
theorem dX9_pass_69 : decode cX9_pass 69 = .ok (.iaload, 1) := by decide +kernel
theorem dX9_pass_70 : decode cX9_pass 70 = .ok (.if_icmp .ge 8, 3) := by decide +kernel
theorem dX9_pass_73 : decode cX9_pass 73 = .ok (.aload_n 0, 1) := by decide +kernel
theorem dX9_pass_74 : decode cX9_pass 74 = .ok (.iload_n 2, 1) := by decide +kernel
theorem dX9_pass_75 : decode cX9_pass 75 = .ok (.invokevirtual 90, 3) := by decide +kernel
theorem dX9_pass_78 : decode cX9_pass 78 = .ok (.iinc 2 1, 3) := by decide +kernel
theorem dX9_pass_81 : decode cX9_pass 81 = .ok (.goto (-49), 3) := by decide +kernel
theorem dX9_pass_84 : decode cX9_pass 84 = .ok (.iconst 0, 1) := by decide +kernel
theorem dX9_pass_85 : decode cX9_pass 85 = .ok (.istore_n 2, 1) := by decide +kernel
theorem dX9_pass_86 : decode cX9_pass 86 = .ok (.iload_n 2, 1) := by decide +kernel
theorem dX9_pass_87 : decode cX9_pass 87 = .ok (.aload_n 0, 1) := by decide +kernel
theorem dX9_pass_88 : decode cX9_pass 88 = .ok (.getfield 3, 3) := by decide +kernel
theorem dX9_pass_91 : decode cX9_pass 91 = .ok (.getfield 69, 3) := by decide +kernel
theorem dX9_pass_94 : decode cX9_pass 94 = .ok (.if_icmp .ge 99, 3) := by decide +kernel
theorem dX9_pass_97 : decode cX9_pass 97 = .ok (.aload_n 0, 1) := by decide +kernel
theorem dX9_pass_98 : decode cX9_pass 98 = .ok (.getfield 40, 3) := by decide +kernel
theorem dX9_pass_101 : decode cX9_pass 101 = .ok (.iload_n 2, 1) := by decide +kernel
theorem dX9_pass_102 : decode cX9_pass 102 = .ok (.iaload, 1) := by decide +kernel
theorem dX9_pass_103 : decode cX9_pass 103 = .ok (.ifCond .eq 6, 3) := by decide +kernel
theorem dX9_pass_106 : decode cX9_pass 106 = .ok (.goto 81, 3) := by decide +kernel
theorem dX9_pass_109 : decode cX9_pass 109 = .ok (.aload_n 0, 1) := by decide +kernel
theorem dX9_pass_110 : decode cX9_pass 110 = .ok (.getfield 46, 3) := by decide +kernel
theorem dX9_pass_113 : decode cX9_pass 113 = .ok (.iload_n 2, 1) := by decide +kernel
theorem dX9_pass_114 : decode cX9_pass 114 = .ok (.dup2, 1) := by decide +kernel
theorem dX9_pass_115 : decode cX9_pass 115 = .ok (.iaload, 1) := by decide +kernel
theorem dX9_pass_116 : decode cX9_pass 116 = .ok (.iconst 1, 1) := by decide +kernel
theorem dX9_pass_117 : decode cX9_pass 117 = .ok (.iadd, 1) := by decide +kernel
theorem dX9_pass_118 : decode cX9_pass 118 = .ok (.iastore, 1) := by decide +kernel
theorem dX9_pass_119 : decode cX9_pass 119 = .ok (.aload_n 0, 1) := by decide +kernel
theorem dX9_pass_120 : decode cX9_pass 120 = .ok (.getfield 3, 3) := by decide +kernel
theorem dX9_pass_123 : decode cX9_pass 123 = .ok (.aload_n 0, 1) := by decide +kernel
theorem dX9_pass_124 : decode cX9_pass 124 = .ok (.getfield 43, 3) := by decide +kernel
theorem dX9_pass_127 : decode cX9_pass 127 = .ok (.iload_n 2, 1) := by decide +kernel
theorem dX9_pass_128 : decode cX9_pass 128 = .ok (.iaload, 1) := by decide +kernel
theorem dX9_pass_129 : decode cX9_pass 129 = .ok (.aload_n 0, 1) := by decide +kernel
theorem dX9_pass_130 : decode cX9_pass 130 = .ok (.getfield 3, 3) := by decide +kernel
theorem dX9_pass_133 : decode cX9_pass 133 = .ok (.getfield 72, 3) := by decide +kernel
theorem dX9_pass_136 : decode cX9_pass 136 = .ok (.iload_n 2, 1) := by decide +kernel
theorem dX9_pass_137 : decode cX9_pass 137 = .ok (.iaload, 1) := by decide +kernel
theorem dX9_pass_138 : decode cX9_pass 138 = .ok (.aload_n 0, 1) := by decide +kernel
theorem dX9_pass_139 : decode cX9_pass 139 = .ok (.getfield 3, 3) := by decide +kernel
theorem dX9_pass_142 : decode cX9_pass 142 = .ok (.getfield 93, 3) := by decide +kernel
theorem dX9_pass_145 : decode cX9_pass 145 = .ok (.iload_n 2, 1) := by decide +kernel
theorem dX9_pass_146 : decode cX9_pass 146 = .ok (.iaload, 1) := by decide +kernel
theorem dX9_pass_147 : decode cX9_pass 147 = .ok (.invokevirtual 96, 3) := by decide +kernel
theorem dX9_pass_150 : decode cX9_pass 150 = .ok (.iconst (-1), 1) := by decide +kernel
theorem dX9_pass_151 : decode cX9_pass 151 = .ok (.if_icmp .eq 24, 3) := by decide +kernel
theorem dX9_pass_154 : decode cX9_pass 154 = .ok (.aload_n 0, 1) := by decide +kernel
theorem dX9_pass_155 : decode cX9_pass 155 = .ok (.getfield 46, 3) := by decide +kernel
theorem dX9_pass_158 : decode cX9_pass 158 = .ok (.iload_n 2, 1) := by decide +kernel
theorem dX9_pass_159 : decode cX9_pass 159 = .ok (.iaload, 1) := by decide +kernel
theorem dX9_pass_160 : decode cX9_pass 160 = .ok (.aload_n 0, 1) := by decide +kernel
theorem dX9_pass_161 : decode cX9_pass 161 = .ok (.getfield 3, 3) := by decide +kernel
theorem dX9_pass_164 : decode cX9_pass 164 = .ok (.getfield 100, 3) := by decide +kernel
theorem dX9_pass_167 : decode cX9_pass 167 = .ok (.iload_n 2, 1) := by decide +kernel
theorem dX9_pass_168 : decode cX9_pass 168 = .ok (.iaload, 1) := by decide +kernel
theorem dX9_pass_169 : decode cX9_pass 169 = .ok (.if_icmp .ge 6, 3) := by decide +kernel
theorem dX9_pass_172 : decode cX9_pass 172 = .ok (.goto 15, 3) := by decide +kernel
theorem dX9_pass_175 : decode cX9_pass 175 = .ok (.aload_n 0, 1) := by decide +kernel
theorem dX9_pass_176 : decode cX9_pass 176 = .ok (.iload_n 2, 1) := by decide +kernel
theorem dX9_pass_177 : decode cX9_pass 177 = .ok (.invokevirtual 103, 3) := by decide +kernel
theorem dX9_pass_180 : decode cX9_pass 180 = .ok (.aload_n 0, 1) := by decide +kernel
theorem dX9_pass_181 : decode cX9_pass 181 = .ok (.getfield 40, 3) := by decide +kernel
theorem dX9_pass_184 : decode cX9_pass 184 = .ok (.iload_n 2, 1) := by decide +kernel
theorem dX9_pass_185 : decode cX9_pass 185 = .ok (.iconst 3, 1) := by decide +kernel
theorem dX9_pass_186 : decode cX9_pass 186 = .ok (.iastore, 1) := by decide +kernel
theorem dX9_pass_187 : decode cX9_pass 187 = .ok (.iinc 2 1, 3) := by decide +kernel
theorem dX9_pass_190 : decode cX9_pass 190 = .ok (.goto (-104), 3) := by decide +kernel
theorem dX9_pass_193 : decode cX9_pass 193 = .ok (.aload_n 0, 1) := by decide +kernel
theorem dX9_pass_194 : decode cX9_pass 194 = .ok (.dup, 1) := by decide +kernel
theorem dX9_pass_195 : decode cX9_pass 195 = .ok (.getfield 61, 3) := by decide +kernel
theorem dX9_pass_198 : decode cX9_pass 198 = .ok (.iconst 1, 1) := by decide +kernel
theorem dX9_pass_199 : decode cX9_pass 199 = .ok (.iadd, 1) := by decide +kernel
theorem dX9_pass_200 : decode cX9_pass 200 = .ok (.putfield 61, 3) := by decide +kernel
theorem dX9_pass_203 : decode cX9_pass 203 = .ok (.aload_n 0, 1) := by decide +kernel
theorem dX9_pass_204 : decode cX9_pass 204 = .ok (.iconst 2, 1) := by decide +kernel
theorem dX9_pass_205 : decode cX9_pass 205 = .ok (.invokevirtual 75, 3) := by decide +kernel
theorem dX9_pass_208 : decode cX9_pass 208 = .ok (.iload_n 1, 1) := by decide +kernel
theorem dX9_pass_209 : decode cX9_pass 209 = .ok (.isub, 1) := by decide +kernel
theorem dX9_pass_210 : decode cX9_pass 210 = .ok (.ireturn, 1) := by decide +kernel
theorem dX9_roll_0 : decode cX9_roll 0 = .ok (.iconst 3, 1) := by decide +kernel
theorem dX9_roll_1 : decode cX9_roll 1 = .ok (.iload_n 1, 1) := by decide +kernel
theorem dX9_roll_2 : decode cX9_roll 2 = .ok (.imul, 1) := by decide +kernel
theorem dX9_roll_3 : decode cX9_roll 3 = .ok (.istore_n 2, 1) := by decide +kernel
theorem dX9_roll_4 : decode cX9_roll 4 = .ok (.iload_n 2, 1) := by decide +kernel
theorem dX9_roll_5 : decode cX9_roll 5 = .ok (.aload_n 0, 1) := by decide +kernel
theorem dX9_roll_6 : decode cX9_roll 6 = .ok (.getfield 19, 3) := by decide +kernel
theorem dX9_roll_9 : decode cX9_roll 9 = .ok (.iload_n 1, 1) := by decide +kernel
theorem dX9_roll_10 : decode cX9_roll 10 = .ok (.iaload, 1) := by decide +kernel
theorem dX9_roll_11 : decode cX9_roll 11 = .ok (.iadd, 1) := by decide +kernel
theorem dX9_roll_12 : decode cX9_roll 12 = .ok (.istore_n 3, 1) := by decide +kernel
theorem dX9_roll_13 : decode cX9_roll 13 = .ok (.iload_n 2, 1) := by decide +kernel
theorem dX9_roll_14 : decode cX9_roll 14 = .ok (.istore 4, 2) := by decide +kernel
theorem dX9_roll_16 : decode cX9_roll 16 = .ok (.iload 4, 2) := by decide +kernel
theorem dX9_roll_18 : decode cX9_roll 18 = .ok (.iload_n 3, 1) := by decide +kernel
theorem dX9_roll_19 : decode cX9_roll 19 = .ok (.if_icmp .ge 142, 3) := by decide +kernel
theorem dX9_roll_22 : decode cX9_roll 22 = .ok (.aload_n 0, 1) := by decide +kernel
theorem dX9_roll_23 : decode cX9_roll 23 = .ok (.getfield 25, 3) := by decide +kernel
theorem dX9_roll_26 : decode cX9_roll 26 = .ok (.iload 4, 2) := by decide +kernel
theorem dX9_roll_28 : decode cX9_roll 28 = .ok (.dup2, 1) := by decide +kernel
theorem dX9_roll_29 : decode cX9_roll 29 = .ok (.iaload, 1) := by decide +kernel
theorem dX9_roll_30 : decode cX9_roll 30 = .ok (.iconst 1, 1) := by decide +kernel
theorem dX9_roll_31 : decode cX9_roll 31 = .ok (.isub, 1) := by decide +kernel
theorem dX9_roll_32 : decode cX9_roll 32 = .ok (.iastore, 1) := by decide +kernel
theorem dX9_roll_33 : decode cX9_roll 33 = .ok (.aload_n 0, 1) := by decide +kernel
theorem dX9_roll_34 : decode cX9_roll 34 = .ok (.getfield 25, 3) := by decide +kernel
theorem dX9_roll_37 : decode cX9_roll 37 = .ok (.iload 4, 2) := by decide +kernel
theorem dX9_roll_39 : decode cX9_roll 39 = .ok (.iaload, 1) := by decide +kernel
theorem dX9_roll_40 : decode cX9_roll 40 = .ok (.ifCond .ne 27, 3) := by decide +kernel
theorem dX9_roll_43 : decode cX9_roll 43 = .ok (.aload_n 0, 1) := by decide +kernel
theorem dX9_roll_44 : decode cX9_roll 44 = .ok (.getfield 22, 3) := by decide +kernel
theorem dX9_roll_47 : decode cX9_roll 47 = .ok (.iload 4, 2) := by decide +kernel
theorem dX9_roll_49 : decode cX9_roll 49 = .ok (.iaload, 1) := by decide +kernel
theorem dX9_roll_50 : decode cX9_roll 50 = .ok (.iconst (-1), 1) := by decide +kernel
theorem dX9_roll_51 : decode cX9_roll 51 = .ok (.if_icmp .ne 16, 3) := by decide +kernel
theorem dX9_roll_54 : decode cX9_roll 54 = .ok (.aload_n 0, 1) := by decide +kernel
theorem dX9_roll_55 : decode cX9_roll 55 = .ok (.getfield 19, 3) := by decide +kernel
theorem dX9_roll_58 : decode cX9_roll 58 = .ok (.iload_n 1, 1) := by decide +kernel
theorem dX9_roll_59 : decode cX9_roll 59 = .ok (.dup2, 1) := by decide +kernel
theorem dX9_roll_60 : decode cX9_roll 60 = .ok (.iaload, 1) := by decide +kernel
theorem dX9_roll_61 : decode cX9_roll 61 = .ok (.iconst 1, 1) := by decide +kernel
theorem dX9_roll_62 : decode cX9_roll 62 = .ok (.isub, 1) := by decide +kernel
theorem dX9_roll_63 : decode cX9_roll 63 = .ok (.iastore, 1) := by decide +kernel
theorem dX9_roll_64 : decode cX9_roll 64 = .ok (.goto 91, 3) := by decide +kernel
theorem dX9_roll_67 : decode cX9_roll 67 = .ok (.aload_n 0, 1) := by decide +kernel
theorem dX9_roll_68 : decode cX9_roll 68 = .ok (.getfield 25, 3) := by decide +kernel
theorem dX9_roll_71 : decode cX9_roll 71 = .ok (.iload 4, 2) := by decide +kernel
theorem dX9_roll_73 : decode cX9_roll 73 = .ok (.iaload, 1) := by decide +kernel
theorem dX9_roll_74 : decode cX9_roll 74 = .ok (.ifCond .ne 52, 3) := by decide +kernel
theorem dX9_roll_77 : decode cX9_roll 77 = .ok (.aload_n 0, 1) := by decide +kernel
theorem dX9_roll_78 : decode cX9_roll 78 = .ok (.aload_n 0, 1) := by decide +kernel
theorem dX9_roll_79 : decode cX9_roll 79 = .ok (.getfield 22, 3) := by decide +kernel
theorem dX9_roll_82 : decode cX9_roll 82 = .ok (.iload 4, 2) := by decide +kernel
theorem dX9_roll_84 : decode cX9_roll 84 = .ok (.iaload, 1) := by decide +kernel
theorem dX9_roll_85 : decode cX9_roll 85 = .ok (.aload_n 0, 1) := by decide +kernel
theorem dX9_roll_86 : decode cX9_roll 86 = .ok (.getfield 3, 3) := by decide +kernel
theorem dX9_roll_89 : decode cX9_roll 89 = .ok (.getfield 106, 3) := by decide +kernel
theorem dX9_roll_92 : decode cX9_roll 92 = .ok (.iload_n 1, 1) := by decide +kernel
theorem dX9_roll_93 : decode cX9_roll 93 = .ok (.iaload, 1) := by decide +kernel
theorem dX9_roll_94 : decode cX9_roll 94 = .ok (.invokevirtual 109, 3) := by decide +kernel
theorem dX9_roll_97 : decode cX9_roll 97 = .ok (.aload_n 0, 1) := by decide +kernel
theorem dX9_roll_98 : decode cX9_roll 98 = .ok (.getfield 22, 3) := by decide +kernel
theorem dX9_roll_101 : decode cX9_roll 101 = .ok (.iload 4, 2) := by decide +kernel
theorem dX9_roll_103 : decode cX9_roll 103 = .ok (.iconst (-1), 1) := by decide +kernel
theorem dX9_roll_104 : decode cX9_roll 104 = .ok (.iastore, 1) := by decide +kernel
theorem dX9_roll_105 : decode cX9_roll 105 = .ok (.aload_n 0, 1) := by decide +kernel
theorem dX9_roll_106 : decode cX9_roll 106 = .ok (.getfield 25, 3) := by decide +kernel
theorem dX9_roll_109 : decode cX9_roll 109 = .ok (.iload 4, 2) := by decide +kernel
theorem dX9_roll_111 : decode cX9_roll 111 = .ok (.aload_n 0, 1) := by decide +kernel
theorem dX9_roll_112 : decode cX9_roll 112 = .ok (.getfield 3, 3) := by decide +kernel
theorem dX9_roll_115 : decode cX9_roll 115 = .ok (.iload_n 1, 1) := by decide +kernel
theorem dX9_roll_116 : decode cX9_roll 116 = .ok (.invokevirtual 113, 3) := by decide +kernel
theorem dX9_roll_119 : decode cX9_roll 119 = .ok (.bipush 9, 2) := by decide +kernel
theorem dX9_roll_121 : decode cX9_roll 121 = .ok (.iadd, 1) := by decide +kernel
theorem dX9_roll_122 : decode cX9_roll 122 = .ok (.bipush 10, 2) := by decide +kernel
theorem dX9_roll_124 : decode cX9_roll 124 = .ok (.idiv, 1) := by decide +kernel
theorem dX9_roll_125 : decode cX9_roll 125 = .ok (.iastore, 1) := by decide +kernel
theorem dX9_roll_126 : decode cX9_roll 126 = .ok (.aload_n 0, 1) := by decide +kernel
theorem dX9_roll_127 : decode cX9_roll 127 = .ok (.getfield 22, 3) := by decide +kernel
theorem dX9_roll_130 : decode cX9_roll 130 = .ok (.iload_n 2, 1) := by decide +kernel
theorem dX9_roll_131 : decode cX9_roll 131 = .ok (.aload_n 0, 1) := by decide +kernel
theorem dX9_roll_132 : decode cX9_roll 132 = .ok (.getfield 22, 3) := by decide +kernel
theorem dX9_roll_135 : decode cX9_roll 135 = .ok (.iload 4, 2) := by decide +kernel
theorem dX9_roll_137 : decode cX9_roll 137 = .ok (.iaload, 1) := by decide +kernel
theorem dX9_roll_138 : decode cX9_roll 138 = .ok (.iastore, 1) := by decide +kernel
theorem dX9_roll_139 : decode cX9_roll 139 = .ok (.aload_n 0, 1) := by decide +kernel
theorem dX9_roll_140 : decode cX9_roll 140 = .ok (.getfield 25, 3) := by decide +kernel
theorem dX9_roll_143 : decode cX9_roll 143 = .ok (.iload_n 2, 1) := by decide +kernel
theorem dX9_roll_144 : decode cX9_roll 144 = .ok (.aload_n 0, 1) := by decide +kernel
theorem dX9_roll_145 : decode cX9_roll 145 = .ok (.getfield 25, 3) := by decide +kernel
theorem dX9_roll_148 : decode cX9_roll 148 = .ok (.iload 4, 2) := by decide +kernel
theorem dX9_roll_150 : decode cX9_roll 150 = .ok (.iaload, 1) := by decide +kernel
theorem dX9_roll_151 : decode cX9_roll 151 = .ok (.iastore, 1) := by decide +kernel
theorem dX9_roll_152 : decode cX9_roll 152 = .ok (.iinc 2 1, 3) := by decide +kernel
theorem dX9_roll_155 : decode cX9_roll 155 = .ok (.iinc 4 1, 3) := by decide +kernel
theorem dX9_roll_158 : decode cX9_roll 158 = .ok (.goto (-142), 3) := by decide +kernel
theorem dX9_roll_161 : decode cX9_roll 161 = .ok (.return_, 1) := by decide +kernel
theorem dX9_begin_0 : decode cX9_begin 0 = .ok (.bipush 12, 2) := by decide +kernel
theorem dX9_begin_2 : decode cX9_begin 2 = .ok (.aload_n 0, 1) := by decide +kernel
theorem dX9_begin_3 : decode cX9_begin 3 = .ok (.getfield 3, 3) := by decide +kernel
theorem dX9_begin_6 : decode cX9_begin 6 = .ok (.getfield 116, 3) := by decide +kernel
theorem dX9_begin_9 : decode cX9_begin 9 = .ok (.iload_n 1, 1) := by decide +kernel
theorem dX9_begin_10 : decode cX9_begin 10 = .ok (.iaload, 1) := by decide +kernel
theorem dX9_begin_11 : decode cX9_begin 11 = .ok (.imul, 1) := by decide +kernel
theorem dX9_begin_12 : decode cX9_begin 12 = .ok (.istore_n 2, 1) := by decide +kernel
theorem dX9_begin_13 : decode cX9_begin 13 = .ok (.iload_n 2, 1) := by decide +kernel
theorem dX9_begin_14 : decode cX9_begin 14 = .ok (.istore_n 3, 1) := by decide +kernel
theorem dX9_begin_15 : decode cX9_begin 15 = .ok (.iload_n 3, 1) := by decide +kernel
theorem dX9_begin_16 : decode cX9_begin 16 = .ok (.iload_n 2, 1) := by decide +kernel
theorem dX9_begin_17 : decode cX9_begin 17 = .ok (.aload_n 0, 1) := by decide +kernel
theorem dX9_begin_18 : decode cX9_begin 18 = .ok (.getfield 34, 3) := by decide +kernel
theorem dX9_begin_21 : decode cX9_begin 21 = .ok (.aload_n 0, 1) := by decide +kernel
theorem dX9_begin_22 : decode cX9_begin 22 = .ok (.getfield 3, 3) := by decide +kernel
theorem dX9_begin_25 : decode cX9_begin 25 = .ok (.getfield 116, 3) := by decide +kernel
theorem dX9_begin_28 : decode cX9_begin 28 = .ok (.iload_n 1, 1) := by decide +kernel
theorem dX9_begin_29 : decode cX9_begin 29 = .ok (.iaload, 1) := by decide +kernel
theorem dX9_begin_30 : decode cX9_begin 30 = .ok (.iaload, 1) := by decide +kernel
theorem dX9_begin_31 : decode cX9_begin 31 = .ok (.iadd, 1) := by decide +kernel
theorem dX9_begin_32 : decode cX9_begin 32 = .ok (.if_icmp .ge 202, 3) := by decide +kernel
theorem dX9_begin_35 : decode cX9_begin 35 = .ok (.aload_n 0, 1) := by decide +kernel
theorem dX9_begin_36 : decode cX9_begin 36 = .ok (.getfield 37, 3) := by decide +kernel
theorem dX9_begin_39 : decode cX9_begin 39 = .ok (.iload_n 3, 1) := by decide +kernel
theorem dX9_begin_40 : decode cX9_begin 40 = .ok (.iaload, 1) := by decide +kernel
theorem dX9_begin_41 : decode cX9_begin 41 = .ok (.istore 4, 2) := by decide +kernel
theorem dX9_begin_43 : decode cX9_begin 43 = .ok (.aload_n 0, 1) := by decide +kernel
theorem dX9_begin_44 : decode cX9_begin 44 = .ok (.getfield 3, 3) := by decide +kernel
theorem dX9_begin_47 : decode cX9_begin 47 = .ok (.aload_n 0, 1) := by decide +kernel
theorem dX9_begin_48 : decode cX9_begin 48 = .ok (.getfield 3, 3) := by decide +kernel
theorem dX9_begin_51 : decode cX9_begin 51 = .ok (.getfield 116, 3) := by decide +kernel
theorem dX9_begin_54 : decode cX9_begin 54 = .ok (.iload_n 1, 1) := by decide +kernel
theorem dX9_begin_55 : decode cX9_begin 55 = .ok (.iaload, 1) := by decide +kernel
theorem dX9_begin_56 : decode cX9_begin 56 = .ok (.aload_n 0, 1) := by decide +kernel
theorem dX9_begin_57 : decode cX9_begin 57 = .ok (.getfield 3, 3) := by decide +kernel
theorem dX9_begin_60 : decode cX9_begin 60 = .ok (.getfield 72, 3) := by decide +kernel
theorem dX9_begin_63 : decode cX9_begin 63 = .ok (.iload 4, 2) := by decide +kernel
theorem dX9_begin_65 : decode cX9_begin 65 = .ok (.iaload, 1) := by decide +kernel
theorem dX9_begin_66 : decode cX9_begin 66 = .ok (.aload_n 0, 1) := by decide +kernel
theorem dX9_begin_67 : decode cX9_begin 67 = .ok (.getfield 3, 3) := by decide +kernel
theorem dX9_begin_70 : decode cX9_begin 70 = .ok (.getfield 93, 3) := by decide +kernel
theorem dX9_begin_73 : decode cX9_begin 73 = .ok (.iload 4, 2) := by decide +kernel
theorem dX9_begin_75 : decode cX9_begin 75 = .ok (.iaload, 1) := by decide +kernel
theorem dX9_begin_76 : decode cX9_begin 76 = .ok (.invokevirtual 119, 3) := by decide +kernel
theorem dX9_begin_79 : decode cX9_begin 79 = .ok (.iload_n 1, 1) := by decide +kernel
theorem dX9_begin_80 : decode cX9_begin 80 = .ok (.if_icmp .eq 6, 3) := by decide +kernel
theorem dX9_begin_83 : decode cX9_begin 83 = .ok (.goto 145, 3) := by decide +kernel
theorem dX9_begin_86 : decode cX9_begin 86 = .ok (.aload_n 0, 1) := by decide +kernel
theorem dX9_begin_87 : decode cX9_begin 87 = .ok (.iload 4, 2) := by decide +kernel
theorem dX9_begin_89 : decode cX9_begin 89 = .ok (.invokevirtual 103, 3) := by decide +kernel
theorem dX9_begin_92 : decode cX9_begin 92 = .ok (.aload_n 0, 1) := by decide +kernel
theorem dX9_begin_93 : decode cX9_begin 93 = .ok (.getfield 40, 3) := by decide +kernel
theorem dX9_begin_96 : decode cX9_begin 96 = .ok (.iload 4, 2) := by decide +kernel
theorem dX9_begin_98 : decode cX9_begin 98 = .ok (.iconst 1, 1) := by decide +kernel
theorem dX9_begin_99 : decode cX9_begin 99 = .ok (.iastore, 1) := by decide +kernel
theorem dX9_begin_100 : decode cX9_begin 100 = .ok (.aload_n 0, 1) := by decide +kernel
theorem dX9_begin_101 : decode cX9_begin 101 = .ok (.getfield 43, 3) := by decide +kernel
theorem dX9_begin_104 : decode cX9_begin 104 = .ok (.iload 4, 2) := by decide +kernel
theorem dX9_begin_106 : decode cX9_begin 106 = .ok (.iload_n 1, 1) := by decide +kernel
theorem dX9_begin_107 : decode cX9_begin 107 = .ok (.iastore, 1) := by decide +kernel
theorem dX9_begin_108 : decode cX9_begin 108 = .ok (.aload_n 0, 1) := by decide +kernel
theorem dX9_begin_109 : decode cX9_begin 109 = .ok (.getfield 49, 3) := by decide +kernel
theorem dX9_begin_112 : decode cX9_begin 112 = .ok (.iload 4, 2) := by decide +kernel
theorem dX9_begin_114 : decode cX9_begin 114 = .ok (.dup2, 1) := by decide +kernel
theorem dX9_begin_115 : decode cX9_begin 115 = .ok (.iaload, 1) := by decide +kernel
theorem dX9_begin_116 : decode cX9_begin 116 = .ok (.iconst 1, 1) := by decide +kernel
theorem dX9_begin_117 : decode cX9_begin 117 = .ok (.iadd, 1) := by decide +kernel
theorem dX9_begin_118 : decode cX9_begin 118 = .ok (.iastore, 1) := by decide +kernel
theorem dX9_begin_119 : decode cX9_begin 119 = .ok (.aload_n 0, 1) := by decide +kernel
theorem dX9_begin_120 : decode cX9_begin 120 = .ok (.getfield 22, 3) := by decide +kernel
theorem dX9_begin_123 : decode cX9_begin 123 = .ok (.iconst 3, 1) := by decide +kernel
theorem dX9_begin_124 : decode cX9_begin 124 = .ok (.iload_n 1, 1) := by decide +kernel
theorem dX9_begin_125 : decode cX9_begin 125 = .ok (.imul, 1) := by decide +kernel
theorem dX9_begin_126 : decode cX9_begin 126 = .ok (.aload_n 0, 1) := by decide +kernel
theorem dX9_begin_127 : decode cX9_begin 127 = .ok (.getfield 19, 3) := by decide +kernel
theorem dX9_begin_130 : decode cX9_begin 130 = .ok (.iload_n 1, 1) := by decide +kernel
theorem dX9_begin_131 : decode cX9_begin 131 = .ok (.iaload, 1) := by decide +kernel
theorem dX9_begin_132 : decode cX9_begin 132 = .ok (.iadd, 1) := by decide +kernel
theorem dX9_begin_133 : decode cX9_begin 133 = .ok (.iload 4, 2) := by decide +kernel
theorem dX9_begin_135 : decode cX9_begin 135 = .ok (.iastore, 1) := by decide +kernel
theorem dX9_begin_136 : decode cX9_begin 136 = .ok (.aload_n 0, 1) := by decide +kernel
theorem dX9_begin_137 : decode cX9_begin 137 = .ok (.getfield 25, 3) := by decide +kernel
theorem dX9_begin_140 : decode cX9_begin 140 = .ok (.iconst 3, 1) := by decide +kernel
theorem dX9_begin_141 : decode cX9_begin 141 = .ok (.iload_n 1, 1) := by decide +kernel
theorem dX9_begin_142 : decode cX9_begin 142 = .ok (.imul, 1) := by decide +kernel
theorem dX9_begin_143 : decode cX9_begin 143 = .ok (.aload_n 0, 1) := by decide +kernel
theorem dX9_begin_144 : decode cX9_begin 144 = .ok (.getfield 19, 3) := by decide +kernel
theorem dX9_begin_147 : decode cX9_begin 147 = .ok (.iload_n 1, 1) := by decide +kernel
theorem dX9_begin_148 : decode cX9_begin 148 = .ok (.iaload, 1) := by decide +kernel
theorem dX9_begin_149 : decode cX9_begin 149 = .ok (.iadd, 1) := by decide +kernel
theorem dX9_begin_150 : decode cX9_begin 150 = .ok (.aload_n 0, 1) := by decide +kernel
theorem dX9_begin_151 : decode cX9_begin 151 = .ok (.getfield 3, 3) := by decide +kernel
theorem dX9_begin_154 : decode cX9_begin 154 = .ok (.iload_n 1, 1) := by decide +kernel
theorem dX9_begin_155 : decode cX9_begin 155 = .ok (.aload_n 0, 1) := by decide +kernel
theorem dX9_begin_156 : decode cX9_begin 156 = .ok (.getfield 3, 3) := by decide +kernel
theorem dX9_begin_159 : decode cX9_begin 159 = .ok (.getfield 93, 3) := by decide +kernel
theorem dX9_begin_162 : decode cX9_begin 162 = .ok (.iload 4, 2) := by decide +kernel
theorem dX9_begin_164 : decode cX9_begin 164 = .ok (.iaload, 1) := by decide +kernel
theorem dX9_begin_165 : decode cX9_begin 165 = .ok (.invokevirtual 122, 3) := by decide +kernel
theorem dX9_begin_168 : decode cX9_begin 168 = .ok (.invokestatic 126, 3) := by decide +kernel
theorem dX9_begin_171 : decode cX9_begin 171 = .ok (.iastore, 1) := by decide +kernel
theorem dX9_begin_172 : decode cX9_begin 172 = .ok (.aload_n 0, 1) := by decide +kernel
theorem dX9_begin_173 : decode cX9_begin 173 = .ok (.getfield 19, 3) := by decide +kernel
theorem dX9_begin_176 : decode cX9_begin 176 = .ok (.iload_n 1, 1) := by decide +kernel
theorem dX9_begin_177 : decode cX9_begin 177 = .ok (.dup2, 1) := by decide +kernel
theorem dX9_begin_178 : decode cX9_begin 178 = .ok (.iaload, 1) := by decide +kernel
theorem dX9_begin_179 : decode cX9_begin 179 = .ok (.iconst 1, 1) := by decide +kernel
theorem dX9_begin_180 : decode cX9_begin 180 = .ok (.iadd, 1) := by decide +kernel
theorem dX9_begin_181 : decode cX9_begin 181 = .ok (.iastore, 1) := by decide +kernel
theorem dX9_begin_182 : decode cX9_begin 182 = .ok (.aload_n 0, 1) := by decide +kernel
theorem dX9_begin_183 : decode cX9_begin 183 = .ok (.getfield 28, 3) := by decide +kernel
theorem dX9_begin_186 : decode cX9_begin 186 = .ok (.iload_n 1, 1) := by decide +kernel
theorem dX9_begin_187 : decode cX9_begin 187 = .ok (.dup2, 1) := by decide +kernel
theorem dX9_begin_188 : decode cX9_begin 188 = .ok (.iaload, 1) := by decide +kernel
theorem dX9_begin_189 : decode cX9_begin 189 = .ok (.iconst 1, 1) := by decide +kernel
theorem dX9_begin_190 : decode cX9_begin 190 = .ok (.iadd, 1) := by decide +kernel
theorem dX9_begin_191 : decode cX9_begin 191 = .ok (.iastore, 1) := by decide +kernel
theorem dX9_begin_192 : decode cX9_begin 192 = .ok (.aload_n 0, 1) := by decide +kernel
theorem dX9_begin_193 : decode cX9_begin 193 = .ok (.getfield 31, 3) := by decide +kernel
theorem dX9_begin_196 : decode cX9_begin 196 = .ok (.iload_n 1, 1) := by decide +kernel
theorem dX9_begin_197 : decode cX9_begin 197 = .ok (.dup2, 1) := by decide +kernel
theorem dX9_begin_198 : decode cX9_begin 198 = .ok (.iaload, 1) := by decide +kernel
theorem dX9_begin_199 : decode cX9_begin 199 = .ok (.aload_n 0, 1) := by decide +kernel
theorem dX9_begin_200 : decode cX9_begin 200 = .ok (.getfield 3, 3) := by decide +kernel
theorem dX9_begin_203 : decode cX9_begin 203 = .ok (.iload_n 1, 1) := by decide +kernel
theorem dX9_begin_204 : decode cX9_begin 204 = .ok (.aload_n 0, 1) := by decide +kernel
theorem dX9_begin_205 : decode cX9_begin 205 = .ok (.getfield 3, 3) := by decide +kernel
theorem dX9_begin_208 : decode cX9_begin 208 = .ok (.getfield 93, 3) := by decide +kernel
theorem dX9_begin_211 : decode cX9_begin 211 = .ok (.iload 4, 2) := by decide +kernel
theorem dX9_begin_213 : decode cX9_begin 213 = .ok (.iaload, 1) := by decide +kernel
theorem dX9_begin_214 : decode cX9_begin 214 = .ok (.invokevirtual 122, 3) := by decide +kernel
theorem dX9_begin_217 : decode cX9_begin 217 = .ok (.ifCond .ge 7, 3) := by decide +kernel
theorem dX9_begin_220 : decode cX9_begin 220 = .ok (.iconst 1, 1) := by decide +kernel
theorem dX9_begin_221 : decode cX9_begin 221 = .ok (.goto 4, 3) := by decide +kernel
theorem dX9_begin_224 : decode cX9_begin 224 = .ok (.iconst 0, 1) := by decide +kernel
theorem dX9_begin_225 : decode cX9_begin 225 = .ok (.iadd, 1) := by decide +kernel
theorem dX9_begin_226 : decode cX9_begin 226 = .ok (.iastore, 1) := by decide +kernel
theorem dX9_begin_227 : decode cX9_begin 227 = .ok (.return_, 1) := by decide +kernel
theorem dX9_begin_228 : decode cX9_begin 228 = .ok (.iinc 3 1, 3) := by decide +kernel
theorem dX9_begin_231 : decode cX9_begin 231 = .ok (.goto (-216), 3) := by decide +kernel
theorem dX9_begin_234 : decode cX9_begin 234 = .ok (.return_, 1) := by decide +kernel
theorem dX9_leftOf_0 : decode cX9_leftOf 0 = .ok (.iconst 0, 1) := by decide +kernel
theorem dX9_leftOf_1 : decode cX9_leftOf 1 = .ok (.istore_n 2, 1) := by decide +kernel
theorem dX9_leftOf_2 : decode cX9_leftOf 2 = .ok (.iload_n 2, 1) := by decide +kernel
theorem dX9_leftOf_3 : decode cX9_leftOf 3 = .ok (.bipush 36, 2) := by decide +kernel
theorem dX9_leftOf_5 : decode cX9_leftOf 5 = .ok (.if_icmp .ge 40, 3) := by decide +kernel
theorem dX9_leftOf_8 : decode cX9_leftOf 8 = .ok (.iload_n 2, 1) := by decide +kernel
theorem dX9_leftOf_9 : decode cX9_leftOf 9 = .ok (.iconst 3, 1) := by decide +kernel
theorem dX9_leftOf_10 : decode cX9_leftOf 10 = .ok (.irem, 1) := by decide +kernel
theorem dX9_leftOf_11 : decode cX9_leftOf 11 = .ok (.aload_n 0, 1) := by decide +kernel
theorem dX9_leftOf_12 : decode cX9_leftOf 12 = .ok (.getfield 19, 3) := by decide +kernel
theorem dX9_leftOf_15 : decode cX9_leftOf 15 = .ok (.iload_n 2, 1) := by decide +kernel
theorem dX9_leftOf_16 : decode cX9_leftOf 16 = .ok (.iconst 3, 1) := by decide +kernel
theorem dX9_leftOf_17 : decode cX9_leftOf 17 = .ok (.idiv, 1) := by decide +kernel
theorem dX9_leftOf_18 : decode cX9_leftOf 18 = .ok (.iaload, 1) := by decide +kernel
theorem dX9_leftOf_19 : decode cX9_leftOf 19 = .ok (.if_icmp .ge 20, 3) := by decide +kernel
theorem dX9_leftOf_22 : decode cX9_leftOf 22 = .ok (.aload_n 0, 1) := by decide +kernel
theorem dX9_leftOf_23 : decode cX9_leftOf 23 = .ok (.getfield 22, 3) := by decide +kernel
theorem dX9_leftOf_26 : decode cX9_leftOf 26 = .ok (.iload_n 2, 1) := by decide +kernel
theorem dX9_leftOf_27 : decode cX9_leftOf 27 = .ok (.iaload, 1) := by decide +kernel
theorem dX9_leftOf_28 : decode cX9_leftOf 28 = .ok (.iload_n 1, 1) := by decide +kernel
theorem dX9_leftOf_29 : decode cX9_leftOf 29 = .ok (.if_icmp .ne 10, 3) := by decide +kernel
theorem dX9_leftOf_32 : decode cX9_leftOf 32 = .ok (.aload_n 0, 1) := by decide +kernel
theorem dX9_leftOf_33 : decode cX9_leftOf 33 = .ok (.getfield 25, 3) := by decide +kernel
theorem dX9_leftOf_36 : decode cX9_leftOf 36 = .ok (.iload_n 2, 1) := by decide +kernel
theorem dX9_leftOf_37 : decode cX9_leftOf 37 = .ok (.iaload, 1) := by decide +kernel
theorem dX9_leftOf_38 : decode cX9_leftOf 38 = .ok (.ireturn, 1) := by decide +kernel
theorem dX9_leftOf_39 : decode cX9_leftOf 39 = .ok (.iinc 2 1, 3) := by decide +kernel
theorem dX9_leftOf_42 : decode cX9_leftOf 42 = .ok (.goto (-40), 3) := by decide +kernel
theorem dX9_leftOf_45 : decode cX9_leftOf 45 = .ok (.iconst 0, 1) := by decide +kernel
theorem dX9_leftOf_46 : decode cX9_leftOf 46 = .ok (.ireturn, 1) := by decide +kernel
theorem dX9_riding_0 : decode cX9_riding 0 = .ok (.iconst 0, 1) := by decide +kernel
theorem dX9_riding_1 : decode cX9_riding 1 = .ok (.istore_n 2, 1) := by decide +kernel
theorem dX9_riding_2 : decode cX9_riding 2 = .ok (.iconst 3, 1) := by decide +kernel
theorem dX9_riding_3 : decode cX9_riding 3 = .ok (.iload_n 1, 1) := by decide +kernel
theorem dX9_riding_4 : decode cX9_riding 4 = .ok (.imul, 1) := by decide +kernel
theorem dX9_riding_5 : decode cX9_riding 5 = .ok (.istore_n 3, 1) := by decide +kernel
theorem dX9_riding_6 : decode cX9_riding 6 = .ok (.iload_n 3, 1) := by decide +kernel
theorem dX9_riding_7 : decode cX9_riding 7 = .ok (.iconst 3, 1) := by decide +kernel
theorem dX9_riding_8 : decode cX9_riding 8 = .ok (.iload_n 1, 1) := by decide +kernel
theorem dX9_riding_9 : decode cX9_riding 9 = .ok (.imul, 1) := by decide +kernel
theorem dX9_riding_10 : decode cX9_riding 10 = .ok (.aload_n 0, 1) := by decide +kernel
theorem dX9_riding_11 : decode cX9_riding 11 = .ok (.getfield 19, 3) := by decide +kernel
theorem dX9_riding_14 : decode cX9_riding 14 = .ok (.iload_n 1, 1) := by decide +kernel
theorem dX9_riding_15 : decode cX9_riding 15 = .ok (.iaload, 1) := by decide +kernel
theorem dX9_riding_16 : decode cX9_riding 16 = .ok (.iadd, 1) := by decide +kernel
theorem dX9_riding_17 : decode cX9_riding 17 = .ok (.if_icmp .ge 27, 3) := by decide +kernel
theorem dX9_riding_20 : decode cX9_riding 20 = .ok (.iload_n 2, 1) := by decide +kernel
theorem dX9_riding_21 : decode cX9_riding 21 = .ok (.aload_n 0, 1) := by decide +kernel
theorem dX9_riding_22 : decode cX9_riding 22 = .ok (.getfield 22, 3) := by decide +kernel
theorem dX9_riding_25 : decode cX9_riding 25 = .ok (.iload_n 3, 1) := by decide +kernel
theorem dX9_riding_26 : decode cX9_riding 26 = .ok (.iaload, 1) := by decide +kernel
theorem dX9_riding_27 : decode cX9_riding 27 = .ok (.iconst (-1), 1) := by decide +kernel
theorem dX9_riding_28 : decode cX9_riding 28 = .ok (.if_icmp .ne 7, 3) := by decide +kernel
theorem dX9_riding_31 : decode cX9_riding 31 = .ok (.iconst 0, 1) := by decide +kernel
theorem dX9_riding_32 : decode cX9_riding 32 = .ok (.goto 4, 3) := by decide +kernel
theorem dX9_riding_35 : decode cX9_riding 35 = .ok (.iconst 1, 1) := by decide +kernel
theorem dX9_riding_36 : decode cX9_riding 36 = .ok (.iadd, 1) := by decide +kernel
theorem dX9_riding_37 : decode cX9_riding 37 = .ok (.istore_n 2, 1) := by decide +kernel
theorem dX9_riding_38 : decode cX9_riding 38 = .ok (.iinc 3 1, 3) := by decide +kernel
theorem dX9_riding_41 : decode cX9_riding 41 = .ok (.goto (-35), 3) := by decide +kernel
theorem dX9_riding_44 : decode cX9_riding 44 = .ok (.iload_n 2, 1) := by decide +kernel
theorem dX9_riding_45 : decode cX9_riding 45 = .ok (.ireturn, 1) := by decide +kernel
theorem dX10_init_0 : decode cX10_init 0 = .ok (.aload_n 0, 1) := by decide +kernel
theorem dX10_init_1 : decode cX10_init 1 = .ok (.invokespecial 1, 3) := by decide +kernel
theorem dX10_init_4 : decode cX10_init 4 = .ok (.aload_n 0, 1) := by decide +kernel
theorem dX10_init_5 : decode cX10_init 5 = .ok (.bipush 8, 2) := by decide +kernel
theorem dX10_init_7 : decode cX10_init 7 = .ok (.newarray .int, 2) := by decide +kernel
theorem dX10_init_9 : decode cX10_init 9 = .ok (.putfield 9, 3) := by decide +kernel
theorem dX10_init_12 : decode cX10_init 12 = .ok (.aload_n 0, 1) := by decide +kernel
theorem dX10_init_13 : decode cX10_init 13 = .ok (.bipush 8, 2) := by decide +kernel
theorem dX10_init_15 : decode cX10_init 15 = .ok (.newarray .int, 2) := by decide +kernel
theorem dX10_init_17 : decode cX10_init 17 = .ok (.putfield 13, 3) := by decide +kernel
theorem dX10_init_20 : decode cX10_init 20 = .ok (.aload_n 0, 1) := by decide +kernel
theorem dX10_init_21 : decode cX10_init 21 = .ok (.bipush 8, 2) := by decide +kernel
theorem dX10_init_23 : decode cX10_init 23 = .ok (.newarray .int, 2) := by decide +kernel
theorem dX10_init_25 : decode cX10_init 25 = .ok (.putfield 16, 3) := by decide +kernel
theorem dX10_init_28 : decode cX10_init 28 = .ok (.aload_n 0, 1) := by decide +kernel
theorem dX10_init_29 : decode cX10_init 29 = .ok (.bipush 12, 2) := by decide +kernel
theorem dX10_init_31 : decode cX10_init 31 = .ok (.newarray .int, 2) := by decide +kernel
theorem dX10_init_33 : decode cX10_init 33 = .ok (.putfield 19, 3) := by decide +kernel
theorem dX10_init_36 : decode cX10_init 36 = .ok (.aload_n 0, 1) := by decide +kernel
theorem dX10_init_37 : decode cX10_init 37 = .ok (.bipush 12, 2) := by decide +kernel
theorem dX10_init_39 : decode cX10_init 39 = .ok (.newarray .int, 2) := by decide +kernel
theorem dX10_init_41 : decode cX10_init 41 = .ok (.putfield 22, 3) := by decide +kernel
theorem dX10_init_44 : decode cX10_init 44 = .ok (.aload_n 0, 1) := by decide +kernel
theorem dX10_init_45 : decode cX10_init 45 = .ok (.bipush 12, 2) := by decide +kernel
theorem dX10_init_47 : decode cX10_init 47 = .ok (.newarray .int, 2) := by decide +kernel
theorem dX10_init_49 : decode cX10_init 49 = .ok (.putfield 25, 3) := by decide +kernel
theorem dX10_init_52 : decode cX10_init 52 = .ok (.aload_n 0, 1) := by decide +kernel
theorem dX10_init_53 : decode cX10_init 53 = .ok (.bipush 12, 2) := by decide +kernel
theorem dX10_init_55 : decode cX10_init 55 = .ok (.newarray .int, 2) := by decide +kernel
theorem dX10_init_57 : decode cX10_init 57 = .ok (.putfield 28, 3) := by decide +kernel
theorem dX10_init_60 : decode cX10_init 60 = .ok (.aload_n 0, 1) := by decide +kernel
theorem dX10_init_61 : decode cX10_init 61 = .ok (.bipush 12, 2) := by decide +kernel
theorem dX10_init_63 : decode cX10_init 63 = .ok (.newarray .int, 2) := by decide +kernel
theorem dX10_init_65 : decode cX10_init 65 = .ok (.putfield 31, 3) := by decide +kernel
theorem dX10_init_68 : decode cX10_init 68 = .ok (.aload_n 0, 1) := by decide +kernel
theorem dX10_init_69 : decode cX10_init 69 = .ok (.bipush 12, 2) := by decide +kernel
theorem dX10_init_71 : decode cX10_init 71 = .ok (.newarray .int, 2) := by decide +kernel
theorem dX10_init_73 : decode cX10_init 73 = .ok (.putfield 34, 3) := by decide +kernel
theorem dX10_init_76 : decode cX10_init 76 = .ok (.aload_n 0, 1) := by decide +kernel
theorem dX10_init_77 : decode cX10_init 77 = .ok (.bipush 12, 2) := by decide +kernel
theorem dX10_init_79 : decode cX10_init 79 = .ok (.newarray .int, 2) := by decide +kernel
theorem dX10_init_81 : decode cX10_init 81 = .ok (.putfield 37, 3) := by decide +kernel
theorem dX10_init_84 : decode cX10_init 84 = .ok (.aload_n 0, 1) := by decide +kernel
theorem dX10_init_85 : decode cX10_init 85 = .ok (.new 40, 3) := by decide +kernel
theorem dX10_init_88 : decode cX10_init 88 = .ok (.dup, 1) := by decide +kernel
theorem dX10_init_89 : decode cX10_init 89 = .ok (.aload_n 0, 1) := by decide +kernel
theorem dX10_init_90 : decode cX10_init 90 = .ok (.invokespecial 42, 3) := by decide +kernel
theorem dX10_init_93 : decode cX10_init 93 = .ok (.putfield 45, 3) := by decide +kernel
theorem dX10_init_96 : decode cX10_init 96 = .ok (.aload_n 0, 1) := by decide +kernel
theorem dX10_init_97 : decode cX10_init 97 = .ok (.new 40, 3) := by decide +kernel
theorem dX10_init_100 : decode cX10_init 100 = .ok (.dup, 1) := by decide +kernel
theorem dX10_init_101 : decode cX10_init 101 = .ok (.aload_n 0, 1) := by decide +kernel
theorem dX10_init_102 : decode cX10_init 102 = .ok (.invokespecial 42, 3) := by decide +kernel
theorem dX10_init_105 : decode cX10_init 105 = .ok (.putfield 49, 3) := by decide +kernel
theorem dX10_init_108 : decode cX10_init 108 = .ok (.return_, 1) := by decide +kernel
theorem dX10_thrown_0 : decode cX10_thrown 0 = .ok (.aload_n 0, 1) := by decide +kernel
theorem dX10_thrown_1 : decode cX10_thrown 1 = .ok (.getfield 52, 3) := by decide +kernel
theorem dX10_thrown_4 : decode cX10_thrown 4 = .ok (.ireturn, 1) := by decide +kernel
theorem dX10_no_0 : decode cX10_no 0 = .ok (.aload_n 0, 1) := by decide +kernel
theorem dX10_no_1 : decode cX10_no 1 = .ok (.iload_n 1, 1) := by decide +kernel
theorem dX10_no_2 : decode cX10_no 2 = .ok (.putfield 52, 3) := by decide +kernel
theorem dX10_no_5 : decode cX10_no 5 = .ok (.iconst 0, 1) := by decide +kernel
theorem dX10_no_6 : decode cX10_no 6 = .ok (.ireturn, 1) := by decide +kernel
theorem dX10_isIn_0 : decode cX10_isIn 0 = .ok (.iload_n 0, 1) := by decide +kernel
theorem dX10_isIn_1 : decode cX10_isIn 1 = .ok (.iload_n 1, 1) := by decide +kernel
theorem dX10_isIn_2 : decode cX10_isIn 2 = .ok (.if_icmp .lt 12, 3) := by decide +kernel
theorem dX10_isIn_5 : decode cX10_isIn 5 = .ok (.iload_n 0, 1) := by decide +kernel
theorem dX10_isIn_6 : decode cX10_isIn 6 = .ok (.iload_n 2, 1) := by decide +kernel
theorem dX10_isIn_7 : decode cX10_isIn 7 = .ok (.if_icmp .gt 7, 3) := by decide +kernel
theorem dX10_isIn_10 : decode cX10_isIn 10 = .ok (.iconst 1, 1) := by decide +kernel
theorem dX10_isIn_11 : decode cX10_isIn 11 = .ok (.goto 4, 3) := by decide +kernel
theorem dX10_isIn_14 : decode cX10_isIn 14 = .ok (.iconst 0, 1) := by decide +kernel
theorem dX10_isIn_15 : decode cX10_isIn 15 = .ok (.ireturn, 1) := by decide +kernel
theorem dX10_isPlatform_0 : decode cX10_isPlatform 0 = .ok (.iload_n 1, 1) := by decide +kernel
theorem dX10_isPlatform_1 : decode cX10_isPlatform 1 = .ok (.iconst 0, 1) := by decide +kernel
theorem dX10_isPlatform_2 : decode cX10_isPlatform 2 = .ok (.aload_n 0, 1) := by decide +kernel
theorem dX10_isPlatform_3 : decode cX10_isPlatform 3 = .ok (.getfield 56, 3) := by decide +kernel
theorem dX10_isPlatform_6 : decode cX10_isPlatform 6 = .ok (.iconst 1, 1) := by decide +kernel
theorem dX10_isPlatform_7 : decode cX10_isPlatform 7 = .ok (.isub, 1) := by decide +kernel
theorem dX10_isPlatform_8 : decode cX10_isPlatform 8 = .ok (.invokestatic 59, 3) := by decide +kernel
theorem dX10_isPlatform_11 : decode cX10_isPlatform 11 = .ok (.ireturn, 1) := by decide +kernel
theorem dX10_isLine_0 : decode cX10_isLine 0 = .ok (.iload_n 1, 1) := by decide +kernel
theorem dX10_isLine_1 : decode cX10_isLine 1 = .ok (.iconst 0, 1) := by decide +kernel
theorem dX10_isLine_2 : decode cX10_isLine 2 = .ok (.aload_n 0, 1) := by decide +kernel
theorem dX10_isLine_3 : decode cX10_isLine 3 = .ok (.getfield 63, 3) := by decide +kernel
theorem dX10_isLine_6 : decode cX10_isLine 6 = .ok (.iconst 1, 1) := by decide +kernel
theorem dX10_isLine_7 : decode cX10_isLine 7 = .ok (.isub, 1) := by decide +kernel
theorem dX10_isLine_8 : decode cX10_isLine 8 = .ok (.invokestatic 59, 3) := by decide +kernel
theorem dX10_isLine_11 : decode cX10_isLine 11 = .ok (.ireturn, 1) := by decide +kernel
theorem dX10_lengthOf_0 : decode cX10_lengthOf 0 = .ok (.aload_n 0, 1) := by decide +kernel
theorem dX10_lengthOf_1 : decode cX10_lengthOf 1 = .ok (.getfield 9, 3) := by decide +kernel
theorem dX10_lengthOf_4 : decode cX10_lengthOf 4 = .ok (.aload_n 0, 1) := by decide +kernel
theorem dX10_lengthOf_5 : decode cX10_lengthOf 5 = .ok (.getfield 19, 3) := by decide +kernel
theorem dX10_lengthOf_8 : decode cX10_lengthOf 8 = .ok (.iload_n 1, 1) := by decide +kernel
theorem dX10_lengthOf_9 : decode cX10_lengthOf 9 = .ok (.iaload, 1) := by decide +kernel
theorem dX10_lengthOf_10 : decode cX10_lengthOf 10 = .ok (.iaload, 1) := by decide +kernel
theorem dX10_lengthOf_11 : decode cX10_lengthOf 11 = .ok (.aload_n 0, 1) := by decide +kernel
theorem dX10_lengthOf_12 : decode cX10_lengthOf 12 = .ok (.getfield 9, 3) := by decide +kernel
theorem dX10_lengthOf_15 : decode cX10_lengthOf 15 = .ok (.aload_n 0, 1) := by decide +kernel
theorem dX10_lengthOf_16 : decode cX10_lengthOf 16 = .ok (.getfield 22, 3) := by decide +kernel
theorem dX10_lengthOf_19 : decode cX10_lengthOf 19 = .ok (.iload_n 1, 1) := by decide +kernel
theorem dX10_lengthOf_20 : decode cX10_lengthOf 20 = .ok (.iaload, 1) := by decide +kernel
theorem dX10_lengthOf_21 : decode cX10_lengthOf 21 = .ok (.iaload, 1) := by decide +kernel
theorem dX10_lengthOf_22 : decode cX10_lengthOf 22 = .ok (.isub, 1) := by decide +kernel
theorem dX10_lengthOf_23 : decode cX10_lengthOf 23 = .ok (.invokestatic 66, 3) := by decide +kernel
theorem dX10_lengthOf_26 : decode cX10_lengthOf 26 = .ok (.aload_n 0, 1) := by decide +kernel
theorem dX10_lengthOf_27 : decode cX10_lengthOf 27 = .ok (.getfield 13, 3) := by decide +kernel
theorem dX10_lengthOf_30 : decode cX10_lengthOf 30 = .ok (.aload_n 0, 1) := by decide +kernel
theorem dX10_lengthOf_31 : decode cX10_lengthOf 31 = .ok (.getfield 19, 3) := by decide +kernel
theorem dX10_lengthOf_34 : decode cX10_lengthOf 34 = .ok (.iload_n 1, 1) := by decide +kernel
theorem dX10_lengthOf_35 : decode cX10_lengthOf 35 = .ok (.iaload, 1) := by decide +kernel
theorem dX10_lengthOf_36 : decode cX10_lengthOf 36 = .ok (.iaload, 1) := by decide +kernel
theorem dX10_lengthOf_37 : decode cX10_lengthOf 37 = .ok (.aload_n 0, 1) := by decide +kernel
theorem dX10_lengthOf_38 : decode cX10_lengthOf 38 = .ok (.getfield 13, 3) := by decide +kernel
theorem dX10_lengthOf_41 : decode cX10_lengthOf 41 = .ok (.aload_n 0, 1) := by decide +kernel
theorem dX10_lengthOf_42 : decode cX10_lengthOf 42 = .ok (.getfield 22, 3) := by decide +kernel
theorem dX10_lengthOf_45 : decode cX10_lengthOf 45 = .ok (.iload_n 1, 1) := by decide +kernel
theorem dX10_lengthOf_46 : decode cX10_lengthOf 46 = .ok (.iaload, 1) := by decide +kernel
theorem dX10_lengthOf_47 : decode cX10_lengthOf 47 = .ok (.iaload, 1) := by decide +kernel
theorem dX10_lengthOf_48 : decode cX10_lengthOf 48 = .ok (.isub, 1) := by decide +kernel
theorem dX10_lengthOf_49 : decode cX10_lengthOf 49 = .ok (.invokestatic 66, 3) := by decide +kernel
theorem dX10_lengthOf_52 : decode cX10_lengthOf 52 = .ok (.iadd, 1) := by decide +kernel
theorem dX10_lengthOf_53 : decode cX10_lengthOf 53 = .ok (.ireturn, 1) := by decide +kernel
theorem dX10_dropOf_0 : decode cX10_dropOf 0 = .ok (.aload_n 0, 1) := by decide +kernel
theorem dX10_dropOf_1 : decode cX10_dropOf 1 = .ok (.getfield 16, 3) := by decide +kernel
theorem dX10_dropOf_4 : decode cX10_dropOf 4 = .ok (.aload_n 0, 1) := by decide +kernel
theorem dX10_dropOf_5 : decode cX10_dropOf 5 = .ok (.getfield 19, 3) := by decide +kernel
theorem dX10_dropOf_8 : decode cX10_dropOf 8 = .ok (.iload_n 1, 1) := by decide +kernel
theorem dX10_dropOf_9 : decode cX10_dropOf 9 = .ok (.iaload, 1) := by decide +kernel
theorem dX10_dropOf_10 : decode cX10_dropOf 10 = .ok (.iaload, 1) := by decide +kernel
theorem dX10_dropOf_11 : decode cX10_dropOf 11 = .ok (.aload_n 0, 1) := by decide +kernel
theorem dX10_dropOf_12 : decode cX10_dropOf 12 = .ok (.getfield 16, 3) := by decide +kernel
theorem dX10_dropOf_15 : decode cX10_dropOf 15 = .ok (.aload_n 0, 1) := by decide +kernel
theorem dX10_dropOf_16 : decode cX10_dropOf 16 = .ok (.getfield 22, 3) := by decide +kernel
theorem dX10_dropOf_19 : decode cX10_dropOf 19 = .ok (.iload_n 1, 1) := by decide +kernel
theorem dX10_dropOf_20 : decode cX10_dropOf 20 = .ok (.iaload, 1) := by decide +kernel
theorem dX10_dropOf_21 : decode cX10_dropOf 21 = .ok (.iaload, 1) := by decide +kernel
theorem dX10_dropOf_22 : decode cX10_dropOf 22 = .ok (.isub, 1) := by decide +kernel
theorem dX10_dropOf_23 : decode cX10_dropOf 23 = .ok (.ireturn, 1) := by decide +kernel
theorem dX10_isClosed_0 : decode cX10_isClosed 0 = .ok (.aload_n 0, 1) := by decide +kernel
theorem dX10_isClosed_1 : decode cX10_isClosed 1 = .ok (.iload_n 1, 1) := by decide +kernel
theorem dX10_isClosed_2 : decode cX10_isClosed 2 = .ok (.invokevirtual 72, 3) := by decide +kernel
theorem dX10_isClosed_5 : decode cX10_isClosed 5 = .ok (.bipush 80, 2) := by decide +kernel
theorem dX10_isClosed_7 : decode cX10_isClosed 7 = .ok (.bipush 8, 2) := by decide +kernel
theorem dX10_isClosed_9 : decode cX10_isClosed 9 = .ok (.aload_n 0, 1) := by decide +kernel
theorem dX10_isClosed_10 : decode cX10_isClosed 10 = .ok (.getfield 28, 3) := by decide +kernel
theorem dX10_isClosed_13 : decode cX10_isClosed 13 = .ok (.iload_n 2, 1) := by decide +kernel
theorem dX10_isClosed_14 : decode cX10_isClosed 14 = .ok (.bipush 12, 2) := by decide +kernel
theorem dX10_isClosed_16 : decode cX10_isClosed 16 = .ok (.irem, 1) := by decide +kernel
theorem dX10_isClosed_17 : decode cX10_isClosed 17 = .ok (.iaload, 1) := by decide +kernel
theorem dX10_isClosed_18 : decode cX10_isClosed 18 = .ok (.imul, 1) := by decide +kernel
theorem dX10_isClosed_19 : decode cX10_isClosed 19 = .ok (.isub, 1) := by decide +kernel
theorem dX10_isClosed_20 : decode cX10_isClosed 20 = .ok (.if_icmp .le 7, 3) := by decide +kernel
theorem dX10_isClosed_23 : decode cX10_isClosed 23 = .ok (.iconst 1, 1) := by decide +kernel
theorem dX10_isClosed_24 : decode cX10_isClosed 24 = .ok (.goto 4, 3) := by decide +kernel
theorem dX10_isClosed_27 : decode cX10_isClosed 27 = .ok (.iconst 0, 1) := by decide +kernel
theorem dX10_isClosed_28 : decode cX10_isClosed 28 = .ok (.ireturn, 1) := by decide +kernel
theorem dX10_rideOf_0 : decode cX10_rideOf 0 = .ok (.aload_n 0, 1) := by decide +kernel
theorem dX10_rideOf_1 : decode cX10_rideOf 1 = .ok (.iload_n 1, 1) := by decide +kernel
theorem dX10_rideOf_2 : decode cX10_rideOf 2 = .ok (.invokevirtual 75, 3) := by decide +kernel
theorem dX10_rideOf_5 : decode cX10_rideOf 5 = .ok (.iload_n 2, 1) := by decide +kernel
theorem dX10_rideOf_6 : decode cX10_rideOf 6 = .ok (.bipush 10, 2) := by decide +kernel
theorem dX10_rideOf_8 : decode cX10_rideOf 8 = .ok (.idiv, 1) := by decide +kernel
theorem dX10_rideOf_9 : decode cX10_rideOf 9 = .ok (.iadd, 1) := by decide +kernel
theorem dX10_rideOf_10 : decode cX10_rideOf 10 = .ok (.istore_n 3, 1) := by decide +kernel
theorem dX10_rideOf_11 : decode cX10_rideOf 11 = .ok (.iconst 2, 1) := by decide +kernel
theorem dX10_rideOf_12 : decode cX10_rideOf 12 = .ok (.aload_n 0, 1) := by decide +kernel
theorem dX10_rideOf_13 : decode cX10_rideOf 13 = .ok (.iload_n 1, 1) := by decide +kernel
theorem dX10_rideOf_14 : decode cX10_rideOf 14 = .ok (.invokevirtual 72, 3) := by decide +kernel
theorem dX10_rideOf_17 : decode cX10_rideOf 17 = .ok (.imul, 1) := by decide +kernel
theorem dX10_rideOf_18 : decode cX10_rideOf 18 = .ok (.iload_n 3, 1) := by decide +kernel
theorem dX10_rideOf_19 : decode cX10_rideOf 19 = .ok (.iadd, 1) := by decide +kernel
theorem dX10_rideOf_20 : decode cX10_rideOf 20 = .ok (.iconst 1, 1) := by decide +kernel
theorem dX10_rideOf_21 : decode cX10_rideOf 21 = .ok (.isub, 1) := by decide +kernel
theorem dX10_rideOf_22 : decode cX10_rideOf 22 = .ok (.iload_n 3, 1) := by decide +kernel
theorem dX10_rideOf_23 : decode cX10_rideOf 23 = .ok (.idiv, 1) := by decide +kernel
theorem dX10_rideOf_24 : decode cX10_rideOf 24 = .ok (.istore 4, 2) := by decide +kernel
theorem dX10_rideOf_26 : decode cX10_rideOf 26 = .ok (.iload_n 2, 1) := by decide +kernel
theorem dX10_rideOf_27 : decode cX10_rideOf 27 = .ok (.aload_n 0, 1) := by decide +kernel
theorem dX10_rideOf_28 : decode cX10_rideOf 28 = .ok (.iload_n 1, 1) := by decide +kernel
theorem dX10_rideOf_29 : decode cX10_rideOf 29 = .ok (.invokevirtual 75, 3) := by decide +kernel
theorem dX10_rideOf_32 : decode cX10_rideOf 32 = .ok (.imul, 1) := by decide +kernel
theorem dX10_rideOf_33 : decode cX10_rideOf 33 = .ok (.bipush 10, 2) := by decide +kernel
theorem dX10_rideOf_35 : decode cX10_rideOf 35 = .ok (.aload_n 0, 1) := by decide +kernel
theorem dX10_rideOf_36 : decode cX10_rideOf 36 = .ok (.iload_n 1, 1) := by decide +kernel
theorem dX10_rideOf_37 : decode cX10_rideOf 37 = .ok (.invokevirtual 72, 3) := by decide +kernel
theorem dX10_rideOf_40 : decode cX10_rideOf 40 = .ok (.imul, 1) := by decide +kernel
theorem dX10_rideOf_41 : decode cX10_rideOf 41 = .ok (.if_icmp .ge 11, 3) := by decide +kernel
theorem dX10_rideOf_44 : decode cX10_rideOf 44 = .ok (.bipush (-2), 2) := by decide +kernel
theorem dX10_rideOf_46 : decode cX10_rideOf 46 = .ok (.iload 4, 2) := by decide +kernel
theorem dX10_rideOf_48 : decode cX10_rideOf 48 = .ok (.imul, 1) := by decide +kernel
theorem dX10_rideOf_49 : decode cX10_rideOf 49 = .ok (.goto 5, 3) := by decide +kernel
theorem dX10_rideOf_52 : decode cX10_rideOf 52 = .ok (.iload 4, 2) := by decide +kernel
theorem dX10_rideOf_54 : decode cX10_rideOf 54 = .ok (.ireturn, 1) := by decide +kernel
theorem dX10_fewest_0 : decode cX10_fewest 0 = .ok (.iload_n 1, 1) := by decide +kernel
theorem dX10_fewest_1 : decode cX10_fewest 1 = .ok (.iload_n 2, 1) := by decide +kernel
theorem dX10_fewest_2 : decode cX10_fewest 2 = .ok (.if_icmp .ne 5, 3) := by decide +kernel
theorem dX10_fewest_5 : decode cX10_fewest 5 = .ok (.iconst 0, 1) := by decide +kernel
theorem dX10_fewest_6 : decode cX10_fewest 6 = .ok (.ireturn, 1) := by decide +kernel
theorem dX10_fewest_7 : decode cX10_fewest 7 = .ok (.iconst (-1), 1) := by decide +kernel
theorem dX10_fewest_8 : decode cX10_fewest 8 = .ok (.istore 4, 2) := by decide +kernel
theorem dX10_fewest_10 : decode cX10_fewest 10 = .ok (.iconst 0, 1) := by decide +kernel
theorem dX10_fewest_11 : decode cX10_fewest 11 = .ok (.istore 5, 2) := by decide +kernel
theorem dX10_fewest_13 : decode cX10_fewest 13 = .ok (.iload 5, 2) := by decide +kernel
theorem dX10_fewest_15 : decode cX10_fewest 15 = .ok (.aload_n 0, 1) := by decide +kernel
theorem dX10_fewest_16 : decode cX10_fewest 16 = .ok (.getfield 63, 3) := by decide +kernel
theorem dX10_fewest_19 : decode cX10_fewest 19 = .ok (.if_icmp .ge 76, 3) := by decide +kernel
theorem dX10_fewest_22 : decode cX10_fewest 22 = .ok (.aload_n 0, 1) := by decide +kernel
theorem dX10_fewest_23 : decode cX10_fewest 23 = .ok (.getfield 19, 3) := by decide +kernel
theorem dX10_fewest_26 : decode cX10_fewest 26 = .ok (.iload 5, 2) := by decide +kernel
theorem dX10_fewest_28 : decode cX10_fewest 28 = .ok (.iaload, 1) := by decide +kernel
theorem dX10_fewest_29 : decode cX10_fewest 29 = .ok (.iload_n 1, 1) := by decide +kernel
theorem dX10_fewest_30 : decode cX10_fewest 30 = .ok (.if_icmp .ne 59, 3) := by decide +kernel
theorem dX10_fewest_33 : decode cX10_fewest 33 = .ok (.aload_n 0, 1) := by decide +kernel
theorem dX10_fewest_34 : decode cX10_fewest 34 = .ok (.getfield 25, 3) := by decide +kernel
theorem dX10_fewest_37 : decode cX10_fewest 37 = .ok (.iload 5, 2) := by decide +kernel
theorem dX10_fewest_39 : decode cX10_fewest 39 = .ok (.iaload, 1) := by decide +kernel
theorem dX10_fewest_40 : decode cX10_fewest 40 = .ok (.iload_n 3, 1) := by decide +kernel
theorem dX10_fewest_41 : decode cX10_fewest 41 = .ok (.if_icmp .ge 6, 3) := by decide +kernel
theorem dX10_fewest_44 : decode cX10_fewest 44 = .ok (.goto 45, 3) := by decide +kernel
theorem dX10_fewest_47 : decode cX10_fewest 47 = .ok (.aload_n 0, 1) := by decide +kernel
theorem dX10_fewest_48 : decode cX10_fewest 48 = .ok (.aload_n 0, 1) := by decide +kernel
theorem dX10_fewest_49 : decode cX10_fewest 49 = .ok (.getfield 22, 3) := by decide +kernel
theorem dX10_fewest_52 : decode cX10_fewest 52 = .ok (.iload 5, 2) := by decide +kernel
theorem dX10_fewest_54 : decode cX10_fewest 54 = .ok (.iaload, 1) := by decide +kernel
theorem dX10_fewest_55 : decode cX10_fewest 55 = .ok (.iload_n 2, 1) := by decide +kernel
theorem dX10_fewest_56 : decode cX10_fewest 56 = .ok (.iload_n 3, 1) := by decide +kernel
theorem dX10_fewest_57 : decode cX10_fewest 57 = .ok (.invokevirtual 78, 3) := by decide +kernel
theorem dX10_fewest_60 : decode cX10_fewest 60 = .ok (.istore 6, 2) := by decide +kernel
theorem dX10_fewest_62 : decode cX10_fewest 62 = .ok (.iload 6, 2) := by decide +kernel
theorem dX10_fewest_64 : decode cX10_fewest 64 = .ok (.iconst (-1), 1) := by decide +kernel
theorem dX10_fewest_65 : decode cX10_fewest 65 = .ok (.if_icmp .eq 24, 3) := by decide +kernel
theorem dX10_fewest_68 : decode cX10_fewest 68 = .ok (.iload 4, 2) := by decide +kernel
theorem dX10_fewest_70 : decode cX10_fewest 70 = .ok (.iconst (-1), 1) := by decide +kernel
theorem dX10_fewest_71 : decode cX10_fewest 71 = .ok (.if_icmp .eq 12, 3) := by decide +kernel
theorem dX10_fewest_74 : decode cX10_fewest 74 = .ok (.iload 6, 2) := by decide +kernel
theorem dX10_fewest_76 : decode cX10_fewest 76 = .ok (.iconst 1, 1) := by decide +kernel
theorem dX10_fewest_77 : decode cX10_fewest 77 = .ok (.iadd, 1) := by decide +kernel
theorem dX10_fewest_78 : decode cX10_fewest 78 = .ok (.iload 4, 2) := by decide +kernel
theorem dX10_fewest_80 : decode cX10_fewest 80 = .ok (.if_icmp .ge 9, 3) := by decide +kernel
theorem dX10_fewest_83 : decode cX10_fewest 83 = .ok (.iload 6, 2) := by decide +kernel
theorem dX10_fewest_85 : decode cX10_fewest 85 = .ok (.iconst 1, 1) := by decide +kernel
theorem dX10_fewest_86 : decode cX10_fewest 86 = .ok (.iadd, 1) := by decide +kernel
theorem dX10_fewest_87 : decode cX10_fewest 87 = .ok (.istore 4, 2) := by decide +kernel
theorem dX10_fewest_89 : decode cX10_fewest 89 = .ok (.iinc 5 1, 3) := by decide +kernel
theorem dX10_fewest_92 : decode cX10_fewest 92 = .ok (.goto (-79), 3) := by decide +kernel
theorem dX10_fewest_95 : decode cX10_fewest 95 = .ok (.iload 4, 2) := by decide +kernel
theorem dX10_fewest_97 : decode cX10_fewest 97 = .ok (.ireturn, 1) := by decide +kernel
theorem dX10_first_0 : decode cX10_first 0 = .ok (.aload_n 0, 1) := by decide +kernel
theorem dX10_first_1 : decode cX10_first 1 = .ok (.iload_n 1, 1) := by decide +kernel
theorem dX10_first_2 : decode cX10_first 2 = .ok (.iload_n 2, 1) := by decide +kernel
theorem dX10_first_3 : decode cX10_first 3 = .ok (.iload_n 3, 1) := by decide +kernel
theorem dX10_first_4 : decode cX10_first 4 = .ok (.invokevirtual 78, 3) := by decide +kernel
theorem dX10_first_7 : decode cX10_first 7 = .ok (.istore 4, 2) := by decide +kernel
theorem dX10_first_9 : decode cX10_first 9 = .ok (.iconst 0, 1) := by decide +kernel
theorem dX10_first_10 : decode cX10_first 10 = .ok (.istore 5, 2) := by decide +kernel
theorem dX10_first_12 : decode cX10_first 12 = .ok (.iload 5, 2) := by decide +kernel
theorem dX10_first_14 : decode cX10_first 14 = .ok (.aload_n 0, 1) := by decide +kernel
theorem dX10_first_15 : decode cX10_first 15 = .ok (.getfield 63, 3) := by decide +kernel
theorem dX10_first_18 : decode cX10_first 18 = .ok (.if_icmp .ge 59, 3) := by decide +kernel
theorem dX10_first_21 : decode cX10_first 21 = .ok (.iload 4, 2) := by decide +kernel
theorem dX10_first_23 : decode cX10_first 23 = .ok (.ifCond .le 54, 3) := by decide +kernel
theorem dX10_first_26 : decode cX10_first 26 = .ok (.aload_n 0, 1) := by decide +kernel
theorem dX10_first_27 : decode cX10_first 27 = .ok (.getfield 19, 3) := by decide +kernel
theorem dX10_first_30 : decode cX10_first 30 = .ok (.iload 5, 2) := by decide +kernel
theorem dX10_first_32 : decode cX10_first 32 = .ok (.iaload, 1) := by decide +kernel
theorem dX10_first_33 : decode cX10_first 33 = .ok (.iload_n 1, 1) := by decide +kernel
theorem dX10_first_34 : decode cX10_first 34 = .ok (.if_icmp .ne 37, 3) := by decide +kernel
theorem dX10_first_37 : decode cX10_first 37 = .ok (.aload_n 0, 1) := by decide +kernel
theorem dX10_first_38 : decode cX10_first 38 = .ok (.getfield 25, 3) := by decide +kernel
theorem dX10_first_41 : decode cX10_first 41 = .ok (.iload 5, 2) := by decide +kernel
theorem dX10_first_43 : decode cX10_first 43 = .ok (.iaload, 1) := by decide +kernel
theorem dX10_first_44 : decode cX10_first 44 = .ok (.iload_n 3, 1) := by decide +kernel
theorem dX10_first_45 : decode cX10_first 45 = .ok (.if_icmp .lt 26, 3) := by decide +kernel
theorem dX10_first_48 : decode cX10_first 48 = .ok (.aload_n 0, 1) := by decide +kernel
theorem dX10_first_49 : decode cX10_first 49 = .ok (.aload_n 0, 1) := by decide +kernel
theorem dX10_first_50 : decode cX10_first 50 = .ok (.getfield 22, 3) := by decide +kernel
theorem dX10_first_53 : decode cX10_first 53 = .ok (.iload 5, 2) := by decide +kernel
theorem dX10_first_55 : decode cX10_first 55 = .ok (.iaload, 1) := by decide +kernel
theorem dX10_first_56 : decode cX10_first 56 = .ok (.iload_n 2, 1) := by decide +kernel
theorem dX10_first_57 : decode cX10_first 57 = .ok (.iload_n 3, 1) := by decide +kernel
theorem dX10_first_58 : decode cX10_first 58 = .ok (.invokevirtual 78, 3) := by decide +kernel
theorem dX10_first_61 : decode cX10_first 61 = .ok (.iload 4, 2) := by decide +kernel
theorem dX10_first_63 : decode cX10_first 63 = .ok (.iconst 1, 1) := by decide +kernel
theorem dX10_first_64 : decode cX10_first 64 = .ok (.isub, 1) := by decide +kernel
theorem dX10_first_65 : decode cX10_first 65 = .ok (.if_icmp .ne 6, 3) := by decide +kernel
theorem dX10_first_68 : decode cX10_first 68 = .ok (.iload 5, 2) := by decide +kernel
theorem dX10_first_70 : decode cX10_first 70 = .ok (.ireturn, 1) := by decide +kernel
theorem dX10_first_71 : decode cX10_first 71 = .ok (.iinc 5 1, 3) := by decide +kernel
theorem dX10_first_74 : decode cX10_first 74 = .ok (.goto (-62), 3) := by decide +kernel
theorem dX10_first_77 : decode cX10_first 77 = .ok (.iconst (-1), 1) := by decide +kernel
theorem dX10_first_78 : decode cX10_first 78 = .ok (.ireturn, 1) := by decide +kernel
theorem dX10_build_0 : decode cX10_build 0 = .ok (.aload_n 0, 1) := by decide +kernel
theorem dX10_build_1 : decode cX10_build 1 = .ok (.iconst 0, 1) := by decide +kernel
theorem dX10_build_2 : decode cX10_build 2 = .ok (.putfield 52, 3) := by decide +kernel
theorem dX10_build_5 : decode cX10_build 5 = .ok (.iload_n 1, 1) := by decide +kernel
theorem dX10_build_6 : decode cX10_build 6 = .ok (.iconst 0, 1) := by decide +kernel
theorem dX10_build_7 : decode cX10_build 7 = .ok (.bipush 40, 2) := by decide +kernel
theorem dX10_build_9 : decode cX10_build 9 = .ok (.invokestatic 59, 3) := by decide +kernel
theorem dX10_build_12 : decode cX10_build 12 = .ok (.ifCond .eq 23, 3) := by decide +kernel
theorem dX10_build_15 : decode cX10_build 15 = .ok (.iload_n 2, 1) := by decide +kernel
theorem dX10_build_16 : decode cX10_build 16 = .ok (.iconst 0, 1) := by decide +kernel
theorem dX10_build_17 : decode cX10_build 17 = .ok (.bipush 40, 2) := by decide +kernel
theorem dX10_build_19 : decode cX10_build 19 = .ok (.invokestatic 59, 3) := by decide +kernel
theorem dX10_build_22 : decode cX10_build 22 = .ok (.ifCond .eq 13, 3) := by decide +kernel
theorem dX10_build_25 : decode cX10_build 25 = .ok (.iload_n 3, 1) := by decide +kernel
theorem dX10_build_26 : decode cX10_build 26 = .ok (.iconst 0, 1) := by decide +kernel
theorem dX10_build_27 : decode cX10_build 27 = .ok (.bipush 60, 2) := by decide +kernel
theorem dX10_build_29 : decode cX10_build 29 = .ok (.invokestatic 59, 3) := by decide +kernel
theorem dX10_build_32 : decode cX10_build 32 = .ok (.ifCond .ne 9, 3) := by decide +kernel
theorem dX10_build_35 : decode cX10_build 35 = .ok (.aload_n 0, 1) := by decide +kernel
theorem dX10_build_36 : decode cX10_build 36 = .ok (.iconst 1, 1) := by decide +kernel
theorem dX10_build_37 : decode cX10_build 37 = .ok (.invokevirtual 82, 3) := by decide +kernel
theorem dX10_build_40 : decode cX10_build 40 = .ok (.ireturn, 1) := by decide +kernel
theorem dX10_build_41 : decode cX10_build 41 = .ok (.aload_n 0, 1) := by decide +kernel
theorem dX10_build_42 : decode cX10_build 42 = .ok (.getfield 56, 3) := by decide +kernel
theorem dX10_build_45 : decode cX10_build 45 = .ok (.bipush 8, 2) := by decide +kernel
theorem dX10_build_47 : decode cX10_build 47 = .ok (.if_icmp .ge 7, 3) := by decide +kernel
theorem dX10_build_50 : decode cX10_build 50 = .ok (.iconst 1, 1) := by decide +kernel
theorem dX10_build_51 : decode cX10_build 51 = .ok (.goto 4, 3) := by decide +kernel
theorem dX10_build_54 : decode cX10_build 54 = .ok (.iconst 0, 1) := by decide +kernel
theorem dX10_build_55 : decode cX10_build 55 = .ok (.istore 4, 2) := by decide +kernel
theorem dX10_build_57 : decode cX10_build 57 = .ok (.iconst 0, 1) := by decide +kernel
theorem dX10_build_58 : decode cX10_build 58 = .ok (.istore 5, 2) := by decide +kernel
theorem dX10_build_60 : decode cX10_build 60 = .ok (.iload 5, 2) := by decide +kernel
theorem dX10_build_62 : decode cX10_build 62 = .ok (.aload_n 0, 1) := by decide +kernel
theorem dX10_build_63 : decode cX10_build 63 = .ok (.getfield 56, 3) := by decide +kernel
theorem dX10_build_66 : decode cX10_build 66 = .ok (.if_icmp .ge 43, 3) := by decide +kernel
theorem dX10_build_69 : decode cX10_build 69 = .ok (.iload 4, 2) := by decide +kernel
theorem dX10_build_71 : decode cX10_build 71 = .ok (.ifCond .eq 29, 3) := by decide +kernel
theorem dX10_build_74 : decode cX10_build 74 = .ok (.aload_n 0, 1) := by decide +kernel
theorem dX10_build_75 : decode cX10_build 75 = .ok (.getfield 9, 3) := by decide +kernel
theorem dX10_build_78 : decode cX10_build 78 = .ok (.iload 5, 2) := by decide +kernel
theorem dX10_build_80 : decode cX10_build 80 = .ok (.iaload, 1) := by decide +kernel
theorem dX10_build_81 : decode cX10_build 81 = .ok (.iload_n 1, 1) := by decide +kernel
theorem dX10_build_82 : decode cX10_build 82 = .ok (.if_icmp .ne 14, 3) := by decide +kernel
theorem dX10_build_85 : decode cX10_build 85 = .ok (.aload_n 0, 1) := by decide +kernel
theorem dX10_build_86 : decode cX10_build 86 = .ok (.getfield 13, 3) := by decide +kernel
theorem dX10_build_89 : decode cX10_build 89 = .ok (.iload 5, 2) := by decide +kernel
theorem dX10_build_91 : decode cX10_build 91 = .ok (.iaload, 1) := by decide +kernel
theorem dX10_build_92 : decode cX10_build 92 = .ok (.iload_n 2, 1) := by decide +kernel
theorem dX10_build_93 : decode cX10_build 93 = .ok (.if_icmp .eq 7, 3) := by decide +kernel
theorem dX10_build_96 : decode cX10_build 96 = .ok (.iconst 1, 1) := by decide +kernel
theorem dX10_build_97 : decode cX10_build 97 = .ok (.goto 4, 3) := by decide +kernel
theorem dX10_build_100 : decode cX10_build 100 = .ok (.iconst 0, 1) := by decide +kernel
theorem dX10_build_101 : decode cX10_build 101 = .ok (.istore 4, 2) := by decide +kernel
theorem dX10_build_103 : decode cX10_build 103 = .ok (.iinc 5 1, 3) := by decide +kernel
theorem dX10_build_106 : decode cX10_build 106 = .ok (.goto (-46), 3) := by decide +kernel
theorem dX10_build_109 : decode cX10_build 109 = .ok (.iload 4, 2) := by decide +kernel
theorem dX10_build_111 : decode cX10_build 111 = .ok (.ifCond .ne 9, 3) := by decide +kernel
theorem dX10_build_114 : decode cX10_build 114 = .ok (.aload_n 0, 1) := by decide +kernel
theorem dX10_build_115 : decode cX10_build 115 = .ok (.iconst 2, 1) := by decide +kernel
theorem dX10_build_116 : decode cX10_build 116 = .ok (.invokevirtual 82, 3) := by decide +kernel
theorem dX10_build_119 : decode cX10_build 119 = .ok (.ireturn, 1) := by decide +kernel
theorem dX10_build_120 : decode cX10_build 120 = .ok (.aload_n 0, 1) := by decide +kernel
theorem dX10_build_121 : decode cX10_build 121 = .ok (.getfield 9, 3) := by decide +kernel
theorem dX10_build_124 : decode cX10_build 124 = .ok (.aload_n 0, 1) := by decide +kernel
theorem dX10_build_125 : decode cX10_build 125 = .ok (.getfield 56, 3) := by decide +kernel
theorem dX10_build_128 : decode cX10_build 128 = .ok (.iload_n 1, 1) := by decide +kernel
theorem dX10_build_129 : decode cX10_build 129 = .ok (.iastore, 1) := by decide +kernel
theorem dX10_build_130 : decode cX10_build 130 = .ok (.aload_n 0, 1) := by decide +kernel
theorem dX10_build_131 : decode cX10_build 131 = .ok (.getfield 13, 3) := by decide +kernel
theorem dX10_build_134 : decode cX10_build 134 = .ok (.aload_n 0, 1) := by decide +kernel
theorem dX10_build_135 : decode cX10_build 135 = .ok (.getfield 56, 3) := by decide +kernel
theorem dX10_build_138 : decode cX10_build 138 = .ok (.iload_n 2, 1) := by decide +kernel
theorem dX10_build_139 : decode cX10_build 139 = .ok (.iastore, 1) := by decide +kernel
theorem dX10_build_140 : decode cX10_build 140 = .ok (.aload_n 0, 1) := by decide +kernel
theorem dX10_build_141 : decode cX10_build 141 = .ok (.getfield 16, 3) := by decide +kernel
theorem dX10_build_144 : decode cX10_build 144 = .ok (.aload_n 0, 1) := by decide +kernel
theorem dX10_build_145 : decode cX10_build 145 = .ok (.getfield 56, 3) := by decide +kernel
theorem dX10_build_148 : decode cX10_build 148 = .ok (.iload_n 3, 1) := by decide +kernel
theorem dX10_build_149 : decode cX10_build 149 = .ok (.iastore, 1) := by decide +kernel
theorem dX10_build_150 : decode cX10_build 150 = .ok (.aload_n 0, 1) := by decide +kernel
theorem dX10_build_151 : decode cX10_build 151 = .ok (.dup, 1) := by decide +kernel
theorem dX10_build_152 : decode cX10_build 152 = .ok (.getfield 56, 3) := by decide +kernel
theorem dX10_build_155 : decode cX10_build 155 = .ok (.iconst 1, 1) := by decide +kernel
theorem dX10_build_156 : decode cX10_build 156 = .ok (.iadd, 1) := by decide +kernel
theorem dX10_build_157 : decode cX10_build 157 = .ok (.putfield 56, 3) := by decide +kernel
theorem dX10_build_160 : decode cX10_build 160 = .ok (.aload_n 0, 1) := by decide +kernel
theorem dX10_build_161 : decode cX10_build 161 = .ok (.getfield 56, 3) := by decide +kernel
theorem dX10_build_164 : decode cX10_build 164 = .ok (.iconst 1, 1) := by decide +kernel
theorem dX10_build_165 : decode cX10_build 165 = .ok (.isub, 1) := by decide +kernel
theorem dX10_build_166 : decode cX10_build 166 = .ok (.ireturn, 1) := by decide +kernel
theorem dX10_span_0 : decode cX10_span 0 = .ok (.aload_n 0, 1) := by decide +kernel
theorem dX10_span_1 : decode cX10_span 1 = .ok (.iconst 0, 1) := by decide +kernel
theorem dX10_span_2 : decode cX10_span 2 = .ok (.putfield 52, 3) := by decide +kernel
theorem dX10_span_5 : decode cX10_span 5 = .ok (.aload_n 0, 1) := by decide +kernel
theorem dX10_span_6 : decode cX10_span 6 = .ok (.iload_n 1, 1) := by decide +kernel
theorem dX10_span_7 : decode cX10_span 7 = .ok (.invokevirtual 85, 3) := by decide +kernel
theorem dX10_span_10 : decode cX10_span 10 = .ok (.ifCond .eq 11, 3) := by decide +kernel
theorem dX10_span_13 : decode cX10_span 13 = .ok (.aload_n 0, 1) := by decide +kernel
theorem dX10_span_14 : decode cX10_span 14 = .ok (.iload_n 2, 1) := by decide +kernel
theorem dX10_span_15 : decode cX10_span 15 = .ok (.invokevirtual 85, 3) := by decide +kernel
theorem dX10_span_18 : decode cX10_span 18 = .ok (.ifCond .ne 9, 3) := by decide +kernel
theorem dX10_span_21 : decode cX10_span 21 = .ok (.aload_n 0, 1) := by decide +kernel
theorem dX10_span_22 : decode cX10_span 22 = .ok (.iconst 1, 1) := by decide +kernel
theorem dX10_span_23 : decode cX10_span 23 = .ok (.invokevirtual 82, 3) := by decide +kernel
theorem dX10_span_26 : decode cX10_span 26 = .ok (.ireturn, 1) := by decide +kernel
theorem dX10_span_27 : decode cX10_span 27 = .ok (.aload_n 0, 1) := by decide +kernel
theorem dX10_span_28 : decode cX10_span 28 = .ok (.getfield 16, 3) := by decide +kernel
theorem dX10_span_31 : decode cX10_span 31 = .ok (.iload_n 2, 1) := by decide +kernel
theorem dX10_span_32 : decode cX10_span 32 = .ok (.iaload, 1) := by decide +kernel
theorem dX10_span_33 : decode cX10_span 33 = .ok (.aload_n 0, 1) := by decide +kernel
theorem dX10_span_34 : decode cX10_span 34 = .ok (.getfield 16, 3) := by decide +kernel
theorem dX10_span_37 : decode cX10_span 37 = .ok (.iload_n 1, 1) := by decide +kernel
theorem dX10_span_38 : decode cX10_span 38 = .ok (.iaload, 1) := by decide +kernel
theorem dX10_span_39 : decode cX10_span 39 = .ok (.if_icmp .ge 25, 3) := by decide +kernel
theorem dX10_span_42 : decode cX10_span 42 = .ok (.iload_n 3, 1) := by decide +kernel
theorem dX10_span_43 : decode cX10_span 43 = .ok (.bipush 20, 2) := by decide +kernel
theorem dX10_span_45 : decode cX10_span 45 = .ok (.sipush 150, 3) := by decide +kernel
theorem dX10_span_48 : decode cX10_span 48 = .ok (.invokestatic 59, 3) := by decide +kernel
theorem dX10_span_51 : decode cX10_span 51 = .ok (.ifCond .eq 13, 3) := by decide +kernel
theorem dX10_span_54 : decode cX10_span 54 = .ok (.iload 4, 2) := by decide +kernel
theorem dX10_span_56 : decode cX10_span 56 = .ok (.iconst 1, 1) := by decide +kernel
theorem dX10_span_57 : decode cX10_span 57 = .ok (.iconst 3, 1) := by decide +kernel
theorem dX10_span_58 : decode cX10_span 58 = .ok (.invokestatic 59, 3) := by decide +kernel
theorem dX10_span_61 : decode cX10_span 61 = .ok (.ifCond .ne 9, 3) := by decide +kernel
theorem dX10_span_64 : decode cX10_span 64 = .ok (.aload_n 0, 1) := by decide +kernel
theorem dX10_span_65 : decode cX10_span 65 = .ok (.iconst 2, 1) := by decide +kernel
theorem dX10_span_66 : decode cX10_span 66 = .ok (.invokevirtual 82, 3) := by decide +kernel
theorem dX10_span_69 : decode cX10_span 69 = .ok (.ireturn, 1) := by decide +kernel
theorem dX10_span_70 : decode cX10_span 70 = .ok (.aload_n 0, 1) := by decide +kernel
theorem dX10_span_71 : decode cX10_span 71 = .ok (.getfield 63, 3) := by decide +kernel
theorem dX10_span_74 : decode cX10_span 74 = .ok (.bipush 12, 2) := by decide +kernel
theorem dX10_span_76 : decode cX10_span 76 = .ok (.if_icmp .ne 9, 3) := by decide +kernel
theorem dX10_span_79 : decode cX10_span 79 = .ok (.aload_n 0, 1) := by decide +kernel
theorem dX10_span_80 : decode cX10_span 80 = .ok (.iconst 3, 1) := by decide +kernel
theorem dX10_span_81 : decode cX10_span 81 = .ok (.invokevirtual 82, 3) := by decide +kernel
theorem dX10_span_84 : decode cX10_span 84 = .ok (.ireturn, 1) := by decide +kernel
theorem dX10_span_85 : decode cX10_span 85 = .ok (.aload_n 0, 1) := by decide +kernel
theorem dX10_span_86 : decode cX10_span 86 = .ok (.getfield 19, 3) := by decide +kernel
theorem dX10_span_89 : decode cX10_span 89 = .ok (.aload_n 0, 1) := by decide +kernel
theorem dX10_span_90 : decode cX10_span 90 = .ok (.getfield 63, 3) := by decide +kernel
theorem dX10_span_93 : decode cX10_span 93 = .ok (.iload_n 1, 1) := by decide +kernel
theorem dX10_span_94 : decode cX10_span 94 = .ok (.iastore, 1) := by decide +kernel
theorem dX10_span_95 : decode cX10_span 95 = .ok (.aload_n 0, 1) := by decide +kernel
theorem dX10_span_96 : decode cX10_span 96 = .ok (.getfield 22, 3) := by decide +kernel
theorem dX10_span_99 : decode cX10_span 99 = .ok (.aload_n 0, 1) := by decide +kernel
theorem dX10_span_100 : decode cX10_span 100 = .ok (.getfield 63, 3) := by decide +kernel
theorem dX10_span_103 : decode cX10_span 103 = .ok (.iload_n 2, 1) := by decide +kernel
theorem dX10_span_104 : decode cX10_span 104 = .ok (.iastore, 1) := by decide +kernel
theorem dX10_span_105 : decode cX10_span 105 = .ok (.aload_n 0, 1) := by decide +kernel
theorem dX10_span_106 : decode cX10_span 106 = .ok (.getfield 25, 3) := by decide +kernel
theorem dX10_span_109 : decode cX10_span 109 = .ok (.aload_n 0, 1) := by decide +kernel
theorem dX10_span_110 : decode cX10_span 110 = .ok (.getfield 63, 3) := by decide +kernel
theorem dX10_span_113 : decode cX10_span 113 = .ok (.iload_n 3, 1) := by decide +kernel
theorem dX10_span_114 : decode cX10_span 114 = .ok (.iastore, 1) := by decide +kernel
theorem dX10_span_115 : decode cX10_span 115 = .ok (.aload_n 0, 1) := by decide +kernel
theorem dX10_span_116 : decode cX10_span 116 = .ok (.getfield 45, 3) := by decide +kernel
theorem dX10_span_119 : decode cX10_span 119 = .ok (.getfield 89, 3) := by decide +kernel
theorem dX10_span_122 : decode cX10_span 122 = .ok (.aload_n 0, 1) := by decide +kernel
theorem dX10_span_123 : decode cX10_span 123 = .ok (.getfield 63, 3) := by decide +kernel
theorem dX10_span_126 : decode cX10_span 126 = .ok (.iload 4, 2) := by decide +kernel
theorem dX10_span_128 : decode cX10_span 128 = .ok (.iastore, 1) := by decide +kernel
theorem dX10_span_129 : decode cX10_span 129 = .ok (.aload_n 0, 1) := by decide +kernel
theorem dX10_span_130 : decode cX10_span 130 = .ok (.dup, 1) := by decide +kernel
theorem dX10_span_131 : decode cX10_span 131 = .ok (.getfield 63, 3) := by decide +kernel
theorem dX10_span_134 : decode cX10_span 134 = .ok (.iconst 1, 1) := by decide +kernel
theorem dX10_span_135 : decode cX10_span 135 = .ok (.iadd, 1) := by decide +kernel
theorem dX10_span_136 : decode cX10_span 136 = .ok (.putfield 63, 3) := by decide +kernel
theorem dX10_span_139 : decode cX10_span 139 = .ok (.aload_n 0, 1) := by decide +kernel
theorem dX10_span_140 : decode cX10_span 140 = .ok (.getfield 63, 3) := by decide +kernel
theorem dX10_span_143 : decode cX10_span 143 = .ok (.iconst 1, 1) := by decide +kernel
theorem dX10_span_144 : decode cX10_span 144 = .ok (.isub, 1) := by decide +kernel
theorem dX10_span_145 : decode cX10_span 145 = .ok (.ireturn, 1) := by decide +kernel
theorem dX10_add_0 : decode cX10_add 0 = .ok (.aload_n 0, 1) := by decide +kernel
theorem dX10_add_1 : decode cX10_add 1 = .ok (.iconst 0, 1) := by decide +kernel
theorem dX10_add_2 : decode cX10_add 2 = .ok (.putfield 52, 3) := by decide +kernel
theorem dX10_add_5 : decode cX10_add 5 = .ok (.aload_n 0, 1) := by decide +kernel
theorem dX10_add_6 : decode cX10_add 6 = .ok (.iload_n 1, 1) := by decide +kernel
theorem dX10_add_7 : decode cX10_add 7 = .ok (.invokevirtual 92, 3) := by decide +kernel
theorem dX10_add_10 : decode cX10_add 10 = .ok (.ifCond .ne 9, 3) := by decide +kernel
theorem dX10_add_13 : decode cX10_add 13 = .ok (.aload_n 0, 1) := by decide +kernel
theorem dX10_add_14 : decode cX10_add 14 = .ok (.iconst 1, 1) := by decide +kernel
theorem dX10_add_15 : decode cX10_add 15 = .ok (.invokevirtual 82, 3) := by decide +kernel
theorem dX10_add_18 : decode cX10_add 18 = .ok (.ireturn, 1) := by decide +kernel
theorem dX10_add_19 : decode cX10_add 19 = .ok (.aload_n 0, 1) := by decide +kernel
theorem dX10_add_20 : decode cX10_add 20 = .ok (.getfield 45, 3) := by decide +kernel
theorem dX10_add_23 : decode cX10_add 23 = .ok (.getfield 89, 3) := by decide +kernel
theorem dX10_add_26 : decode cX10_add 26 = .ok (.iload_n 1, 1) := by decide +kernel
theorem dX10_add_27 : decode cX10_add 27 = .ok (.iaload, 1) := by decide +kernel
theorem dX10_add_28 : decode cX10_add 28 = .ok (.iconst 3, 1) := by decide +kernel
theorem dX10_add_29 : decode cX10_add 29 = .ok (.if_icmp .ne 9, 3) := by decide +kernel
theorem dX10_add_32 : decode cX10_add 32 = .ok (.aload_n 0, 1) := by decide +kernel
theorem dX10_add_33 : decode cX10_add 33 = .ok (.iconst 2, 1) := by decide +kernel
theorem dX10_add_34 : decode cX10_add 34 = .ok (.invokevirtual 82, 3) := by decide +kernel
theorem dX10_add_37 : decode cX10_add 37 = .ok (.ireturn, 1) := by decide +kernel
theorem dX10_add_38 : decode cX10_add 38 = .ok (.aload_n 0, 1) := by decide +kernel
theorem dX10_add_39 : decode cX10_add 39 = .ok (.getfield 45, 3) := by decide +kernel
theorem dX10_add_42 : decode cX10_add 42 = .ok (.getfield 89, 3) := by decide +kernel
theorem dX10_add_45 : decode cX10_add 45 = .ok (.iload_n 1, 1) := by decide +kernel
theorem dX10_add_46 : decode cX10_add 46 = .ok (.dup2, 1) := by decide +kernel
theorem dX10_add_47 : decode cX10_add 47 = .ok (.iaload, 1) := by decide +kernel
theorem dX10_add_48 : decode cX10_add 48 = .ok (.iconst 1, 1) := by decide +kernel
theorem dX10_add_49 : decode cX10_add 49 = .ok (.iadd, 1) := by decide +kernel
theorem dX10_add_50 : decode cX10_add 50 = .ok (.iastore, 1) := by decide +kernel
theorem dX10_add_51 : decode cX10_add 51 = .ok (.aload_n 0, 1) := by decide +kernel
theorem dX10_add_52 : decode cX10_add 52 = .ok (.getfield 45, 3) := by decide +kernel
theorem dX10_add_55 : decode cX10_add 55 = .ok (.getfield 89, 3) := by decide +kernel
theorem dX10_add_58 : decode cX10_add 58 = .ok (.iload_n 1, 1) := by decide +kernel
theorem dX10_add_59 : decode cX10_add 59 = .ok (.iaload, 1) := by decide +kernel
theorem dX10_add_60 : decode cX10_add 60 = .ok (.ireturn, 1) := by decide +kernel
theorem dX10_setWind_0 : decode cX10_setWind 0 = .ok (.aload_n 0, 1) := by decide +kernel
theorem dX10_setWind_1 : decode cX10_setWind 1 = .ok (.iconst 0, 1) := by decide +kernel
theorem dX10_setWind_2 : decode cX10_setWind 2 = .ok (.putfield 52, 3) := by decide +kernel
theorem dX10_setWind_5 : decode cX10_setWind 5 = .ok (.iload_n 1, 1) := by decide +kernel
theorem dX10_setWind_6 : decode cX10_setWind 6 = .ok (.iconst 0, 1) := by decide +kernel
theorem dX10_setWind_7 : decode cX10_setWind 7 = .ok (.bipush 11, 2) := by decide +kernel
theorem dX10_setWind_9 : decode cX10_setWind 9 = .ok (.invokestatic 59, 3) := by decide +kernel
theorem dX10_setWind_12 : decode cX10_setWind 12 = .ok (.ifCond .ne 9, 3) := by decide +kernel
theorem dX10_setWind_15 : decode cX10_setWind 15 = .ok (.aload_n 0, 1) := by decide +kernel
theorem dX10_setWind_16 : decode cX10_setWind 16 = .ok (.iconst 1, 1) := by decide +kernel
theorem dX10_setWind_17 : decode cX10_setWind 17 = .ok (.invokevirtual 82, 3) := by decide +kernel
theorem dX10_setWind_20 : decode cX10_setWind 20 = .ok (.ireturn, 1) := by decide +kernel
theorem dX10_setWind_21 : decode cX10_setWind 21 = .ok (.iload_n 2, 1) := by decide +kernel
theorem dX10_setWind_22 : decode cX10_setWind 22 = .ok (.iconst 0, 1) := by decide +kernel
theorem dX10_setWind_23 : decode cX10_setWind 23 = .ok (.bipush 9, 2) := by decide +kernel
theorem dX10_setWind_25 : decode cX10_setWind 25 = .ok (.invokestatic 59, 3) := by decide +kernel
theorem dX10_setWind_28 : decode cX10_setWind 28 = .ok (.ifCond .ne 9, 3) := by decide +kernel
theorem dX10_setWind_31 : decode cX10_setWind 31 = .ok (.aload_n 0, 1) := by decide +kernel
theorem dX10_setWind_32 : decode cX10_setWind 32 = .ok (.iconst 2, 1) := by decide +kernel
theorem dX10_setWind_33 : decode cX10_setWind 33 = .ok (.invokevirtual 82, 3) := by decide +kernel
theorem dX10_setWind_36 : decode cX10_setWind 36 = .ok (.ireturn, 1) := by decide +kernel
theorem dX10_setWind_37 : decode cX10_setWind 37 = .ok (.aload_n 0, 1) := by decide +kernel
theorem dX10_setWind_38 : decode cX10_setWind 38 = .ok (.getfield 28, 3) := by decide +kernel
theorem dX10_setWind_41 : decode cX10_setWind 41 = .ok (.iload_n 1, 1) := by decide +kernel
theorem dX10_setWind_42 : decode cX10_setWind 42 = .ok (.iaload, 1) := by decide +kernel
theorem dX10_setWind_43 : decode cX10_setWind 43 = .ok (.istore_n 3, 1) := by decide +kernel
theorem dX10_setWind_44 : decode cX10_setWind 44 = .ok (.aload_n 0, 1) := by decide +kernel
theorem dX10_setWind_45 : decode cX10_setWind 45 = .ok (.getfield 28, 3) := by decide +kernel
theorem dX10_setWind_48 : decode cX10_setWind 48 = .ok (.iload_n 1, 1) := by decide +kernel
theorem dX10_setWind_49 : decode cX10_setWind 49 = .ok (.iload_n 2, 1) := by decide +kernel
theorem dX10_setWind_50 : decode cX10_setWind 50 = .ok (.iastore, 1) := by decide +kernel
theorem dX10_setWind_51 : decode cX10_setWind 51 = .ok (.iload_n 3, 1) := by decide +kernel
theorem dX10_setWind_52 : decode cX10_setWind 52 = .ok (.ireturn, 1) := by decide +kernel
theorem dX10_platformTold_0 : decode cX10_platformTold 0 = .ok (.iconst 0, 1) := by decide +kernel
theorem dX10_platformTold_1 : decode cX10_platformTold 1 = .ok (.istore_n 3, 1) := by decide +kernel
theorem dX10_platformTold_2 : decode cX10_platformTold 2 = .ok (.iconst 0, 1) := by decide +kernel
theorem dX10_platformTold_3 : decode cX10_platformTold 3 = .ok (.istore 4, 2) := by decide +kernel
theorem dX10_platformTold_5 : decode cX10_platformTold 5 = .ok (.iconst 0, 1) := by decide +kernel
theorem dX10_platformTold_6 : decode cX10_platformTold 6 = .ok (.istore 5, 2) := by decide +kernel
theorem dX10_platformTold_8 : decode cX10_platformTold 8 = .ok (.iconst 0, 1) := by decide +kernel
theorem dX10_platformTold_9 : decode cX10_platformTold 9 = .ok (.istore 6, 2) := by decide +kernel
theorem dX10_platformTold_11 : decode cX10_platformTold 11 = .ok (.iload 6, 2) := by decide +kernel
theorem dX10_platformTold_13 : decode cX10_platformTold 13 = .ok (.aload_n 0, 1) := by decide +kernel
theorem dX10_platformTold_14 : decode cX10_platformTold 14 = .ok (.getfield 63, 3) := by decide +kernel
theorem dX10_platformTold_17 : decode cX10_platformTold 17 = .ok (.if_icmp .ge 49, 3) := by decide +kernel
theorem dX10_platformTold_20 : decode cX10_platformTold 20 = .ok (.iload_n 3, 1) := by decide +kernel
theorem dX10_platformTold_21 : decode cX10_platformTold 21 = .ok (.aload_n 0, 1) := by decide +kernel
theorem dX10_platformTold_22 : decode cX10_platformTold 22 = .ok (.getfield 19, 3) := by decide +kernel
theorem dX10_platformTold_25 : decode cX10_platformTold 25 = .ok (.iload 6, 2) := by decide +kernel
theorem dX10_platformTold_27 : decode cX10_platformTold 27 = .ok (.iaload, 1) := by decide +kernel
theorem dX10_platformTold_28 : decode cX10_platformTold 28 = .ok (.iload_n 1, 1) := by decide +kernel
theorem dX10_platformTold_29 : decode cX10_platformTold 29 = .ok (.if_icmp .ne 7, 3) := by decide +kernel
theorem dX10_platformTold_32 : decode cX10_platformTold 32 = .ok (.iconst 1, 1) := by decide +kernel
theorem dX10_platformTold_33 : decode cX10_platformTold 33 = .ok (.goto 4, 3) := by decide +kernel
theorem dX10_platformTold_36 : decode cX10_platformTold 36 = .ok (.iconst 0, 1) := by decide +kernel
theorem dX10_platformTold_37 : decode cX10_platformTold 37 = .ok (.iadd, 1) := by decide +kernel
theorem dX10_platformTold_38 : decode cX10_platformTold 38 = .ok (.istore_n 3, 1) := by decide +kernel
theorem dX10_platformTold_39 : decode cX10_platformTold 39 = .ok (.iload 4, 2) := by decide +kernel
theorem dX10_platformTold_41 : decode cX10_platformTold 41 = .ok (.aload_n 0, 1) := by decide +kernel
theorem dX10_platformTold_42 : decode cX10_platformTold 42 = .ok (.getfield 22, 3) := by decide +kernel
theorem dX10_platformTold_45 : decode cX10_platformTold 45 = .ok (.iload 6, 2) := by decide +kernel
theorem dX10_platformTold_47 : decode cX10_platformTold 47 = .ok (.iaload, 1) := by decide +kernel
theorem dX10_platformTold_48 : decode cX10_platformTold 48 = .ok (.iload_n 1, 1) := by decide +kernel
theorem dX10_platformTold_49 : decode cX10_platformTold 49 = .ok (.if_icmp .ne 7, 3) := by decide +kernel
theorem dX10_platformTold_52 : decode cX10_platformTold 52 = .ok (.iconst 1, 1) := by decide +kernel
theorem dX10_platformTold_53 : decode cX10_platformTold 53 = .ok (.goto 4, 3) := by decide +kernel
theorem dX10_platformTold_56 : decode cX10_platformTold 56 = .ok (.iconst 0, 1) := by decide +kernel
theorem dX10_platformTold_57 : decode cX10_platformTold 57 = .ok (.iadd, 1) := by decide +kernel
theorem dX10_platformTold_58 : decode cX10_platformTold 58 = .ok (.istore 4, 2) := by decide +kernel
theorem dX10_platformTold_60 : decode cX10_platformTold 60 = .ok (.iinc 6 1, 3) := by decide +kernel
theorem dX10_platformTold_63 : decode cX10_platformTold 63 = .ok (.goto (-52), 3) := by decide +kernel
theorem dX10_platformTold_66 : decode cX10_platformTold 66 = .ok (.iconst 0, 1) := by decide +kernel
theorem dX10_platformTold_67 : decode cX10_platformTold 67 = .ok (.istore 6, 2) := by decide +kernel
theorem dX10_platformTold_69 : decode cX10_platformTold 69 = .ok (.iload 6, 2) := by decide +kernel
theorem dX10_platformTold_71 : decode cX10_platformTold 71 = .ok (.aload_n 0, 1) := by decide +kernel
theorem dX10_platformTold_72 : decode cX10_platformTold 72 = .ok (.getfield 95, 3) := by decide +kernel
theorem dX10_platformTold_75 : decode cX10_platformTold 75 = .ok (.if_icmp .ge 44, 3) := by decide +kernel
theorem dX10_platformTold_78 : decode cX10_platformTold 78 = .ok (.iload 5, 2) := by decide +kernel
theorem dX10_platformTold_80 : decode cX10_platformTold 80 = .ok (.aload_n 0, 1) := by decide +kernel
theorem dX10_platformTold_81 : decode cX10_platformTold 81 = .ok (.getfield 45, 3) := by decide +kernel
theorem dX10_platformTold_84 : decode cX10_platformTold 84 = .ok (.getfield 98, 3) := by decide +kernel
theorem dX10_platformTold_87 : decode cX10_platformTold 87 = .ok (.iload 6, 2) := by decide +kernel
theorem dX10_platformTold_89 : decode cX10_platformTold 89 = .ok (.iaload, 1) := by decide +kernel
theorem dX10_platformTold_90 : decode cX10_platformTold 90 = .ok (.iconst 2, 1) := by decide +kernel
theorem dX10_platformTold_91 : decode cX10_platformTold 91 = .ok (.if_icmp .ne 18, 3) := by decide +kernel
theorem dX10_platformTold_94 : decode cX10_platformTold 94 = .ok (.aload_n 0, 1) := by decide +kernel
theorem dX10_platformTold_95 : decode cX10_platformTold 95 = .ok (.getfield 37, 3) := by decide +kernel
theorem dX10_platformTold_98 : decode cX10_platformTold 98 = .ok (.iload 6, 2) := by decide +kernel
theorem dX10_platformTold_100 : decode cX10_platformTold 100 = .ok (.iaload, 1) := by decide +kernel
theorem dX10_platformTold_101 : decode cX10_platformTold 101 = .ok (.iload_n 1, 1) := by decide +kernel
theorem dX10_platformTold_102 : decode cX10_platformTold 102 = .ok (.if_icmp .ne 7, 3) := by decide +kernel
theorem dX10_platformTold_105 : decode cX10_platformTold 105 = .ok (.iconst 1, 1) := by decide +kernel
theorem dX10_platformTold_106 : decode cX10_platformTold 106 = .ok (.goto 4, 3) := by decide +kernel
theorem dX10_platformTold_109 : decode cX10_platformTold 109 = .ok (.iconst 0, 1) := by decide +kernel
theorem dX10_platformTold_110 : decode cX10_platformTold 110 = .ok (.iadd, 1) := by decide +kernel
theorem dX10_platformTold_111 : decode cX10_platformTold 111 = .ok (.istore 5, 2) := by decide +kernel
theorem dX10_platformTold_113 : decode cX10_platformTold 113 = .ok (.iinc 6 1, 3) := by decide +kernel
theorem dX10_platformTold_116 : decode cX10_platformTold 116 = .ok (.goto (-47), 3) := by decide +kernel
theorem dX10_platformTold_119 : decode cX10_platformTold 119 = .ok (.bipush 8, 2) := by decide +kernel
theorem dX10_platformTold_121 : decode cX10_platformTold 121 = .ok (.newarray .int, 2) := by decide +kernel
theorem dX10_platformTold_123 : decode cX10_platformTold 123 = .ok (.dup, 1) := by decide +kernel
theorem dX10_platformTold_124 : decode cX10_platformTold 124 = .ok (.iconst 0, 1) := by decide +kernel
theorem dX10_platformTold_125 : decode cX10_platformTold 125 = .ok (.aload_n 0, 1) := by decide +kernel
theorem dX10_platformTold_126 : decode cX10_platformTold 126 = .ok (.getfield 9, 3) := by decide +kernel
theorem dX10_platformTold_129 : decode cX10_platformTold 129 = .ok (.iload_n 1, 1) := by decide +kernel
theorem dX10_platformTold_130 : decode cX10_platformTold 130 = .ok (.iaload, 1) := by decide +kernel
theorem dX10_platformTold_131 : decode cX10_platformTold 131 = .ok (.iastore, 1) := by decide +kernel
theorem dX10_platformTold_132 : decode cX10_platformTold 132 = .ok (.dup, 1) := by decide +kernel
theorem dX10_platformTold_133 : decode cX10_platformTold 133 = .ok (.iconst 1, 1) := by decide +kernel
theorem dX10_platformTold_134 : decode cX10_platformTold 134 = .ok (.aload_n 0, 1) := by decide +kernel
theorem dX10_platformTold_135 : decode cX10_platformTold 135 = .ok (.getfield 13, 3) := by decide +kernel
theorem dX10_platformTold_138 : decode cX10_platformTold 138 = .ok (.iload_n 1, 1) := by decide +kernel
theorem dX10_platformTold_139 : decode cX10_platformTold 139 = .ok (.iaload, 1) := by decide +kernel
theorem dX10_platformTold_140 : decode cX10_platformTold 140 = .ok (.iastore, 1) := by decide +kernel
theorem dX10_platformTold_141 : decode cX10_platformTold 141 = .ok (.dup, 1) := by decide +kernel
theorem dX10_platformTold_142 : decode cX10_platformTold 142 = .ok (.iconst 2, 1) := by decide +kernel
theorem dX10_platformTold_143 : decode cX10_platformTold 143 = .ok (.aload_n 0, 1) := by decide +kernel
theorem dX10_platformTold_144 : decode cX10_platformTold 144 = .ok (.getfield 16, 3) := by decide +kernel
theorem dX10_platformTold_147 : decode cX10_platformTold 147 = .ok (.iload_n 1, 1) := by decide +kernel
theorem dX10_platformTold_148 : decode cX10_platformTold 148 = .ok (.iaload, 1) := by decide +kernel
theorem dX10_platformTold_149 : decode cX10_platformTold 149 = .ok (.iastore, 1) := by decide +kernel
theorem dX10_platformTold_150 : decode cX10_platformTold 150 = .ok (.dup, 1) := by decide +kernel
theorem dX10_platformTold_151 : decode cX10_platformTold 151 = .ok (.iconst 3, 1) := by decide +kernel
theorem dX10_platformTold_152 : decode cX10_platformTold 152 = .ok (.aload_n 0, 1) := by decide +kernel
theorem dX10_platformTold_153 : decode cX10_platformTold 153 = .ok (.getfield 45, 3) := by decide +kernel
theorem dX10_platformTold_156 : decode cX10_platformTold 156 = .ok (.getfield 101, 3) := by decide +kernel
theorem dX10_platformTold_159 : decode cX10_platformTold 159 = .ok (.iload_n 1, 1) := by decide +kernel
theorem dX10_platformTold_160 : decode cX10_platformTold 160 = .ok (.iaload, 1) := by decide +kernel
theorem dX10_platformTold_161 : decode cX10_platformTold 161 = .ok (.iastore, 1) := by decide +kernel
theorem dX10_platformTold_162 : decode cX10_platformTold 162 = .ok (.dup, 1) := by decide +kernel
theorem dX10_platformTold_163 : decode cX10_platformTold 163 = .ok (.iconst 4, 1) := by decide +kernel
theorem dX10_platformTold_164 : decode cX10_platformTold 164 = .ok (.aload_n 0, 1) := by decide +kernel
theorem dX10_platformTold_165 : decode cX10_platformTold 165 = .ok (.getfield 45, 3) := by decide +kernel
theorem dX10_platformTold_168 : decode cX10_platformTold 168 = .ok (.getfield 101, 3) := by decide +kernel
theorem dX10_platformTold_171 : decode cX10_platformTold 171 = .ok (.iload_n 1, 1) := by decide +kernel
theorem dX10_platformTold_172 : decode cX10_platformTold 172 = .ok (.iaload, 1) := by decide +kernel
theorem dX10_platformTold_173 : decode cX10_platformTold 173 = .ok (.ifCond .ne 7, 3) := by decide +kernel
theorem dX10_platformTold_176 : decode cX10_platformTold 176 = .ok (.iconst (-1), 1) := by decide +kernel
theorem dX10_platformTold_177 : decode cX10_platformTold 177 = .ok (.goto 15, 3) := by decide +kernel
theorem dX10_platformTold_180 : decode cX10_platformTold 180 = .ok (.aload_n 0, 1) := by decide +kernel
theorem dX10_platformTold_181 : decode cX10_platformTold 181 = .ok (.getfield 45, 3) := by decide +kernel
theorem dX10_platformTold_184 : decode cX10_platformTold 184 = .ok (.getfield 104, 3) := by decide +kernel
theorem dX10_platformTold_187 : decode cX10_platformTold 187 = .ok (.bipush 12, 2) := by decide +kernel
theorem dX10_platformTold_189 : decode cX10_platformTold 189 = .ok (.iload_n 1, 1) := by decide +kernel
theorem dX10_platformTold_190 : decode cX10_platformTold 190 = .ok (.imul, 1) := by decide +kernel
theorem dX10_platformTold_191 : decode cX10_platformTold 191 = .ok (.iaload, 1) := by decide +kernel
theorem dX10_platformTold_192 : decode cX10_platformTold 192 = .ok (.iastore, 1) := by decide +kernel
theorem dX10_platformTold_193 : decode cX10_platformTold 193 = .ok (.dup, 1) := by decide +kernel
theorem dX10_platformTold_194 : decode cX10_platformTold 194 = .ok (.iconst 5, 1) := by decide +kernel
theorem dX10_platformTold_195 : decode cX10_platformTold 195 = .ok (.iload_n 3, 1) := by decide +kernel
theorem dX10_platformTold_196 : decode cX10_platformTold 196 = .ok (.iastore, 1) := by decide +kernel
theorem dX10_platformTold_197 : decode cX10_platformTold 197 = .ok (.dup, 1) := by decide +kernel
theorem dX10_platformTold_198 : decode cX10_platformTold 198 = .ok (.bipush 6, 2) := by decide +kernel
theorem dX10_platformTold_200 : decode cX10_platformTold 200 = .ok (.iload 4, 2) := by decide +kernel
theorem dX10_platformTold_202 : decode cX10_platformTold 202 = .ok (.iastore, 1) := by decide +kernel
theorem dX10_platformTold_203 : decode cX10_platformTold 203 = .ok (.dup, 1) := by decide +kernel
theorem dX10_platformTold_204 : decode cX10_platformTold 204 = .ok (.bipush 7, 2) := by decide +kernel
theorem dX10_platformTold_206 : decode cX10_platformTold 206 = .ok (.iload 5, 2) := by decide +kernel
theorem dX10_platformTold_208 : decode cX10_platformTold 208 = .ok (.iastore, 1) := by decide +kernel
theorem dX10_platformTold_209 : decode cX10_platformTold 209 = .ok (.astore 6, 2) := by decide +kernel
theorem dX10_platformTold_211 : decode cX10_platformTold 211 = .ok (.aload 6, 2) := by decide +kernel
theorem dX10_platformTold_213 : decode cX10_platformTold 213 = .ok (.iload_n 2, 1) := by decide +kernel
theorem dX10_platformTold_214 : decode cX10_platformTold 214 = .ok (.iaload, 1) := by decide +kernel
theorem dX10_platformTold_215 : decode cX10_platformTold 215 = .ok (.ireturn, 1) := by decide +kernel
theorem dX10_platform_0 : decode cX10_platform 0 = .ok (.aload_n 0, 1) := by decide +kernel
theorem dX10_platform_1 : decode cX10_platform 1 = .ok (.iconst 0, 1) := by decide +kernel
theorem dX10_platform_2 : decode cX10_platform 2 = .ok (.putfield 52, 3) := by decide +kernel
theorem dX10_platform_5 : decode cX10_platform 5 = .ok (.aload_n 0, 1) := by decide +kernel
theorem dX10_platform_6 : decode cX10_platform 6 = .ok (.iload_n 1, 1) := by decide +kernel
theorem dX10_platform_7 : decode cX10_platform 7 = .ok (.invokevirtual 85, 3) := by decide +kernel
theorem dX10_platform_10 : decode cX10_platform 10 = .ok (.ifCond .eq 22, 3) := by decide +kernel
theorem dX10_platform_13 : decode cX10_platform 13 = .ok (.iload_n 2, 1) := by decide +kernel
theorem dX10_platform_14 : decode cX10_platform 14 = .ok (.iconst 0, 1) := by decide +kernel
theorem dX10_platform_15 : decode cX10_platform 15 = .ok (.bipush 7, 2) := by decide +kernel
theorem dX10_platform_17 : decode cX10_platform 17 = .ok (.invokestatic 59, 3) := by decide +kernel
theorem dX10_platform_20 : decode cX10_platform 20 = .ok (.ifCond .eq 12, 3) := by decide +kernel
theorem dX10_platform_23 : decode cX10_platform 23 = .ok (.aload_n 0, 1) := by decide +kernel
theorem dX10_platform_24 : decode cX10_platform 24 = .ok (.iload_n 1, 1) := by decide +kernel
theorem dX10_platform_25 : decode cX10_platform 25 = .ok (.iload_n 2, 1) := by decide +kernel
theorem dX10_platform_26 : decode cX10_platform 26 = .ok (.invokevirtual 107, 3) := by decide +kernel
theorem dX10_platform_29 : decode cX10_platform 29 = .ok (.goto 8, 3) := by decide +kernel
theorem dX10_platform_32 : decode cX10_platform 32 = .ok (.aload_n 0, 1) := by decide +kernel
theorem dX10_platform_33 : decode cX10_platform 33 = .ok (.iconst 1, 1) := by decide +kernel
theorem dX10_platform_34 : decode cX10_platform 34 = .ok (.invokevirtual 82, 3) := by decide +kernel
theorem dX10_platform_37 : decode cX10_platform 37 = .ok (.ireturn, 1) := by decide +kernel
theorem dX10_lineTold_0 : decode cX10_lineTold 0 = .ok (.bipush 11, 2) := by decide +kernel
theorem dX10_lineTold_2 : decode cX10_lineTold 2 = .ok (.newarray .int, 2) := by decide +kernel
theorem dX10_lineTold_4 : decode cX10_lineTold 4 = .ok (.dup, 1) := by decide +kernel
theorem dX10_lineTold_5 : decode cX10_lineTold 5 = .ok (.iconst 0, 1) := by decide +kernel
theorem dX10_lineTold_6 : decode cX10_lineTold 6 = .ok (.aload_n 0, 1) := by decide +kernel
theorem dX10_lineTold_7 : decode cX10_lineTold 7 = .ok (.getfield 19, 3) := by decide +kernel
theorem dX10_lineTold_10 : decode cX10_lineTold 10 = .ok (.iload_n 1, 1) := by decide +kernel
theorem dX10_lineTold_11 : decode cX10_lineTold 11 = .ok (.iaload, 1) := by decide +kernel
theorem dX10_lineTold_12 : decode cX10_lineTold 12 = .ok (.iastore, 1) := by decide +kernel
theorem dX10_lineTold_13 : decode cX10_lineTold 13 = .ok (.dup, 1) := by decide +kernel
theorem dX10_lineTold_14 : decode cX10_lineTold 14 = .ok (.iconst 1, 1) := by decide +kernel
theorem dX10_lineTold_15 : decode cX10_lineTold 15 = .ok (.aload_n 0, 1) := by decide +kernel
theorem dX10_lineTold_16 : decode cX10_lineTold 16 = .ok (.getfield 22, 3) := by decide +kernel
theorem dX10_lineTold_19 : decode cX10_lineTold 19 = .ok (.iload_n 1, 1) := by decide +kernel
theorem dX10_lineTold_20 : decode cX10_lineTold 20 = .ok (.iaload, 1) := by decide +kernel
theorem dX10_lineTold_21 : decode cX10_lineTold 21 = .ok (.iastore, 1) := by decide +kernel
theorem dX10_lineTold_22 : decode cX10_lineTold 22 = .ok (.dup, 1) := by decide +kernel
theorem dX10_lineTold_23 : decode cX10_lineTold 23 = .ok (.iconst 2, 1) := by decide +kernel
theorem dX10_lineTold_24 : decode cX10_lineTold 24 = .ok (.aload_n 0, 1) := by decide +kernel
theorem dX10_lineTold_25 : decode cX10_lineTold 25 = .ok (.getfield 25, 3) := by decide +kernel
theorem dX10_lineTold_28 : decode cX10_lineTold 28 = .ok (.iload_n 1, 1) := by decide +kernel
theorem dX10_lineTold_29 : decode cX10_lineTold 29 = .ok (.iaload, 1) := by decide +kernel
theorem dX10_lineTold_30 : decode cX10_lineTold 30 = .ok (.iastore, 1) := by decide +kernel
theorem dX10_lineTold_31 : decode cX10_lineTold 31 = .ok (.dup, 1) := by decide +kernel
theorem dX10_lineTold_32 : decode cX10_lineTold 32 = .ok (.iconst 3, 1) := by decide +kernel
theorem dX10_lineTold_33 : decode cX10_lineTold 33 = .ok (.aload_n 0, 1) := by decide +kernel
theorem dX10_lineTold_34 : decode cX10_lineTold 34 = .ok (.iload_n 1, 1) := by decide +kernel
theorem dX10_lineTold_35 : decode cX10_lineTold 35 = .ok (.invokevirtual 72, 3) := by decide +kernel
theorem dX10_lineTold_38 : decode cX10_lineTold 38 = .ok (.iastore, 1) := by decide +kernel
theorem dX10_lineTold_39 : decode cX10_lineTold 39 = .ok (.dup, 1) := by decide +kernel
theorem dX10_lineTold_40 : decode cX10_lineTold 40 = .ok (.iconst 4, 1) := by decide +kernel
theorem dX10_lineTold_41 : decode cX10_lineTold 41 = .ok (.aload_n 0, 1) := by decide +kernel
theorem dX10_lineTold_42 : decode cX10_lineTold 42 = .ok (.iload_n 1, 1) := by decide +kernel
theorem dX10_lineTold_43 : decode cX10_lineTold 43 = .ok (.invokevirtual 75, 3) := by decide +kernel
theorem dX10_lineTold_46 : decode cX10_lineTold 46 = .ok (.iastore, 1) := by decide +kernel
theorem dX10_lineTold_47 : decode cX10_lineTold 47 = .ok (.dup, 1) := by decide +kernel
theorem dX10_lineTold_48 : decode cX10_lineTold 48 = .ok (.iconst 5, 1) := by decide +kernel
theorem dX10_lineTold_49 : decode cX10_lineTold 49 = .ok (.aload_n 0, 1) := by decide +kernel
theorem dX10_lineTold_50 : decode cX10_lineTold 50 = .ok (.getfield 45, 3) := by decide +kernel
theorem dX10_lineTold_53 : decode cX10_lineTold 53 = .ok (.getfield 89, 3) := by decide +kernel
theorem dX10_lineTold_56 : decode cX10_lineTold 56 = .ok (.iload_n 1, 1) := by decide +kernel
theorem dX10_lineTold_57 : decode cX10_lineTold 57 = .ok (.iaload, 1) := by decide +kernel
theorem dX10_lineTold_58 : decode cX10_lineTold 58 = .ok (.iastore, 1) := by decide +kernel
theorem dX10_lineTold_59 : decode cX10_lineTold 59 = .ok (.dup, 1) := by decide +kernel
theorem dX10_lineTold_60 : decode cX10_lineTold 60 = .ok (.bipush 6, 2) := by decide +kernel
theorem dX10_lineTold_62 : decode cX10_lineTold 62 = .ok (.aload_n 0, 1) := by decide +kernel
theorem dX10_lineTold_63 : decode cX10_lineTold 63 = .ok (.getfield 45, 3) := by decide +kernel
theorem dX10_lineTold_66 : decode cX10_lineTold 66 = .ok (.getfield 89, 3) := by decide +kernel
theorem dX10_lineTold_69 : decode cX10_lineTold 69 = .ok (.iload_n 1, 1) := by decide +kernel
theorem dX10_lineTold_70 : decode cX10_lineTold 70 = .ok (.iaload, 1) := by decide +kernel
theorem dX10_lineTold_71 : decode cX10_lineTold 71 = .ok (.aload_n 0, 1) := by decide +kernel
theorem dX10_lineTold_72 : decode cX10_lineTold 72 = .ok (.getfield 45, 3) := by decide +kernel
theorem dX10_lineTold_75 : decode cX10_lineTold 75 = .ok (.getfield 111, 3) := by decide +kernel
theorem dX10_lineTold_78 : decode cX10_lineTold 78 = .ok (.iload_n 1, 1) := by decide +kernel
theorem dX10_lineTold_79 : decode cX10_lineTold 79 = .ok (.iaload, 1) := by decide +kernel
theorem dX10_lineTold_80 : decode cX10_lineTold 80 = .ok (.isub, 1) := by decide +kernel
theorem dX10_lineTold_81 : decode cX10_lineTold 81 = .ok (.iastore, 1) := by decide +kernel
theorem dX10_lineTold_82 : decode cX10_lineTold 82 = .ok (.dup, 1) := by decide +kernel
theorem dX10_lineTold_83 : decode cX10_lineTold 83 = .ok (.bipush 7, 2) := by decide +kernel
theorem dX10_lineTold_85 : decode cX10_lineTold 85 = .ok (.aload_n 0, 1) := by decide +kernel
theorem dX10_lineTold_86 : decode cX10_lineTold 86 = .ok (.getfield 45, 3) := by decide +kernel
theorem dX10_lineTold_89 : decode cX10_lineTold 89 = .ok (.iload_n 1, 1) := by decide +kernel
theorem dX10_lineTold_90 : decode cX10_lineTold 90 = .ok (.invokevirtual 114, 3) := by decide +kernel
theorem dX10_lineTold_93 : decode cX10_lineTold 93 = .ok (.iastore, 1) := by decide +kernel
theorem dX10_lineTold_94 : decode cX10_lineTold 94 = .ok (.dup, 1) := by decide +kernel
theorem dX10_lineTold_95 : decode cX10_lineTold 95 = .ok (.bipush 8, 2) := by decide +kernel
theorem dX10_lineTold_97 : decode cX10_lineTold 97 = .ok (.aload_n 0, 1) := by decide +kernel
theorem dX10_lineTold_98 : decode cX10_lineTold 98 = .ok (.getfield 45, 3) := by decide +kernel
theorem dX10_lineTold_101 : decode cX10_lineTold 101 = .ok (.getfield 117, 3) := by decide +kernel
theorem dX10_lineTold_104 : decode cX10_lineTold 104 = .ok (.iload_n 1, 1) := by decide +kernel
theorem dX10_lineTold_105 : decode cX10_lineTold 105 = .ok (.iaload, 1) := by decide +kernel
theorem dX10_lineTold_106 : decode cX10_lineTold 106 = .ok (.iastore, 1) := by decide +kernel
theorem dX10_lineTold_107 : decode cX10_lineTold 107 = .ok (.dup, 1) := by decide +kernel
theorem dX10_lineTold_108 : decode cX10_lineTold 108 = .ok (.bipush 9, 2) := by decide +kernel
theorem dX10_lineTold_110 : decode cX10_lineTold 110 = .ok (.aload_n 0, 1) := by decide +kernel
theorem dX10_lineTold_111 : decode cX10_lineTold 111 = .ok (.getfield 45, 3) := by decide +kernel
theorem dX10_lineTold_114 : decode cX10_lineTold 114 = .ok (.getfield 120, 3) := by decide +kernel
theorem dX10_lineTold_117 : decode cX10_lineTold 117 = .ok (.iload_n 1, 1) := by decide +kernel
theorem dX10_lineTold_118 : decode cX10_lineTold 118 = .ok (.iaload, 1) := by decide +kernel
theorem dX10_lineTold_119 : decode cX10_lineTold 119 = .ok (.iastore, 1) := by decide +kernel
theorem dX10_lineTold_120 : decode cX10_lineTold 120 = .ok (.dup, 1) := by decide +kernel
theorem dX10_lineTold_121 : decode cX10_lineTold 121 = .ok (.bipush 10, 2) := by decide +kernel
theorem dX10_lineTold_123 : decode cX10_lineTold 123 = .ok (.aload_n 0, 1) := by decide +kernel
theorem dX10_lineTold_124 : decode cX10_lineTold 124 = .ok (.iload_n 1, 1) := by decide +kernel
theorem dX10_lineTold_125 : decode cX10_lineTold 125 = .ok (.aload_n 0, 1) := by decide +kernel
theorem dX10_lineTold_126 : decode cX10_lineTold 126 = .ok (.getfield 45, 3) := by decide +kernel
theorem dX10_lineTold_129 : decode cX10_lineTold 129 = .ok (.getfield 123, 3) := by decide +kernel
theorem dX10_lineTold_132 : decode cX10_lineTold 132 = .ok (.invokevirtual 126, 3) := by decide +kernel
theorem dX10_lineTold_135 : decode cX10_lineTold 135 = .ok (.ifCond .eq 7, 3) := by decide +kernel
theorem dX10_lineTold_138 : decode cX10_lineTold 138 = .ok (.iconst 1, 1) := by decide +kernel
theorem dX10_lineTold_139 : decode cX10_lineTold 139 = .ok (.goto 4, 3) := by decide +kernel
theorem dX10_lineTold_142 : decode cX10_lineTold 142 = .ok (.iconst 0, 1) := by decide +kernel
theorem dX10_lineTold_143 : decode cX10_lineTold 143 = .ok (.iastore, 1) := by decide +kernel
theorem dX10_lineTold_144 : decode cX10_lineTold 144 = .ok (.astore_n 3, 1) := by decide +kernel
theorem dX10_lineTold_145 : decode cX10_lineTold 145 = .ok (.aload_n 3, 1) := by decide +kernel
theorem dX10_lineTold_146 : decode cX10_lineTold 146 = .ok (.iload_n 2, 1) := by decide +kernel
theorem dX10_lineTold_147 : decode cX10_lineTold 147 = .ok (.iaload, 1) := by decide +kernel
theorem dX10_lineTold_148 : decode cX10_lineTold 148 = .ok (.ireturn, 1) := by decide +kernel
theorem dX10_line_0 : decode cX10_line 0 = .ok (.aload_n 0, 1) := by decide +kernel
theorem dX10_line_1 : decode cX10_line 1 = .ok (.iconst 0, 1) := by decide +kernel
theorem dX10_line_2 : decode cX10_line 2 = .ok (.putfield 52, 3) := by decide +kernel
theorem dX10_line_5 : decode cX10_line 5 = .ok (.aload_n 0, 1) := by decide +kernel
theorem dX10_line_6 : decode cX10_line 6 = .ok (.iload_n 1, 1) := by decide +kernel
theorem dX10_line_7 : decode cX10_line 7 = .ok (.invokevirtual 92, 3) := by decide +kernel
theorem dX10_line_10 : decode cX10_line 10 = .ok (.ifCond .eq 22, 3) := by decide +kernel
theorem dX10_line_13 : decode cX10_line 13 = .ok (.iload_n 2, 1) := by decide +kernel
theorem dX10_line_14 : decode cX10_line 14 = .ok (.iconst 0, 1) := by decide +kernel
theorem dX10_line_15 : decode cX10_line 15 = .ok (.bipush 10, 2) := by decide +kernel
theorem dX10_line_17 : decode cX10_line 17 = .ok (.invokestatic 59, 3) := by decide +kernel
theorem dX10_line_20 : decode cX10_line 20 = .ok (.ifCond .eq 12, 3) := by decide +kernel
theorem dX10_line_23 : decode cX10_line 23 = .ok (.aload_n 0, 1) := by decide +kernel
theorem dX10_line_24 : decode cX10_line 24 = .ok (.iload_n 1, 1) := by decide +kernel
theorem dX10_line_25 : decode cX10_line 25 = .ok (.iload_n 2, 1) := by decide +kernel
theorem dX10_line_26 : decode cX10_line 26 = .ok (.invokevirtual 130, 3) := by decide +kernel
theorem dX10_line_29 : decode cX10_line 29 = .ok (.goto 8, 3) := by decide +kernel
theorem dX10_line_32 : decode cX10_line 32 = .ok (.aload_n 0, 1) := by decide +kernel
theorem dX10_line_33 : decode cX10_line 33 = .ok (.iconst 1, 1) := by decide +kernel
theorem dX10_line_34 : decode cX10_line 34 = .ok (.invokevirtual 82, 3) := by decide +kernel
theorem dX10_line_37 : decode cX10_line 37 = .ok (.ireturn, 1) := by decide +kernel
theorem dX10_ride_0 : decode cX10_ride 0 = .ok (.aload_n 0, 1) := by decide +kernel
theorem dX10_ride_1 : decode cX10_ride 1 = .ok (.iconst 0, 1) := by decide +kernel
theorem dX10_ride_2 : decode cX10_ride 2 = .ok (.putfield 52, 3) := by decide +kernel
theorem dX10_ride_5 : decode cX10_ride 5 = .ok (.aload_n 0, 1) := by decide +kernel
theorem dX10_ride_6 : decode cX10_ride 6 = .ok (.iload_n 1, 1) := by decide +kernel
theorem dX10_ride_7 : decode cX10_ride 7 = .ok (.invokevirtual 92, 3) := by decide +kernel
theorem dX10_ride_10 : decode cX10_ride 10 = .ok (.ifCond .ne 9, 3) := by decide +kernel
theorem dX10_ride_13 : decode cX10_ride 13 = .ok (.aload_n 0, 1) := by decide +kernel
theorem dX10_ride_14 : decode cX10_ride 14 = .ok (.iconst 1, 1) := by decide +kernel
theorem dX10_ride_15 : decode cX10_ride 15 = .ok (.invokevirtual 82, 3) := by decide +kernel
theorem dX10_ride_18 : decode cX10_ride 18 = .ok (.ireturn, 1) := by decide +kernel
theorem dX10_ride_19 : decode cX10_ride 19 = .ok (.iload_n 2, 1) := by decide +kernel
theorem dX10_ride_20 : decode cX10_ride 20 = .ok (.bipush 20, 2) := by decide +kernel
theorem dX10_ride_22 : decode cX10_ride 22 = .ok (.bipush 120, 2) := by decide +kernel
theorem dX10_ride_24 : decode cX10_ride 24 = .ok (.invokestatic 59, 3) := by decide +kernel
theorem dX10_ride_27 : decode cX10_ride 27 = .ok (.ifCond .ne 9, 3) := by decide +kernel
theorem dX10_ride_30 : decode cX10_ride 30 = .ok (.aload_n 0, 1) := by decide +kernel
theorem dX10_ride_31 : decode cX10_ride 31 = .ok (.iconst 2, 1) := by decide +kernel
theorem dX10_ride_32 : decode cX10_ride 32 = .ok (.invokevirtual 82, 3) := by decide +kernel
theorem dX10_ride_35 : decode cX10_ride 35 = .ok (.ireturn, 1) := by decide +kernel
theorem dX10_ride_36 : decode cX10_ride 36 = .ok (.aload_n 0, 1) := by decide +kernel
theorem dX10_ride_37 : decode cX10_ride 37 = .ok (.getfield 25, 3) := by decide +kernel
theorem dX10_ride_40 : decode cX10_ride 40 = .ok (.iload_n 1, 1) := by decide +kernel
theorem dX10_ride_41 : decode cX10_ride 41 = .ok (.iaload, 1) := by decide +kernel
theorem dX10_ride_42 : decode cX10_ride 42 = .ok (.iload_n 2, 1) := by decide +kernel
theorem dX10_ride_43 : decode cX10_ride 43 = .ok (.if_icmp .ge 7, 3) := by decide +kernel
theorem dX10_ride_46 : decode cX10_ride 46 = .ok (.iconst 0, 1) := by decide +kernel
theorem dX10_ride_47 : decode cX10_ride 47 = .ok (.goto 9, 3) := by decide +kernel
theorem dX10_ride_50 : decode cX10_ride 50 = .ok (.aload_n 0, 1) := by decide +kernel
theorem dX10_ride_51 : decode cX10_ride 51 = .ok (.iload_n 1, 1) := by decide +kernel
theorem dX10_ride_52 : decode cX10_ride 52 = .ok (.iload_n 2, 1) := by decide +kernel
theorem dX10_ride_53 : decode cX10_ride 53 = .ok (.invokevirtual 133, 3) := by decide +kernel
theorem dX10_ride_56 : decode cX10_ride 56 = .ok (.ireturn, 1) := by decide +kernel
theorem dX10_come_0 : decode cX10_come 0 = .ok (.aload_n 0, 1) := by decide +kernel
theorem dX10_come_1 : decode cX10_come 1 = .ok (.iconst 0, 1) := by decide +kernel
theorem dX10_come_2 : decode cX10_come 2 = .ok (.putfield 52, 3) := by decide +kernel
theorem dX10_come_5 : decode cX10_come 5 = .ok (.aload_n 0, 1) := by decide +kernel
theorem dX10_come_6 : decode cX10_come 6 = .ok (.iload_n 1, 1) := by decide +kernel
theorem dX10_come_7 : decode cX10_come 7 = .ok (.invokevirtual 85, 3) := by decide +kernel
theorem dX10_come_10 : decode cX10_come 10 = .ok (.ifCond .eq 11, 3) := by decide +kernel
theorem dX10_come_13 : decode cX10_come 13 = .ok (.aload_n 0, 1) := by decide +kernel
theorem dX10_come_14 : decode cX10_come 14 = .ok (.iload_n 2, 1) := by decide +kernel
theorem dX10_come_15 : decode cX10_come 15 = .ok (.invokevirtual 85, 3) := by decide +kernel
theorem dX10_come_18 : decode cX10_come 18 = .ok (.ifCond .ne 9, 3) := by decide +kernel
theorem dX10_come_21 : decode cX10_come 21 = .ok (.aload_n 0, 1) := by decide +kernel
theorem dX10_come_22 : decode cX10_come 22 = .ok (.iconst 1, 1) := by decide +kernel
theorem dX10_come_23 : decode cX10_come 23 = .ok (.invokevirtual 82, 3) := by decide +kernel
theorem dX10_come_26 : decode cX10_come 26 = .ok (.ireturn, 1) := by decide +kernel
theorem dX10_come_27 : decode cX10_come 27 = .ok (.iload_n 3, 1) := by decide +kernel
theorem dX10_come_28 : decode cX10_come 28 = .ok (.bipush 20, 2) := by decide +kernel
theorem dX10_come_30 : decode cX10_come 30 = .ok (.bipush 120, 2) := by decide +kernel
theorem dX10_come_32 : decode cX10_come 32 = .ok (.invokestatic 59, 3) := by decide +kernel
theorem dX10_come_35 : decode cX10_come 35 = .ok (.ifCond .eq 14, 3) := by decide +kernel
theorem dX10_come_38 : decode cX10_come 38 = .ok (.iload 4, 2) := by decide +kernel
theorem dX10_come_40 : decode cX10_come 40 = .ok (.iconst 1, 1) := by decide +kernel
theorem dX10_come_41 : decode cX10_come 41 = .ok (.bipush 60, 2) := by decide +kernel
theorem dX10_come_43 : decode cX10_come 43 = .ok (.invokestatic 59, 3) := by decide +kernel
theorem dX10_come_46 : decode cX10_come 46 = .ok (.ifCond .ne 9, 3) := by decide +kernel
theorem dX10_come_49 : decode cX10_come 49 = .ok (.aload_n 0, 1) := by decide +kernel
theorem dX10_come_50 : decode cX10_come 50 = .ok (.iconst 2, 1) := by decide +kernel
theorem dX10_come_51 : decode cX10_come 51 = .ok (.invokevirtual 82, 3) := by decide +kernel
theorem dX10_come_54 : decode cX10_come 54 = .ok (.ireturn, 1) := by decide +kernel
theorem dX10_come_55 : decode cX10_come 55 = .ok (.aload_n 0, 1) := by decide +kernel
theorem dX10_come_56 : decode cX10_come 56 = .ok (.getfield 95, 3) := by decide +kernel
theorem dX10_come_59 : decode cX10_come 59 = .ok (.bipush 12, 2) := by decide +kernel
theorem dX10_come_61 : decode cX10_come 61 = .ok (.if_icmp .ne 9, 3) := by decide +kernel
theorem dX10_come_64 : decode cX10_come 64 = .ok (.aload_n 0, 1) := by decide +kernel
theorem dX10_come_65 : decode cX10_come 65 = .ok (.iconst 3, 1) := by decide +kernel
theorem dX10_come_66 : decode cX10_come 66 = .ok (.invokevirtual 82, 3) := by decide +kernel
theorem dX10_come_69 : decode cX10_come 69 = .ok (.ireturn, 1) := by decide +kernel
theorem dX10_come_70 : decode cX10_come 70 = .ok (.aload_n 0, 1) := by decide +kernel
theorem dX10_come_71 : decode cX10_come 71 = .ok (.getfield 31, 3) := by decide +kernel
theorem dX10_come_74 : decode cX10_come 74 = .ok (.aload_n 0, 1) := by decide +kernel
theorem dX10_come_75 : decode cX10_come 75 = .ok (.getfield 95, 3) := by decide +kernel
theorem dX10_come_78 : decode cX10_come 78 = .ok (.iload_n 3, 1) := by decide +kernel
theorem dX10_come_79 : decode cX10_come 79 = .ok (.iastore, 1) := by decide +kernel
theorem dX10_come_80 : decode cX10_come 80 = .ok (.aload_n 0, 1) := by decide +kernel
theorem dX10_come_81 : decode cX10_come 81 = .ok (.getfield 34, 3) := by decide +kernel
theorem dX10_come_84 : decode cX10_come 84 = .ok (.aload_n 0, 1) := by decide +kernel
theorem dX10_come_85 : decode cX10_come 85 = .ok (.getfield 95, 3) := by decide +kernel
theorem dX10_come_88 : decode cX10_come 88 = .ok (.iload 4, 2) := by decide +kernel
theorem dX10_come_90 : decode cX10_come 90 = .ok (.iastore, 1) := by decide +kernel
theorem dX10_come_91 : decode cX10_come 91 = .ok (.aload_n 0, 1) := by decide +kernel
theorem dX10_come_92 : decode cX10_come 92 = .ok (.getfield 37, 3) := by decide +kernel
theorem dX10_come_95 : decode cX10_come 95 = .ok (.aload_n 0, 1) := by decide +kernel
theorem dX10_come_96 : decode cX10_come 96 = .ok (.getfield 95, 3) := by decide +kernel
theorem dX10_come_99 : decode cX10_come 99 = .ok (.iload_n 2, 1) := by decide +kernel
theorem dX10_come_100 : decode cX10_come 100 = .ok (.iastore, 1) := by decide +kernel
theorem dX10_come_101 : decode cX10_come 101 = .ok (.aload_n 0, 1) := by decide +kernel
theorem dX10_come_102 : decode cX10_come 102 = .ok (.getfield 45, 3) := by decide +kernel
theorem dX10_come_105 : decode cX10_come 105 = .ok (.getfield 136, 3) := by decide +kernel
theorem dX10_come_108 : decode cX10_come 108 = .ok (.aload_n 0, 1) := by decide +kernel
theorem dX10_come_109 : decode cX10_come 109 = .ok (.getfield 95, 3) := by decide +kernel
theorem dX10_come_112 : decode cX10_come 112 = .ok (.iconst (-1), 1) := by decide +kernel
theorem dX10_come_113 : decode cX10_come 113 = .ok (.iastore, 1) := by decide +kernel
theorem dX10_come_114 : decode cX10_come 114 = .ok (.aload_n 0, 1) := by decide +kernel
theorem dX10_come_115 : decode cX10_come 115 = .ok (.dup, 1) := by decide +kernel
theorem dX10_come_116 : decode cX10_come 116 = .ok (.getfield 95, 3) := by decide +kernel
theorem dX10_come_119 : decode cX10_come 119 = .ok (.iconst 1, 1) := by decide +kernel
theorem dX10_come_120 : decode cX10_come 120 = .ok (.iadd, 1) := by decide +kernel
theorem dX10_come_121 : decode cX10_come 121 = .ok (.putfield 95, 3) := by decide +kernel
theorem dX10_come_124 : decode cX10_come 124 = .ok (.aload_n 0, 1) := by decide +kernel
theorem dX10_come_125 : decode cX10_come 125 = .ok (.getfield 45, 3) := by decide +kernel
theorem dX10_come_128 : decode cX10_come 128 = .ok (.aload_n 0, 1) := by decide +kernel
theorem dX10_come_129 : decode cX10_come 129 = .ok (.getfield 95, 3) := by decide +kernel
theorem dX10_come_132 : decode cX10_come 132 = .ok (.iconst 1, 1) := by decide +kernel
theorem dX10_come_133 : decode cX10_come 133 = .ok (.isub, 1) := by decide +kernel
theorem dX10_come_134 : decode cX10_come 134 = .ok (.iload_n 1, 1) := by decide +kernel
theorem dX10_come_135 : decode cX10_come 135 = .ok (.invokevirtual 139, 3) := by decide +kernel
theorem dX10_come_138 : decode cX10_come 138 = .ok (.aload_n 0, 1) := by decide +kernel
theorem dX10_come_139 : decode cX10_come 139 = .ok (.getfield 95, 3) := by decide +kernel
theorem dX10_come_142 : decode cX10_come 142 = .ok (.iconst 1, 1) := by decide +kernel
theorem dX10_come_143 : decode cX10_come 143 = .ok (.isub, 1) := by decide +kernel
theorem dX10_come_144 : decode cX10_come 144 = .ok (.ireturn, 1) := by decide +kernel
theorem dX10_riderTold_0 : decode cX10_riderTold 0 = .ok (.iload_n 2, 1) := by decide +kernel
theorem dX10_riderTold_1 : decode cX10_riderTold 1 = .ok (.iconst 3, 1) := by decide +kernel
theorem dX10_riderTold_2 : decode cX10_riderTold 2 = .ok (.if_icmp .ge 37, 3) := by decide +kernel
theorem dX10_riderTold_5 : decode cX10_riderTold 5 = .ok (.iload_n 2, 1) := by decide +kernel
theorem dX10_riderTold_6 : decode cX10_riderTold 6 = .ok (.ifCond .ne 12, 3) := by decide +kernel
theorem dX10_riderTold_9 : decode cX10_riderTold 9 = .ok (.aload_n 0, 1) := by decide +kernel
theorem dX10_riderTold_10 : decode cX10_riderTold 10 = .ok (.getfield 31, 3) := by decide +kernel
theorem dX10_riderTold_13 : decode cX10_riderTold 13 = .ok (.iload_n 1, 1) := by decide +kernel
theorem dX10_riderTold_14 : decode cX10_riderTold 14 = .ok (.iaload, 1) := by decide +kernel
theorem dX10_riderTold_15 : decode cX10_riderTold 15 = .ok (.goto 23, 3) := by decide +kernel
theorem dX10_riderTold_18 : decode cX10_riderTold 18 = .ok (.iload_n 2, 1) := by decide +kernel
theorem dX10_riderTold_19 : decode cX10_riderTold 19 = .ok (.iconst 1, 1) := by decide +kernel
theorem dX10_riderTold_20 : decode cX10_riderTold 20 = .ok (.if_icmp .ne 12, 3) := by decide +kernel
theorem dX10_riderTold_23 : decode cX10_riderTold 23 = .ok (.aload_n 0, 1) := by decide +kernel
theorem dX10_riderTold_24 : decode cX10_riderTold 24 = .ok (.getfield 34, 3) := by decide +kernel
theorem dX10_riderTold_27 : decode cX10_riderTold 27 = .ok (.iload_n 1, 1) := by decide +kernel
theorem dX10_riderTold_28 : decode cX10_riderTold 28 = .ok (.iaload, 1) := by decide +kernel
theorem dX10_riderTold_29 : decode cX10_riderTold 29 = .ok (.goto 9, 3) := by decide +kernel
theorem dX10_riderTold_32 : decode cX10_riderTold 32 = .ok (.aload_n 0, 1) := by decide +kernel
theorem dX10_riderTold_33 : decode cX10_riderTold 33 = .ok (.getfield 37, 3) := by decide +kernel
theorem dX10_riderTold_36 : decode cX10_riderTold 36 = .ok (.iload_n 1, 1) := by decide +kernel
theorem dX10_riderTold_37 : decode cX10_riderTold 37 = .ok (.iaload, 1) := by decide +kernel
theorem dX10_riderTold_38 : decode cX10_riderTold 38 = .ok (.ireturn, 1) := by decide +kernel
theorem dX10_riderTold_39 : decode cX10_riderTold 39 = .ok (.aload_n 0, 1) := by decide +kernel
theorem dX10_riderTold_40 : decode cX10_riderTold 40 = .ok (.getfield 45, 3) := by decide +kernel
theorem dX10_riderTold_43 : decode cX10_riderTold 43 = .ok (.getfield 98, 3) := by decide +kernel
theorem dX10_riderTold_46 : decode cX10_riderTold 46 = .ok (.iload_n 1, 1) := by decide +kernel
theorem dX10_riderTold_47 : decode cX10_riderTold 47 = .ok (.iaload, 1) := by decide +kernel
theorem dX10_riderTold_48 : decode cX10_riderTold 48 = .ok (.ifCond .ne 7, 3) := by decide +kernel
theorem dX10_riderTold_51 : decode cX10_riderTold 51 = .ok (.iconst 1, 1) := by decide +kernel
theorem dX10_riderTold_52 : decode cX10_riderTold 52 = .ok (.goto 4, 3) := by decide +kernel
theorem dX10_riderTold_55 : decode cX10_riderTold 55 = .ok (.iconst 0, 1) := by decide +kernel
theorem dX10_riderTold_56 : decode cX10_riderTold 56 = .ok (.istore_n 3, 1) := by decide +kernel
theorem dX10_riderTold_57 : decode cX10_riderTold 57 = .ok (.iload_n 2, 1) := by decide +kernel
theorem dX10_riderTold_58 : decode cX10_riderTold 58 = .ok (.tableswitch 234 3 9 #[42, 52, 83, 110, 152, 190, 224], 42) := by decide +kernel
theorem dX10_riderTold_100 : decode cX10_riderTold 100 = .ok (.aload_n 0, 1) := by decide +kernel
theorem dX10_riderTold_101 : decode cX10_riderTold 101 = .ok (.getfield 45, 3) := by decide +kernel
theorem dX10_riderTold_104 : decode cX10_riderTold 104 = .ok (.getfield 98, 3) := by decide +kernel
theorem dX10_riderTold_107 : decode cX10_riderTold 107 = .ok (.iload_n 1, 1) := by decide +kernel
theorem dX10_riderTold_108 : decode cX10_riderTold 108 = .ok (.iaload, 1) := by decide +kernel
theorem dX10_riderTold_109 : decode cX10_riderTold 109 = .ok (.ireturn, 1) := by decide +kernel
theorem dX10_riderTold_110 : decode cX10_riderTold 110 = .ok (.iload_n 3, 1) := by decide +kernel
theorem dX10_riderTold_111 : decode cX10_riderTold 111 = .ok (.ifCond .ne 16, 3) := by decide +kernel
theorem dX10_riderTold_114 : decode cX10_riderTold 114 = .ok (.aload_n 0, 1) := by decide +kernel
theorem dX10_riderTold_115 : decode cX10_riderTold 115 = .ok (.getfield 45, 3) := by decide +kernel
theorem dX10_riderTold_118 : decode cX10_riderTold 118 = .ok (.getfield 98, 3) := by decide +kernel
theorem dX10_riderTold_121 : decode cX10_riderTold 121 = .ok (.iload_n 1, 1) := by decide +kernel
theorem dX10_riderTold_122 : decode cX10_riderTold 122 = .ok (.iaload, 1) := by decide +kernel
theorem dX10_riderTold_123 : decode cX10_riderTold 123 = .ok (.iconst 2, 1) := by decide +kernel
theorem dX10_riderTold_124 : decode cX10_riderTold 124 = .ok (.if_icmp .ne 15, 3) := by decide +kernel
theorem dX10_riderTold_127 : decode cX10_riderTold 127 = .ok (.aload_n 0, 1) := by decide +kernel
theorem dX10_riderTold_128 : decode cX10_riderTold 128 = .ok (.getfield 45, 3) := by decide +kernel
theorem dX10_riderTold_131 : decode cX10_riderTold 131 = .ok (.getfield 143, 3) := by decide +kernel
theorem dX10_riderTold_134 : decode cX10_riderTold 134 = .ok (.iload_n 1, 1) := by decide +kernel
theorem dX10_riderTold_135 : decode cX10_riderTold 135 = .ok (.iaload, 1) := by decide +kernel
theorem dX10_riderTold_136 : decode cX10_riderTold 136 = .ok (.goto 4, 3) := by decide +kernel
theorem dX10_riderTold_139 : decode cX10_riderTold 139 = .ok (.iconst (-1), 1) := by decide +kernel
theorem dX10_riderTold_140 : decode cX10_riderTold 140 = .ok (.ireturn, 1) := by decide +kernel
theorem dX10_riderTold_141 : decode cX10_riderTold 141 = .ok (.aload_n 0, 1) := by decide +kernel
theorem dX10_riderTold_142 : decode cX10_riderTold 142 = .ok (.getfield 45, 3) := by decide +kernel
theorem dX10_riderTold_145 : decode cX10_riderTold 145 = .ok (.getfield 98, 3) := by decide +kernel
theorem dX10_riderTold_148 : decode cX10_riderTold 148 = .ok (.iload_n 1, 1) := by decide +kernel
theorem dX10_riderTold_149 : decode cX10_riderTold 149 = .ok (.iaload, 1) := by decide +kernel
theorem dX10_riderTold_150 : decode cX10_riderTold 150 = .ok (.iconst 1, 1) := by decide +kernel
theorem dX10_riderTold_151 : decode cX10_riderTold 151 = .ok (.if_icmp .ne 15, 3) := by decide +kernel
theorem dX10_riderTold_154 : decode cX10_riderTold 154 = .ok (.aload_n 0, 1) := by decide +kernel
theorem dX10_riderTold_155 : decode cX10_riderTold 155 = .ok (.getfield 45, 3) := by decide +kernel
theorem dX10_riderTold_158 : decode cX10_riderTold 158 = .ok (.getfield 143, 3) := by decide +kernel
theorem dX10_riderTold_161 : decode cX10_riderTold 161 = .ok (.iload_n 1, 1) := by decide +kernel
theorem dX10_riderTold_162 : decode cX10_riderTold 162 = .ok (.iaload, 1) := by decide +kernel
theorem dX10_riderTold_163 : decode cX10_riderTold 163 = .ok (.goto 4, 3) := by decide +kernel
theorem dX10_riderTold_166 : decode cX10_riderTold 166 = .ok (.iconst (-1), 1) := by decide +kernel
theorem dX10_riderTold_167 : decode cX10_riderTold 167 = .ok (.ireturn, 1) := by decide +kernel
theorem dX10_riderTold_168 : decode cX10_riderTold 168 = .ok (.iload_n 3, 1) := by decide +kernel
theorem dX10_riderTold_169 : decode cX10_riderTold 169 = .ok (.ifCond .eq 15, 3) := by decide +kernel
theorem dX10_riderTold_172 : decode cX10_riderTold 172 = .ok (.aload_n 0, 1) := by decide +kernel
theorem dX10_riderTold_173 : decode cX10_riderTold 173 = .ok (.getfield 45, 3) := by decide +kernel
theorem dX10_riderTold_176 : decode cX10_riderTold 176 = .ok (.getfield 146, 3) := by decide +kernel
theorem dX10_riderTold_179 : decode cX10_riderTold 179 = .ok (.iload_n 1, 1) := by decide +kernel
theorem dX10_riderTold_180 : decode cX10_riderTold 180 = .ok (.iaload, 1) := by decide +kernel
theorem dX10_riderTold_181 : decode cX10_riderTold 181 = .ok (.goto 28, 3) := by decide +kernel
theorem dX10_riderTold_184 : decode cX10_riderTold 184 = .ok (.aload_n 0, 1) := by decide +kernel
theorem dX10_riderTold_185 : decode cX10_riderTold 185 = .ok (.getfield 45, 3) := by decide +kernel
theorem dX10_riderTold_188 : decode cX10_riderTold 188 = .ok (.getfield 98, 3) := by decide +kernel
theorem dX10_riderTold_191 : decode cX10_riderTold 191 = .ok (.iload_n 1, 1) := by decide +kernel
theorem dX10_riderTold_192 : decode cX10_riderTold 192 = .ok (.iaload, 1) := by decide +kernel
theorem dX10_riderTold_193 : decode cX10_riderTold 193 = .ok (.iconst 1, 1) := by decide +kernel
theorem dX10_riderTold_194 : decode cX10_riderTold 194 = .ok (.if_icmp .ne 14, 3) := by decide +kernel
theorem dX10_riderTold_197 : decode cX10_riderTold 197 = .ok (.aload_n 0, 1) := by decide +kernel
theorem dX10_riderTold_198 : decode cX10_riderTold 198 = .ok (.getfield 45, 3) := by decide +kernel
theorem dX10_riderTold_201 : decode cX10_riderTold 201 = .ok (.iload_n 1, 1) := by decide +kernel
theorem dX10_riderTold_202 : decode cX10_riderTold 202 = .ok (.invokevirtual 149, 3) := by decide +kernel
theorem dX10_riderTold_205 : decode cX10_riderTold 205 = .ok (.goto 4, 3) := by decide +kernel
theorem dX10_riderTold_208 : decode cX10_riderTold 208 = .ok (.iconst 0, 1) := by decide +kernel
theorem dX10_riderTold_209 : decode cX10_riderTold 209 = .ok (.ireturn, 1) := by decide +kernel
theorem dX10_riderTold_210 : decode cX10_riderTold 210 = .ok (.iload_n 3, 1) := by decide +kernel
theorem dX10_riderTold_211 : decode cX10_riderTold 211 = .ok (.ifCond .eq 35, 3) := by decide +kernel
theorem dX10_riderTold_214 : decode cX10_riderTold 214 = .ok (.iconst 0, 1) := by decide +kernel
theorem dX10_riderTold_215 : decode cX10_riderTold 215 = .ok (.aload_n 0, 1) := by decide +kernel
theorem dX10_riderTold_216 : decode cX10_riderTold 216 = .ok (.aload_n 0, 1) := by decide +kernel
theorem dX10_riderTold_217 : decode cX10_riderTold 217 = .ok (.getfield 45, 3) := by decide +kernel
theorem dX10_riderTold_220 : decode cX10_riderTold 220 = .ok (.getfield 143, 3) := by decide +kernel
theorem dX10_riderTold_223 : decode cX10_riderTold 223 = .ok (.iload_n 1, 1) := by decide +kernel
theorem dX10_riderTold_224 : decode cX10_riderTold 224 = .ok (.iaload, 1) := by decide +kernel
theorem dX10_riderTold_225 : decode cX10_riderTold 225 = .ok (.aload_n 0, 1) := by decide +kernel
theorem dX10_riderTold_226 : decode cX10_riderTold 226 = .ok (.getfield 37, 3) := by decide +kernel
theorem dX10_riderTold_229 : decode cX10_riderTold 229 = .ok (.iload_n 1, 1) := by decide +kernel
theorem dX10_riderTold_230 : decode cX10_riderTold 230 = .ok (.iaload, 1) := by decide +kernel
theorem dX10_riderTold_231 : decode cX10_riderTold 231 = .ok (.aload_n 0, 1) := by decide +kernel
theorem dX10_riderTold_232 : decode cX10_riderTold 232 = .ok (.getfield 31, 3) := by decide +kernel
theorem dX10_riderTold_235 : decode cX10_riderTold 235 = .ok (.iload_n 1, 1) := by decide +kernel
theorem dX10_riderTold_236 : decode cX10_riderTold 236 = .ok (.iaload, 1) := by decide +kernel
theorem dX10_riderTold_237 : decode cX10_riderTold 237 = .ok (.invokevirtual 78, 3) := by decide +kernel
theorem dX10_riderTold_240 : decode cX10_riderTold 240 = .ok (.invokestatic 152, 3) := by decide +kernel
theorem dX10_riderTold_243 : decode cX10_riderTold 243 = .ok (.goto 4, 3) := by decide +kernel
theorem dX10_riderTold_246 : decode cX10_riderTold 246 = .ok (.iconst 0, 1) := by decide +kernel
theorem dX10_riderTold_247 : decode cX10_riderTold 247 = .ok (.ireturn, 1) := by decide +kernel
theorem dX10_riderTold_248 : decode cX10_riderTold 248 = .ok (.iload_n 3, 1) := by decide +kernel
theorem dX10_riderTold_249 : decode cX10_riderTold 249 = .ok (.ifCond .eq 31, 3) := by decide +kernel
theorem dX10_riderTold_252 : decode cX10_riderTold 252 = .ok (.aload_n 0, 1) := by decide +kernel
theorem dX10_riderTold_253 : decode cX10_riderTold 253 = .ok (.aload_n 0, 1) := by decide +kernel
theorem dX10_riderTold_254 : decode cX10_riderTold 254 = .ok (.getfield 45, 3) := by decide +kernel
theorem dX10_riderTold_257 : decode cX10_riderTold 257 = .ok (.getfield 143, 3) := by decide +kernel
theorem dX10_riderTold_260 : decode cX10_riderTold 260 = .ok (.iload_n 1, 1) := by decide +kernel
theorem dX10_riderTold_261 : decode cX10_riderTold 261 = .ok (.iaload, 1) := by decide +kernel
theorem dX10_riderTold_262 : decode cX10_riderTold 262 = .ok (.aload_n 0, 1) := by decide +kernel
theorem dX10_riderTold_263 : decode cX10_riderTold 263 = .ok (.getfield 37, 3) := by decide +kernel
theorem dX10_riderTold_266 : decode cX10_riderTold 266 = .ok (.iload_n 1, 1) := by decide +kernel
theorem dX10_riderTold_267 : decode cX10_riderTold 267 = .ok (.iaload, 1) := by decide +kernel
theorem dX10_riderTold_268 : decode cX10_riderTold 268 = .ok (.aload_n 0, 1) := by decide +kernel
theorem dX10_riderTold_269 : decode cX10_riderTold 269 = .ok (.getfield 31, 3) := by decide +kernel
theorem dX10_riderTold_272 : decode cX10_riderTold 272 = .ok (.iload_n 1, 1) := by decide +kernel
theorem dX10_riderTold_273 : decode cX10_riderTold 273 = .ok (.iaload, 1) := by decide +kernel
theorem dX10_riderTold_274 : decode cX10_riderTold 274 = .ok (.invokevirtual 155, 3) := by decide +kernel
theorem dX10_riderTold_277 : decode cX10_riderTold 277 = .ok (.goto 4, 3) := by decide +kernel
theorem dX10_riderTold_280 : decode cX10_riderTold 280 = .ok (.iconst (-1), 1) := by decide +kernel
theorem dX10_riderTold_281 : decode cX10_riderTold 281 = .ok (.ireturn, 1) := by decide +kernel
theorem dX10_riderTold_282 : decode cX10_riderTold 282 = .ok (.aload_n 0, 1) := by decide +kernel
theorem dX10_riderTold_283 : decode cX10_riderTold 283 = .ok (.getfield 45, 3) := by decide +kernel
theorem dX10_riderTold_286 : decode cX10_riderTold 286 = .ok (.getfield 158, 3) := by decide +kernel
theorem dX10_riderTold_289 : decode cX10_riderTold 289 = .ok (.iload_n 1, 1) := by decide +kernel
theorem dX10_riderTold_290 : decode cX10_riderTold 290 = .ok (.iaload, 1) := by decide +kernel
theorem dX10_riderTold_291 : decode cX10_riderTold 291 = .ok (.ireturn, 1) := by decide +kernel
theorem dX10_riderTold_292 : decode cX10_riderTold 292 = .ok (.aload_n 0, 1) := by decide +kernel
theorem dX10_riderTold_293 : decode cX10_riderTold 293 = .ok (.getfield 45, 3) := by decide +kernel
theorem dX10_riderTold_296 : decode cX10_riderTold 296 = .ok (.getfield 136, 3) := by decide +kernel
theorem dX10_riderTold_299 : decode cX10_riderTold 299 = .ok (.iload_n 1, 1) := by decide +kernel
theorem dX10_riderTold_300 : decode cX10_riderTold 300 = .ok (.iaload, 1) := by decide +kernel
theorem dX10_riderTold_301 : decode cX10_riderTold 301 = .ok (.ireturn, 1) := by decide +kernel
theorem dX10_rider_0 : decode cX10_rider 0 = .ok (.aload_n 0, 1) := by decide +kernel
theorem dX10_rider_1 : decode cX10_rider 1 = .ok (.iconst 0, 1) := by decide +kernel
theorem dX10_rider_2 : decode cX10_rider 2 = .ok (.putfield 52, 3) := by decide +kernel
theorem dX10_rider_5 : decode cX10_rider 5 = .ok (.iload_n 1, 1) := by decide +kernel
theorem dX10_rider_6 : decode cX10_rider 6 = .ok (.iconst 0, 1) := by decide +kernel
theorem dX10_rider_7 : decode cX10_rider 7 = .ok (.aload_n 0, 1) := by decide +kernel
theorem dX10_rider_8 : decode cX10_rider 8 = .ok (.getfield 95, 3) := by decide +kernel
theorem dX10_rider_11 : decode cX10_rider 11 = .ok (.iconst 1, 1) := by decide +kernel
theorem dX10_rider_12 : decode cX10_rider 12 = .ok (.isub, 1) := by decide +kernel
theorem dX10_rider_13 : decode cX10_rider 13 = .ok (.invokestatic 59, 3) := by decide +kernel
theorem dX10_rider_16 : decode cX10_rider 16 = .ok (.ifCond .eq 22, 3) := by decide +kernel
theorem dX10_rider_19 : decode cX10_rider 19 = .ok (.iload_n 2, 1) := by decide +kernel
theorem dX10_rider_20 : decode cX10_rider 20 = .ok (.iconst 0, 1) := by decide +kernel
theorem dX10_rider_21 : decode cX10_rider 21 = .ok (.bipush 10, 2) := by decide +kernel
theorem dX10_rider_23 : decode cX10_rider 23 = .ok (.invokestatic 59, 3) := by decide +kernel
theorem dX10_rider_26 : decode cX10_rider 26 = .ok (.ifCond .eq 12, 3) := by decide +kernel
theorem dX10_rider_29 : decode cX10_rider 29 = .ok (.aload_n 0, 1) := by decide +kernel
theorem dX10_rider_30 : decode cX10_rider 30 = .ok (.iload_n 1, 1) := by decide +kernel
theorem dX10_rider_31 : decode cX10_rider 31 = .ok (.iload_n 2, 1) := by decide +kernel
theorem dX10_rider_32 : decode cX10_rider 32 = .ok (.invokevirtual 161, 3) := by decide +kernel
theorem dX10_rider_35 : decode cX10_rider 35 = .ok (.goto 8, 3) := by decide +kernel
theorem dX10_rider_38 : decode cX10_rider 38 = .ok (.aload_n 0, 1) := by decide +kernel
theorem dX10_rider_39 : decode cX10_rider 39 = .ok (.iconst 1, 1) := by decide +kernel
theorem dX10_rider_40 : decode cX10_rider 40 = .ok (.invokevirtual 82, 3) := by decide +kernel
theorem dX10_rider_43 : decode cX10_rider 43 = .ok (.ireturn, 1) := by decide +kernel
theorem dX10_queue_0 : decode cX10_queue 0 = .ok (.aload_n 0, 1) := by decide +kernel
theorem dX10_queue_1 : decode cX10_queue 1 = .ok (.iconst 0, 1) := by decide +kernel
theorem dX10_queue_2 : decode cX10_queue 2 = .ok (.putfield 52, 3) := by decide +kernel
theorem dX10_queue_5 : decode cX10_queue 5 = .ok (.aload_n 0, 1) := by decide +kernel
theorem dX10_queue_6 : decode cX10_queue 6 = .ok (.iload_n 1, 1) := by decide +kernel
theorem dX10_queue_7 : decode cX10_queue 7 = .ok (.invokevirtual 85, 3) := by decide +kernel
theorem dX10_queue_10 : decode cX10_queue 10 = .ok (.ifCond .eq 39, 3) := by decide +kernel
theorem dX10_queue_13 : decode cX10_queue 13 = .ok (.iload_n 2, 1) := by decide +kernel
theorem dX10_queue_14 : decode cX10_queue 14 = .ok (.iconst 0, 1) := by decide +kernel
theorem dX10_queue_15 : decode cX10_queue 15 = .ok (.aload_n 0, 1) := by decide +kernel
theorem dX10_queue_16 : decode cX10_queue 16 = .ok (.getfield 45, 3) := by decide +kernel
theorem dX10_queue_19 : decode cX10_queue 19 = .ok (.getfield 101, 3) := by decide +kernel
theorem dX10_queue_22 : decode cX10_queue 22 = .ok (.iload_n 1, 1) := by decide +kernel
theorem dX10_queue_23 : decode cX10_queue 23 = .ok (.iaload, 1) := by decide +kernel
theorem dX10_queue_24 : decode cX10_queue 24 = .ok (.iconst 1, 1) := by decide +kernel
theorem dX10_queue_25 : decode cX10_queue 25 = .ok (.isub, 1) := by decide +kernel
theorem dX10_queue_26 : decode cX10_queue 26 = .ok (.invokestatic 59, 3) := by decide +kernel
theorem dX10_queue_29 : decode cX10_queue 29 = .ok (.ifCond .eq 20, 3) := by decide +kernel
theorem dX10_queue_32 : decode cX10_queue 32 = .ok (.aload_n 0, 1) := by decide +kernel
theorem dX10_queue_33 : decode cX10_queue 33 = .ok (.getfield 45, 3) := by decide +kernel
theorem dX10_queue_36 : decode cX10_queue 36 = .ok (.getfield 104, 3) := by decide +kernel
theorem dX10_queue_39 : decode cX10_queue 39 = .ok (.bipush 12, 2) := by decide +kernel
theorem dX10_queue_41 : decode cX10_queue 41 = .ok (.iload_n 1, 1) := by decide +kernel
theorem dX10_queue_42 : decode cX10_queue 42 = .ok (.imul, 1) := by decide +kernel
theorem dX10_queue_43 : decode cX10_queue 43 = .ok (.iload_n 2, 1) := by decide +kernel
theorem dX10_queue_44 : decode cX10_queue 44 = .ok (.iadd, 1) := by decide +kernel
theorem dX10_queue_45 : decode cX10_queue 45 = .ok (.iaload, 1) := by decide +kernel
theorem dX10_queue_46 : decode cX10_queue 46 = .ok (.goto 8, 3) := by decide +kernel
theorem dX10_queue_49 : decode cX10_queue 49 = .ok (.aload_n 0, 1) := by decide +kernel
theorem dX10_queue_50 : decode cX10_queue 50 = .ok (.iconst 1, 1) := by decide +kernel
theorem dX10_queue_51 : decode cX10_queue 51 = .ok (.invokevirtual 82, 3) := by decide +kernel
theorem dX10_queue_54 : decode cX10_queue 54 = .ok (.ireturn, 1) := by decide +kernel
theorem dX10_pass_0 : decode cX10_pass 0 = .ok (.aload_n 0, 1) := by decide +kernel
theorem dX10_pass_1 : decode cX10_pass 1 = .ok (.iconst 0, 1) := by decide +kernel
theorem dX10_pass_2 : decode cX10_pass 2 = .ok (.putfield 52, 3) := by decide +kernel
theorem dX10_pass_5 : decode cX10_pass 5 = .ok (.iload_n 1, 1) := by decide +kernel
theorem dX10_pass_6 : decode cX10_pass 6 = .ok (.iconst 1, 1) := by decide +kernel
theorem dX10_pass_7 : decode cX10_pass 7 = .ok (.bipush 100, 2) := by decide +kernel
theorem dX10_pass_9 : decode cX10_pass 9 = .ok (.invokestatic 59, 3) := by decide +kernel
theorem dX10_pass_12 : decode cX10_pass 12 = .ok (.ifCond .ne 9, 3) := by decide +kernel
theorem dX10_pass_15 : decode cX10_pass 15 = .ok (.aload_n 0, 1) := by decide +kernel
theorem dX10_pass_16 : decode cX10_pass 16 = .ok (.iconst 1, 1) := by decide +kernel
theorem dX10_pass_17 : decode cX10_pass 17 = .ok (.invokevirtual 82, 3) := by decide +kernel
theorem dX10_pass_20 : decode cX10_pass 20 = .ok (.ireturn, 1) := by decide +kernel
theorem dX10_pass_21 : decode cX10_pass 21 = .ok (.iconst 0, 1) := by decide +kernel
theorem dX10_pass_22 : decode cX10_pass 22 = .ok (.istore_n 2, 1) := by decide +kernel
theorem dX10_pass_23 : decode cX10_pass 23 = .ok (.iconst 0, 1) := by decide +kernel
theorem dX10_pass_24 : decode cX10_pass 24 = .ok (.istore_n 3, 1) := by decide +kernel
theorem dX10_pass_25 : decode cX10_pass 25 = .ok (.iload_n 3, 1) := by decide +kernel
theorem dX10_pass_26 : decode cX10_pass 26 = .ok (.iload_n 1, 1) := by decide +kernel
theorem dX10_pass_27 : decode cX10_pass 27 = .ok (.if_icmp .ge 19, 3) := by decide +kernel
theorem dX10_pass_30 : decode cX10_pass 30 = .ok (.iload_n 2, 1) := by decide +kernel
theorem dX10_pass_31 : decode cX10_pass 31 = .ok (.aload_n 0, 1) := by decide +kernel
theorem dX10_pass_32 : decode cX10_pass 32 = .ok (.getfield 45, 3) := by decide +kernel
theorem dX10_pass_35 : decode cX10_pass 35 = .ok (.invokevirtual 164, 3) := by decide +kernel
theorem dX10_pass_38 : decode cX10_pass 38 = .ok (.iadd, 1) := by decide +kernel
theorem dX10_pass_39 : decode cX10_pass 39 = .ok (.istore_n 2, 1) := by decide +kernel
theorem dX10_pass_40 : decode cX10_pass 40 = .ok (.iinc 3 1, 3) := by decide +kernel
theorem dX10_pass_43 : decode cX10_pass 43 = .ok (.goto (-18), 3) := by decide +kernel
theorem dX10_pass_46 : decode cX10_pass 46 = .ok (.iload_n 2, 1) := by decide +kernel
theorem dX10_pass_47 : decode cX10_pass 47 = .ok (.ireturn, 1) := by decide +kernel
theorem dX10_counted_0 : decode cX10_counted 0 = .ok (.iconst 0, 1) := by decide +kernel
theorem dX10_counted_1 : decode cX10_counted 1 = .ok (.istore_n 2, 1) := by decide +kernel
theorem dX10_counted_2 : decode cX10_counted 2 = .ok (.iconst 0, 1) := by decide +kernel
theorem dX10_counted_3 : decode cX10_counted 3 = .ok (.istore_n 3, 1) := by decide +kernel
theorem dX10_counted_4 : decode cX10_counted 4 = .ok (.iconst 0, 1) := by decide +kernel
theorem dX10_counted_5 : decode cX10_counted 5 = .ok (.istore 4, 2) := by decide +kernel
theorem dX10_counted_7 : decode cX10_counted 7 = .ok (.iload 4, 2) := by decide +kernel
theorem dX10_counted_9 : decode cX10_counted 9 = .ok (.aload_n 0, 1) := by decide +kernel
theorem dX10_counted_10 : decode cX10_counted 10 = .ok (.getfield 63, 3) := by decide +kernel
theorem dX10_counted_13 : decode cX10_counted 13 = .ok (.if_icmp .ge 35, 3) := by decide +kernel
theorem dX10_counted_16 : decode cX10_counted 16 = .ok (.iload_n 2, 1) := by decide +kernel
theorem dX10_counted_17 : decode cX10_counted 17 = .ok (.aload_n 0, 1) := by decide +kernel
theorem dX10_counted_18 : decode cX10_counted 18 = .ok (.getfield 45, 3) := by decide +kernel
theorem dX10_counted_21 : decode cX10_counted 21 = .ok (.getfield 89, 3) := by decide +kernel
theorem dX10_counted_24 : decode cX10_counted 24 = .ok (.iload 4, 2) := by decide +kernel
theorem dX10_counted_26 : decode cX10_counted 26 = .ok (.iaload, 1) := by decide +kernel
theorem dX10_counted_27 : decode cX10_counted 27 = .ok (.iadd, 1) := by decide +kernel
theorem dX10_counted_28 : decode cX10_counted 28 = .ok (.istore_n 2, 1) := by decide +kernel
theorem dX10_counted_29 : decode cX10_counted 29 = .ok (.iload_n 3, 1) := by decide +kernel
theorem dX10_counted_30 : decode cX10_counted 30 = .ok (.aload_n 0, 1) := by decide +kernel
theorem dX10_counted_31 : decode cX10_counted 31 = .ok (.getfield 45, 3) := by decide +kernel
theorem dX10_counted_34 : decode cX10_counted 34 = .ok (.getfield 117, 3) := by decide +kernel
theorem dX10_counted_37 : decode cX10_counted 37 = .ok (.iload 4, 2) := by decide +kernel
theorem dX10_counted_39 : decode cX10_counted 39 = .ok (.iaload, 1) := by decide +kernel
theorem dX10_counted_40 : decode cX10_counted 40 = .ok (.iadd, 1) := by decide +kernel
theorem dX10_counted_41 : decode cX10_counted 41 = .ok (.istore_n 3, 1) := by decide +kernel
theorem dX10_counted_42 : decode cX10_counted 42 = .ok (.iinc 4 1, 3) := by decide +kernel
theorem dX10_counted_45 : decode cX10_counted 45 = .ok (.goto (-38), 3) := by decide +kernel
theorem dX10_counted_48 : decode cX10_counted 48 = .ok (.bipush 10, 2) := by decide +kernel
theorem dX10_counted_50 : decode cX10_counted 50 = .ok (.newarray .int, 2) := by decide +kernel
theorem dX10_counted_52 : decode cX10_counted 52 = .ok (.dup, 1) := by decide +kernel
theorem dX10_counted_53 : decode cX10_counted 53 = .ok (.iconst 0, 1) := by decide +kernel
theorem dX10_counted_54 : decode cX10_counted 54 = .ok (.aload_n 0, 1) := by decide +kernel
theorem dX10_counted_55 : decode cX10_counted 55 = .ok (.getfield 45, 3) := by decide +kernel
theorem dX10_counted_58 : decode cX10_counted 58 = .ok (.getfield 123, 3) := by decide +kernel
theorem dX10_counted_61 : decode cX10_counted 61 = .ok (.iastore, 1) := by decide +kernel
theorem dX10_counted_62 : decode cX10_counted 62 = .ok (.dup, 1) := by decide +kernel
theorem dX10_counted_63 : decode cX10_counted 63 = .ok (.iconst 1, 1) := by decide +kernel
theorem dX10_counted_64 : decode cX10_counted 64 = .ok (.aload_n 0, 1) := by decide +kernel
theorem dX10_counted_65 : decode cX10_counted 65 = .ok (.getfield 56, 3) := by decide +kernel
theorem dX10_counted_68 : decode cX10_counted 68 = .ok (.iastore, 1) := by decide +kernel
theorem dX10_counted_69 : decode cX10_counted 69 = .ok (.dup, 1) := by decide +kernel
theorem dX10_counted_70 : decode cX10_counted 70 = .ok (.iconst 2, 1) := by decide +kernel
theorem dX10_counted_71 : decode cX10_counted 71 = .ok (.aload_n 0, 1) := by decide +kernel
theorem dX10_counted_72 : decode cX10_counted 72 = .ok (.getfield 63, 3) := by decide +kernel
theorem dX10_counted_75 : decode cX10_counted 75 = .ok (.iastore, 1) := by decide +kernel
theorem dX10_counted_76 : decode cX10_counted 76 = .ok (.dup, 1) := by decide +kernel
theorem dX10_counted_77 : decode cX10_counted 77 = .ok (.iconst 3, 1) := by decide +kernel
theorem dX10_counted_78 : decode cX10_counted 78 = .ok (.aload_n 0, 1) := by decide +kernel
theorem dX10_counted_79 : decode cX10_counted 79 = .ok (.getfield 95, 3) := by decide +kernel
theorem dX10_counted_82 : decode cX10_counted 82 = .ok (.iastore, 1) := by decide +kernel
theorem dX10_counted_83 : decode cX10_counted 83 = .ok (.dup, 1) := by decide +kernel
theorem dX10_counted_84 : decode cX10_counted 84 = .ok (.iconst 4, 1) := by decide +kernel
theorem dX10_counted_85 : decode cX10_counted 85 = .ok (.aload_n 0, 1) := by decide +kernel
theorem dX10_counted_86 : decode cX10_counted 86 = .ok (.getfield 45, 3) := by decide +kernel
theorem dX10_counted_89 : decode cX10_counted 89 = .ok (.iconst 0, 1) := by decide +kernel
theorem dX10_counted_90 : decode cX10_counted 90 = .ok (.invokevirtual 168, 3) := by decide +kernel
theorem dX10_counted_93 : decode cX10_counted 93 = .ok (.iastore, 1) := by decide +kernel
theorem dX10_counted_94 : decode cX10_counted 94 = .ok (.dup, 1) := by decide +kernel
theorem dX10_counted_95 : decode cX10_counted 95 = .ok (.iconst 5, 1) := by decide +kernel
theorem dX10_counted_96 : decode cX10_counted 96 = .ok (.aload_n 0, 1) := by decide +kernel
theorem dX10_counted_97 : decode cX10_counted 97 = .ok (.getfield 45, 3) := by decide +kernel
theorem dX10_counted_100 : decode cX10_counted 100 = .ok (.iconst 1, 1) := by decide +kernel
theorem dX10_counted_101 : decode cX10_counted 101 = .ok (.invokevirtual 168, 3) := by decide +kernel
theorem dX10_counted_104 : decode cX10_counted 104 = .ok (.iastore, 1) := by decide +kernel
theorem dX10_counted_105 : decode cX10_counted 105 = .ok (.dup, 1) := by decide +kernel
theorem dX10_counted_106 : decode cX10_counted 106 = .ok (.bipush 6, 2) := by decide +kernel
theorem dX10_counted_108 : decode cX10_counted 108 = .ok (.aload_n 0, 1) := by decide +kernel
theorem dX10_counted_109 : decode cX10_counted 109 = .ok (.getfield 45, 3) := by decide +kernel
theorem dX10_counted_112 : decode cX10_counted 112 = .ok (.iconst 2, 1) := by decide +kernel
theorem dX10_counted_113 : decode cX10_counted 113 = .ok (.invokevirtual 168, 3) := by decide +kernel
theorem dX10_counted_116 : decode cX10_counted 116 = .ok (.iastore, 1) := by decide +kernel
theorem dX10_counted_117 : decode cX10_counted 117 = .ok (.dup, 1) := by decide +kernel
theorem dX10_counted_118 : decode cX10_counted 118 = .ok (.bipush 7, 2) := by decide +kernel
theorem dX10_counted_120 : decode cX10_counted 120 = .ok (.aload_n 0, 1) := by decide +kernel
theorem dX10_counted_121 : decode cX10_counted 121 = .ok (.getfield 45, 3) := by decide +kernel
theorem dX10_counted_124 : decode cX10_counted 124 = .ok (.iconst 3, 1) := by decide +kernel
theorem dX10_counted_125 : decode cX10_counted 125 = .ok (.invokevirtual 168, 3) := by decide +kernel
theorem dX10_counted_128 : decode cX10_counted 128 = .ok (.iastore, 1) := by decide +kernel
theorem dX10_counted_129 : decode cX10_counted 129 = .ok (.dup, 1) := by decide +kernel
theorem dX10_counted_130 : decode cX10_counted 130 = .ok (.bipush 8, 2) := by decide +kernel
theorem dX10_counted_132 : decode cX10_counted 132 = .ok (.iload_n 2, 1) := by decide +kernel
theorem dX10_counted_133 : decode cX10_counted 133 = .ok (.iastore, 1) := by decide +kernel
theorem dX10_counted_134 : decode cX10_counted 134 = .ok (.dup, 1) := by decide +kernel
theorem dX10_counted_135 : decode cX10_counted 135 = .ok (.bipush 9, 2) := by decide +kernel
theorem dX10_counted_137 : decode cX10_counted 137 = .ok (.iload_n 3, 1) := by decide +kernel
theorem dX10_counted_138 : decode cX10_counted 138 = .ok (.iastore, 1) := by decide +kernel
theorem dX10_counted_139 : decode cX10_counted 139 = .ok (.astore 4, 2) := by decide +kernel
theorem dX10_counted_141 : decode cX10_counted 141 = .ok (.aload 4, 2) := by decide +kernel
theorem dX10_counted_143 : decode cX10_counted 143 = .ok (.iload_n 1, 1) := by decide +kernel
theorem dX10_counted_144 : decode cX10_counted 144 = .ok (.iaload, 1) := by decide +kernel
theorem dX10_counted_145 : decode cX10_counted 145 = .ok (.ireturn, 1) := by decide +kernel
theorem dX10_count_0 : decode cX10_count 0 = .ok (.aload_n 0, 1) := by decide +kernel
theorem dX10_count_1 : decode cX10_count 1 = .ok (.iconst 0, 1) := by decide +kernel
theorem dX10_count_2 : decode cX10_count 2 = .ok (.putfield 52, 3) := by decide +kernel
theorem dX10_count_5 : decode cX10_count 5 = .ok (.iload_n 1, 1) := by decide +kernel
theorem dX10_count_6 : decode cX10_count 6 = .ok (.iconst 0, 1) := by decide +kernel
theorem dX10_count_7 : decode cX10_count 7 = .ok (.bipush 9, 2) := by decide +kernel
theorem dX10_count_9 : decode cX10_count 9 = .ok (.invokestatic 59, 3) := by decide +kernel
theorem dX10_count_12 : decode cX10_count 12 = .ok (.ifCond .eq 11, 3) := by decide +kernel
theorem dX10_count_15 : decode cX10_count 15 = .ok (.aload_n 0, 1) := by decide +kernel
theorem dX10_count_16 : decode cX10_count 16 = .ok (.iload_n 1, 1) := by decide +kernel
theorem dX10_count_17 : decode cX10_count 17 = .ok (.invokevirtual 171, 3) := by decide +kernel
theorem dX10_count_20 : decode cX10_count 20 = .ok (.goto 8, 3) := by decide +kernel
theorem dX10_count_23 : decode cX10_count 23 = .ok (.aload_n 0, 1) := by decide +kernel
theorem dX10_count_24 : decode cX10_count 24 = .ok (.iconst 1, 1) := by decide +kernel
theorem dX10_count_25 : decode cX10_count 25 = .ok (.invokevirtual 82, 3) := by decide +kernel
theorem dX10_count_28 : decode cX10_count 28 = .ok (.ireturn, 1) := by decide +kernel
theorem dX10_way_0 : decode cX10_way 0 = .ok (.aload_n 0, 1) := by decide +kernel
theorem dX10_way_1 : decode cX10_way 1 = .ok (.iconst 0, 1) := by decide +kernel
theorem dX10_way_2 : decode cX10_way 2 = .ok (.putfield 52, 3) := by decide +kernel
theorem dX10_way_5 : decode cX10_way 5 = .ok (.aload_n 0, 1) := by decide +kernel
theorem dX10_way_6 : decode cX10_way 6 = .ok (.iload_n 1, 1) := by decide +kernel
theorem dX10_way_7 : decode cX10_way 7 = .ok (.invokevirtual 85, 3) := by decide +kernel
theorem dX10_way_10 : decode cX10_way 10 = .ok (.ifCond .eq 11, 3) := by decide +kernel
theorem dX10_way_13 : decode cX10_way 13 = .ok (.aload_n 0, 1) := by decide +kernel
theorem dX10_way_14 : decode cX10_way 14 = .ok (.iload_n 2, 1) := by decide +kernel
theorem dX10_way_15 : decode cX10_way 15 = .ok (.invokevirtual 85, 3) := by decide +kernel
theorem dX10_way_18 : decode cX10_way 18 = .ok (.ifCond .ne 9, 3) := by decide +kernel
theorem dX10_way_21 : decode cX10_way 21 = .ok (.aload_n 0, 1) := by decide +kernel
theorem dX10_way_22 : decode cX10_way 22 = .ok (.iconst 1, 1) := by decide +kernel
theorem dX10_way_23 : decode cX10_way 23 = .ok (.invokevirtual 82, 3) := by decide +kernel
theorem dX10_way_26 : decode cX10_way 26 = .ok (.ireturn, 1) := by decide +kernel
theorem dX10_way_27 : decode cX10_way 27 = .ok (.iload_n 3, 1) := by decide +kernel
theorem dX10_way_28 : decode cX10_way 28 = .ok (.bipush 20, 2) := by decide +kernel
theorem dX10_way_30 : decode cX10_way 30 = .ok (.bipush 120, 2) := by decide +kernel
theorem dX10_way_32 : decode cX10_way 32 = .ok (.invokestatic 59, 3) := by decide +kernel
theorem dX10_way_35 : decode cX10_way 35 = .ok (.ifCond .eq 13, 3) := by decide +kernel
theorem dX10_way_38 : decode cX10_way 38 = .ok (.aload_n 0, 1) := by decide +kernel
theorem dX10_way_39 : decode cX10_way 39 = .ok (.iload_n 1, 1) := by decide +kernel
theorem dX10_way_40 : decode cX10_way 40 = .ok (.iload_n 2, 1) := by decide +kernel
theorem dX10_way_41 : decode cX10_way 41 = .ok (.iload_n 3, 1) := by decide +kernel
theorem dX10_way_42 : decode cX10_way 42 = .ok (.invokevirtual 78, 3) := by decide +kernel
theorem dX10_way_45 : decode cX10_way 45 = .ok (.goto 8, 3) := by decide +kernel
theorem dX10_way_48 : decode cX10_way 48 = .ok (.aload_n 0, 1) := by decide +kernel
theorem dX10_way_49 : decode cX10_way 49 = .ok (.iconst 2, 1) := by decide +kernel
theorem dX10_way_50 : decode cX10_way 50 = .ok (.invokevirtual 82, 3) := by decide +kernel
theorem dX10_way_53 : decode cX10_way 53 = .ok (.ireturn, 1) := by decide +kernel
theorem dX10_arrives_0 : decode cX10_arrives 0 = .ok (.aload_n 0, 1) := by decide +kernel
theorem dX10_arrives_1 : decode cX10_arrives 1 = .ok (.iconst 0, 1) := by decide +kernel
theorem dX10_arrives_2 : decode cX10_arrives 2 = .ok (.putfield 52, 3) := by decide +kernel
theorem dX10_arrives_5 : decode cX10_arrives 5 = .ok (.iload_n 1, 1) := by decide +kernel
theorem dX10_arrives_6 : decode cX10_arrives 6 = .ok (.iconst 0, 1) := by decide +kernel
theorem dX10_arrives_7 : decode cX10_arrives 7 = .ok (.aload_n 0, 1) := by decide +kernel
theorem dX10_arrives_8 : decode cX10_arrives 8 = .ok (.getfield 95, 3) := by decide +kernel
theorem dX10_arrives_11 : decode cX10_arrives 11 = .ok (.iconst 1, 1) := by decide +kernel
theorem dX10_arrives_12 : decode cX10_arrives 12 = .ok (.isub, 1) := by decide +kernel
theorem dX10_arrives_13 : decode cX10_arrives 13 = .ok (.invokestatic 59, 3) := by decide +kernel
theorem dX10_arrives_16 : decode cX10_arrives 16 = .ok (.ifCond .ne 9, 3) := by decide +kernel
theorem dX10_arrives_19 : decode cX10_arrives 19 = .ok (.aload_n 0, 1) := by decide +kernel
theorem dX10_arrives_20 : decode cX10_arrives 20 = .ok (.iconst 1, 1) := by decide +kernel
theorem dX10_arrives_21 : decode cX10_arrives 21 = .ok (.invokevirtual 82, 3) := by decide +kernel
theorem dX10_arrives_24 : decode cX10_arrives 24 = .ok (.ireturn, 1) := by decide +kernel
theorem dX10_arrives_25 : decode cX10_arrives 25 = .ok (.aload_n 0, 1) := by decide +kernel
theorem dX10_arrives_26 : decode cX10_arrives 26 = .ok (.getfield 49, 3) := by decide +kernel
theorem dX10_arrives_29 : decode cX10_arrives 29 = .ok (.aload_n 0, 1) := by decide +kernel
theorem dX10_arrives_30 : decode cX10_arrives 30 = .ok (.getfield 45, 3) := by decide +kernel
theorem dX10_arrives_33 : decode cX10_arrives 33 = .ok (.invokevirtual 174, 3) := by decide +kernel
theorem dX10_arrives_36 : decode cX10_arrives 36 = .ok (.iconst 0, 1) := by decide +kernel
theorem dX10_arrives_37 : decode cX10_arrives 37 = .ok (.istore_n 2, 1) := by decide +kernel
theorem dX10_arrives_38 : decode cX10_arrives 38 = .ok (.iload_n 2, 1) := by decide +kernel
theorem dX10_arrives_39 : decode cX10_arrives 39 = .ok (.sipush 200, 3) := by decide +kernel
theorem dX10_arrives_42 : decode cX10_arrives 42 = .ok (.if_icmp .ge 30, 3) := by decide +kernel
theorem dX10_arrives_45 : decode cX10_arrives 45 = .ok (.aload_n 0, 1) := by decide +kernel
theorem dX10_arrives_46 : decode cX10_arrives 46 = .ok (.getfield 49, 3) := by decide +kernel
theorem dX10_arrives_49 : decode cX10_arrives 49 = .ok (.getfield 98, 3) := by decide +kernel
theorem dX10_arrives_52 : decode cX10_arrives 52 = .ok (.iload_n 1, 1) := by decide +kernel
theorem dX10_arrives_53 : decode cX10_arrives 53 = .ok (.iaload, 1) := by decide +kernel
theorem dX10_arrives_54 : decode cX10_arrives 54 = .ok (.iconst 2, 1) := by decide +kernel
theorem dX10_arrives_55 : decode cX10_arrives 55 = .ok (.if_icmp .ge 17, 3) := by decide +kernel
theorem dX10_arrives_58 : decode cX10_arrives 58 = .ok (.aload_n 0, 1) := by decide +kernel
theorem dX10_arrives_59 : decode cX10_arrives 59 = .ok (.getfield 49, 3) := by decide +kernel
theorem dX10_arrives_62 : decode cX10_arrives 62 = .ok (.invokevirtual 164, 3) := by decide +kernel
theorem dX10_arrives_65 : decode cX10_arrives 65 = .ok (.pop, 1) := by decide +kernel
theorem dX10_arrives_66 : decode cX10_arrives 66 = .ok (.iinc 2 1, 3) := by decide +kernel
theorem dX10_arrives_69 : decode cX10_arrives 69 = .ok (.goto (-31), 3) := by decide +kernel
theorem dX10_arrives_72 : decode cX10_arrives 72 = .ok (.aload_n 0, 1) := by decide +kernel
theorem dX10_arrives_73 : decode cX10_arrives 73 = .ok (.getfield 49, 3) := by decide +kernel
theorem dX10_arrives_76 : decode cX10_arrives 76 = .ok (.getfield 136, 3) := by decide +kernel
theorem dX10_arrives_79 : decode cX10_arrives 79 = .ok (.iload_n 1, 1) := by decide +kernel
theorem dX10_arrives_80 : decode cX10_arrives 80 = .ok (.iaload, 1) := by decide +kernel
theorem dX10_arrives_81 : decode cX10_arrives 81 = .ok (.ireturn, 1) := by decide +kernel
theorem dX10_arrivedIn_0 : decode cX10_arrivedIn 0 = .ok (.iconst 0, 1) := by decide +kernel
theorem dX10_arrivedIn_1 : decode cX10_arrivedIn 1 = .ok (.istore_n 2, 1) := by decide +kernel
theorem dX10_arrivedIn_2 : decode cX10_arrivedIn 2 = .ok (.iload_n 2, 1) := by decide +kernel
theorem dX10_arrivedIn_3 : decode cX10_arrivedIn 3 = .ok (.iload_n 1, 1) := by decide +kernel
theorem dX10_arrivedIn_4 : decode cX10_arrivedIn 4 = .ok (.if_icmp .ge 17, 3) := by decide +kernel
theorem dX10_arrivedIn_7 : decode cX10_arrivedIn 7 = .ok (.aload_n 0, 1) := by decide +kernel
theorem dX10_arrivedIn_8 : decode cX10_arrivedIn 8 = .ok (.getfield 49, 3) := by decide +kernel
theorem dX10_arrivedIn_11 : decode cX10_arrivedIn 11 = .ok (.invokevirtual 164, 3) := by decide +kernel
theorem dX10_arrivedIn_14 : decode cX10_arrivedIn 14 = .ok (.pop, 1) := by decide +kernel
theorem dX10_arrivedIn_15 : decode cX10_arrivedIn 15 = .ok (.iinc 2 1, 3) := by decide +kernel
theorem dX10_arrivedIn_18 : decode cX10_arrivedIn 18 = .ok (.goto (-16), 3) := by decide +kernel
theorem dX10_arrivedIn_21 : decode cX10_arrivedIn 21 = .ok (.aload_n 0, 1) := by decide +kernel
theorem dX10_arrivedIn_22 : decode cX10_arrivedIn 22 = .ok (.getfield 49, 3) := by decide +kernel
theorem dX10_arrivedIn_25 : decode cX10_arrivedIn 25 = .ok (.iconst 2, 1) := by decide +kernel
theorem dX10_arrivedIn_26 : decode cX10_arrivedIn 26 = .ok (.invokevirtual 168, 3) := by decide +kernel
theorem dX10_arrivedIn_29 : decode cX10_arrivedIn 29 = .ok (.ireturn, 1) := by decide +kernel
theorem dX10_advise_0 : decode cX10_advise 0 = .ok (.aload_n 0, 1) := by decide +kernel
theorem dX10_advise_1 : decode cX10_advise 1 = .ok (.iconst 0, 1) := by decide +kernel
theorem dX10_advise_2 : decode cX10_advise 2 = .ok (.putfield 52, 3) := by decide +kernel
theorem dX10_advise_5 : decode cX10_advise 5 = .ok (.iload_n 1, 1) := by decide +kernel
theorem dX10_advise_6 : decode cX10_advise 6 = .ok (.iconst 1, 1) := by decide +kernel
theorem dX10_advise_7 : decode cX10_advise 7 = .ok (.bipush 30, 2) := by decide +kernel
theorem dX10_advise_9 : decode cX10_advise 9 = .ok (.invokestatic 59, 3) := by decide +kernel
theorem dX10_advise_12 : decode cX10_advise 12 = .ok (.ifCond .ne 9, 3) := by decide +kernel
theorem dX10_advise_15 : decode cX10_advise 15 = .ok (.aload_n 0, 1) := by decide +kernel
theorem dX10_advise_16 : decode cX10_advise 16 = .ok (.iconst 1, 1) := by decide +kernel
theorem dX10_advise_17 : decode cX10_advise 17 = .ok (.invokevirtual 82, 3) := by decide +kernel
theorem dX10_advise_20 : decode cX10_advise 20 = .ok (.ireturn, 1) := by decide +kernel
theorem dX10_advise_21 : decode cX10_advise 21 = .ok (.aload_n 0, 1) := by decide +kernel
theorem dX10_advise_22 : decode cX10_advise 22 = .ok (.getfield 49, 3) := by decide +kernel
theorem dX10_advise_25 : decode cX10_advise 25 = .ok (.aload_n 0, 1) := by decide +kernel
theorem dX10_advise_26 : decode cX10_advise 26 = .ok (.getfield 45, 3) := by decide +kernel
theorem dX10_advise_29 : decode cX10_advise 29 = .ok (.invokevirtual 174, 3) := by decide +kernel
theorem dX10_advise_32 : decode cX10_advise 32 = .ok (.iconst (-1), 1) := by decide +kernel
theorem dX10_advise_33 : decode cX10_advise 33 = .ok (.istore_n 2, 1) := by decide +kernel
theorem dX10_advise_34 : decode cX10_advise 34 = .ok (.aload_n 0, 1) := by decide +kernel
theorem dX10_advise_35 : decode cX10_advise 35 = .ok (.iload_n 1, 1) := by decide +kernel
theorem dX10_advise_36 : decode cX10_advise 36 = .ok (.invokevirtual 178, 3) := by decide +kernel
theorem dX10_advise_39 : decode cX10_advise 39 = .ok (.istore_n 3, 1) := by decide +kernel
theorem dX10_advise_40 : decode cX10_advise 40 = .ok (.iconst 0, 1) := by decide +kernel
theorem dX10_advise_41 : decode cX10_advise 41 = .ok (.istore 4, 2) := by decide +kernel
theorem dX10_advise_43 : decode cX10_advise 43 = .ok (.iload 4, 2) := by decide +kernel
theorem dX10_advise_45 : decode cX10_advise 45 = .ok (.aload_n 0, 1) := by decide +kernel
theorem dX10_advise_46 : decode cX10_advise 46 = .ok (.getfield 63, 3) := by decide +kernel
theorem dX10_advise_49 : decode cX10_advise 49 = .ok (.if_icmp .ge 73, 3) := by decide +kernel
theorem dX10_advise_52 : decode cX10_advise 52 = .ok (.aload_n 0, 1) := by decide +kernel
theorem dX10_advise_53 : decode cX10_advise 53 = .ok (.getfield 45, 3) := by decide +kernel
theorem dX10_advise_56 : decode cX10_advise 56 = .ok (.getfield 89, 3) := by decide +kernel
theorem dX10_advise_59 : decode cX10_advise 59 = .ok (.iload 4, 2) := by decide +kernel
theorem dX10_advise_61 : decode cX10_advise 61 = .ok (.iaload, 1) := by decide +kernel
theorem dX10_advise_62 : decode cX10_advise 62 = .ok (.iconst 3, 1) := by decide +kernel
theorem dX10_advise_63 : decode cX10_advise 63 = .ok (.if_icmp .ne 6, 3) := by decide +kernel
theorem dX10_advise_66 : decode cX10_advise 66 = .ok (.goto 50, 3) := by decide +kernel
theorem dX10_advise_69 : decode cX10_advise 69 = .ok (.aload_n 0, 1) := by decide +kernel
theorem dX10_advise_70 : decode cX10_advise 70 = .ok (.getfield 49, 3) := by decide +kernel
theorem dX10_advise_73 : decode cX10_advise 73 = .ok (.aload_n 0, 1) := by decide +kernel
theorem dX10_advise_74 : decode cX10_advise 74 = .ok (.getfield 45, 3) := by decide +kernel
theorem dX10_advise_77 : decode cX10_advise 77 = .ok (.invokevirtual 174, 3) := by decide +kernel
theorem dX10_advise_80 : decode cX10_advise 80 = .ok (.aload_n 0, 1) := by decide +kernel
theorem dX10_advise_81 : decode cX10_advise 81 = .ok (.getfield 49, 3) := by decide +kernel
theorem dX10_advise_84 : decode cX10_advise 84 = .ok (.getfield 89, 3) := by decide +kernel
theorem dX10_advise_87 : decode cX10_advise 87 = .ok (.iload 4, 2) := by decide +kernel
theorem dX10_advise_89 : decode cX10_advise 89 = .ok (.dup2, 1) := by decide +kernel
theorem dX10_advise_90 : decode cX10_advise 90 = .ok (.iaload, 1) := by decide +kernel
theorem dX10_advise_91 : decode cX10_advise 91 = .ok (.iconst 1, 1) := by decide +kernel
theorem dX10_advise_92 : decode cX10_advise 92 = .ok (.iadd, 1) := by decide +kernel
theorem dX10_advise_93 : decode cX10_advise 93 = .ok (.iastore, 1) := by decide +kernel
theorem dX10_advise_94 : decode cX10_advise 94 = .ok (.aload_n 0, 1) := by decide +kernel
theorem dX10_advise_95 : decode cX10_advise 95 = .ok (.iload_n 1, 1) := by decide +kernel
theorem dX10_advise_96 : decode cX10_advise 96 = .ok (.invokevirtual 178, 3) := by decide +kernel
theorem dX10_advise_99 : decode cX10_advise 99 = .ok (.istore 5, 2) := by decide +kernel
theorem dX10_advise_101 : decode cX10_advise 101 = .ok (.iload 5, 2) := by decide +kernel
theorem dX10_advise_103 : decode cX10_advise 103 = .ok (.iload_n 3, 1) := by decide +kernel
theorem dX10_advise_104 : decode cX10_advise 104 = .ok (.if_icmp .gt 6, 3) := by decide +kernel
theorem dX10_advise_107 : decode cX10_advise 107 = .ok (.goto 9, 3) := by decide +kernel
theorem dX10_advise_110 : decode cX10_advise 110 = .ok (.iload 4, 2) := by decide +kernel
theorem dX10_advise_112 : decode cX10_advise 112 = .ok (.istore_n 2, 1) := by decide +kernel
theorem dX10_advise_113 : decode cX10_advise 113 = .ok (.iload 5, 2) := by decide +kernel
theorem dX10_advise_115 : decode cX10_advise 115 = .ok (.istore_n 3, 1) := by decide +kernel
theorem dX10_advise_116 : decode cX10_advise 116 = .ok (.iinc 4 1, 3) := by decide +kernel
theorem dX10_advise_119 : decode cX10_advise 119 = .ok (.goto (-76), 3) := by decide +kernel
theorem dX10_advise_122 : decode cX10_advise 122 = .ok (.iload_n 2, 1) := by decide +kernel
theorem dX10_advise_123 : decode cX10_advise 123 = .ok (.ireturn, 1) := by decide +kernel
theorem dX10_mean_0 : decode cX10_mean 0 = .ok (.aload_n 0, 1) := by decide +kernel
theorem dX10_mean_1 : decode cX10_mean 1 = .ok (.iconst 0, 1) := by decide +kernel
theorem dX10_mean_2 : decode cX10_mean 2 = .ok (.putfield 52, 3) := by decide +kernel
theorem dX10_mean_5 : decode cX10_mean 5 = .ok (.iconst 0, 1) := by decide +kernel
theorem dX10_mean_6 : decode cX10_mean 6 = .ok (.istore_n 1, 1) := by decide +kernel
theorem dX10_mean_7 : decode cX10_mean 7 = .ok (.iconst 0, 1) := by decide +kernel
theorem dX10_mean_8 : decode cX10_mean 8 = .ok (.istore_n 2, 1) := by decide +kernel
theorem dX10_mean_9 : decode cX10_mean 9 = .ok (.iload_n 2, 1) := by decide +kernel
theorem dX10_mean_10 : decode cX10_mean 10 = .ok (.aload_n 0, 1) := by decide +kernel
theorem dX10_mean_11 : decode cX10_mean 11 = .ok (.getfield 95, 3) := by decide +kernel
theorem dX10_mean_14 : decode cX10_mean 14 = .ok (.if_icmp .ge 38, 3) := by decide +kernel
theorem dX10_mean_17 : decode cX10_mean 17 = .ok (.iload_n 1, 1) := by decide +kernel
theorem dX10_mean_18 : decode cX10_mean 18 = .ok (.aload_n 0, 1) := by decide +kernel
theorem dX10_mean_19 : decode cX10_mean 19 = .ok (.getfield 45, 3) := by decide +kernel
theorem dX10_mean_22 : decode cX10_mean 22 = .ok (.getfield 98, 3) := by decide +kernel
theorem dX10_mean_25 : decode cX10_mean 25 = .ok (.iload_n 2, 1) := by decide +kernel
theorem dX10_mean_26 : decode cX10_mean 26 = .ok (.iaload, 1) := by decide +kernel
theorem dX10_mean_27 : decode cX10_mean 27 = .ok (.iconst 2, 1) := by decide +kernel
theorem dX10_mean_28 : decode cX10_mean 28 = .ok (.if_icmp .ne 15, 3) := by decide +kernel
theorem dX10_mean_31 : decode cX10_mean 31 = .ok (.aload_n 0, 1) := by decide +kernel
theorem dX10_mean_32 : decode cX10_mean 32 = .ok (.getfield 45, 3) := by decide +kernel
theorem dX10_mean_35 : decode cX10_mean 35 = .ok (.getfield 136, 3) := by decide +kernel
theorem dX10_mean_38 : decode cX10_mean 38 = .ok (.iload_n 2, 1) := by decide +kernel
theorem dX10_mean_39 : decode cX10_mean 39 = .ok (.iaload, 1) := by decide +kernel
theorem dX10_mean_40 : decode cX10_mean 40 = .ok (.goto 4, 3) := by decide +kernel
theorem dX10_mean_43 : decode cX10_mean 43 = .ok (.iconst 0, 1) := by decide +kernel
theorem dX10_mean_44 : decode cX10_mean 44 = .ok (.iadd, 1) := by decide +kernel
theorem dX10_mean_45 : decode cX10_mean 45 = .ok (.istore_n 1, 1) := by decide +kernel
theorem dX10_mean_46 : decode cX10_mean 46 = .ok (.iinc 2 1, 3) := by decide +kernel
theorem dX10_mean_49 : decode cX10_mean 49 = .ok (.goto (-40), 3) := by decide +kernel
theorem dX10_mean_52 : decode cX10_mean 52 = .ok (.aload_n 0, 1) := by decide +kernel
theorem dX10_mean_53 : decode cX10_mean 53 = .ok (.getfield 45, 3) := by decide +kernel
theorem dX10_mean_56 : decode cX10_mean 56 = .ok (.iconst 2, 1) := by decide +kernel
theorem dX10_mean_57 : decode cX10_mean 57 = .ok (.invokevirtual 168, 3) := by decide +kernel
theorem dX10_mean_60 : decode cX10_mean 60 = .ok (.ifCond .ne 7, 3) := by decide +kernel
theorem dX10_mean_63 : decode cX10_mean 63 = .ok (.dconst 0, 1) := by decide +kernel
theorem dX10_mean_64 : decode cX10_mean 64 = .ok (.goto 15, 3) := by decide +kernel
theorem dX10_mean_67 : decode cX10_mean 67 = .ok (.iload_n 1, 1) := by decide +kernel
theorem dX10_mean_68 : decode cX10_mean 68 = .ok (.i2d, 1) := by decide +kernel
theorem dX10_mean_69 : decode cX10_mean 69 = .ok (.aload_n 0, 1) := by decide +kernel
theorem dX10_mean_70 : decode cX10_mean 70 = .ok (.getfield 45, 3) := by decide +kernel
theorem dX10_mean_73 : decode cX10_mean 73 = .ok (.iconst 2, 1) := by decide +kernel
theorem dX10_mean_74 : decode cX10_mean 74 = .ok (.invokevirtual 168, 3) := by decide +kernel
theorem dX10_mean_77 : decode cX10_mean 77 = .ok (.i2d, 1) := by decide +kernel
theorem dX10_mean_78 : decode cX10_mean 78 = .ok (.ddiv, 1) := by decide +kernel
theorem dX10_mean_79 : decode cX10_mean 79 = .ok (.dreturn, 1) := by decide +kernel
theorem dX10_digest_0 : decode cX10_digest 0 = .ok (.aload_n 0, 1) := by decide +kernel
theorem dX10_digest_1 : decode cX10_digest 1 = .ok (.iconst 0, 1) := by decide +kernel
theorem dX10_digest_2 : decode cX10_digest 2 = .ok (.putfield 52, 3) := by decide +kernel
theorem dX10_digest_5 : decode cX10_digest 5 = .ok (.ldc2_w 181, 3) := by decide +kernel
theorem dX10_digest_8 : decode cX10_digest 8 = .ok (.lstore_n 1, 1) := by decide +kernel
theorem dX10_digest_9 : decode cX10_digest 9 = .ok (.iconst 0, 1) := by decide +kernel
theorem dX10_digest_10 : decode cX10_digest 10 = .ok (.istore_n 3, 1) := by decide +kernel
theorem dX10_digest_11 : decode cX10_digest 11 = .ok (.iload_n 3, 1) := by decide +kernel
theorem dX10_digest_12 : decode cX10_digest 12 = .ok (.bipush 10, 2) := by decide +kernel
theorem dX10_digest_14 : decode cX10_digest 14 = .ok (.if_icmp .ge 22, 3) := by decide +kernel
theorem dX10_digest_17 : decode cX10_digest 17 = .ok (.lload_n 1, 1) := by decide +kernel
theorem dX10_digest_18 : decode cX10_digest 18 = .ok (.ldc2_w 183, 3) := by decide +kernel
theorem dX10_digest_21 : decode cX10_digest 21 = .ok (.lmul, 1) := by decide +kernel
theorem dX10_digest_22 : decode cX10_digest 22 = .ok (.aload_n 0, 1) := by decide +kernel
theorem dX10_digest_23 : decode cX10_digest 23 = .ok (.iload_n 3, 1) := by decide +kernel
theorem dX10_digest_24 : decode cX10_digest 24 = .ok (.invokevirtual 171, 3) := by decide +kernel
theorem dX10_digest_27 : decode cX10_digest 27 = .ok (.i2l, 1) := by decide +kernel
theorem dX10_digest_28 : decode cX10_digest 28 = .ok (.ladd, 1) := by decide +kernel
theorem dX10_digest_29 : decode cX10_digest 29 = .ok (.lstore_n 1, 1) := by decide +kernel
theorem dX10_digest_30 : decode cX10_digest 30 = .ok (.iinc 3 1, 3) := by decide +kernel
theorem dX10_digest_33 : decode cX10_digest 33 = .ok (.goto (-22), 3) := by decide +kernel
theorem dX10_digest_36 : decode cX10_digest 36 = .ok (.iconst 0, 1) := by decide +kernel
theorem dX10_digest_37 : decode cX10_digest 37 = .ok (.istore_n 3, 1) := by decide +kernel
theorem dX10_digest_38 : decode cX10_digest 38 = .ok (.iload_n 3, 1) := by decide +kernel
theorem dX10_digest_39 : decode cX10_digest 39 = .ok (.bipush 12, 2) := by decide +kernel
theorem dX10_digest_41 : decode cX10_digest 41 = .ok (.if_icmp .ge 23, 3) := by decide +kernel
theorem dX10_digest_44 : decode cX10_digest 44 = .ok (.lload_n 1, 1) := by decide +kernel
theorem dX10_digest_45 : decode cX10_digest 45 = .ok (.ldc2_w 183, 3) := by decide +kernel
theorem dX10_digest_48 : decode cX10_digest 48 = .ok (.lmul, 1) := by decide +kernel
theorem dX10_digest_49 : decode cX10_digest 49 = .ok (.aload_n 0, 1) := by decide +kernel
theorem dX10_digest_50 : decode cX10_digest 50 = .ok (.getfield 28, 3) := by decide +kernel
theorem dX10_digest_53 : decode cX10_digest 53 = .ok (.iload_n 3, 1) := by decide +kernel
theorem dX10_digest_54 : decode cX10_digest 54 = .ok (.iaload, 1) := by decide +kernel
theorem dX10_digest_55 : decode cX10_digest 55 = .ok (.i2l, 1) := by decide +kernel
theorem dX10_digest_56 : decode cX10_digest 56 = .ok (.ladd, 1) := by decide +kernel
theorem dX10_digest_57 : decode cX10_digest 57 = .ok (.lstore_n 1, 1) := by decide +kernel
theorem dX10_digest_58 : decode cX10_digest 58 = .ok (.iinc 3 1, 3) := by decide +kernel
theorem dX10_digest_61 : decode cX10_digest 61 = .ok (.goto (-23), 3) := by decide +kernel
theorem dX10_digest_64 : decode cX10_digest 64 = .ok (.iconst 0, 1) := by decide +kernel
theorem dX10_digest_65 : decode cX10_digest 65 = .ok (.istore_n 3, 1) := by decide +kernel
theorem dX10_digest_66 : decode cX10_digest 66 = .ok (.iload_n 3, 1) := by decide +kernel
theorem dX10_digest_67 : decode cX10_digest 67 = .ok (.aload_n 0, 1) := by decide +kernel
theorem dX10_digest_68 : decode cX10_digest 68 = .ok (.getfield 56, 3) := by decide +kernel
theorem dX10_digest_71 : decode cX10_digest 71 = .ok (.if_icmp .ge 86, 3) := by decide +kernel
theorem dX10_digest_74 : decode cX10_digest 74 = .ok (.iconst 0, 1) := by decide +kernel
theorem dX10_digest_75 : decode cX10_digest 75 = .ok (.istore 4, 2) := by decide +kernel
theorem dX10_digest_77 : decode cX10_digest 77 = .ok (.iload 4, 2) := by decide +kernel
theorem dX10_digest_79 : decode cX10_digest 79 = .ok (.bipush 8, 2) := by decide +kernel
theorem dX10_digest_81 : decode cX10_digest 81 = .ok (.if_icmp .ge 24, 3) := by decide +kernel
theorem dX10_digest_84 : decode cX10_digest 84 = .ok (.lload_n 1, 1) := by decide +kernel
theorem dX10_digest_85 : decode cX10_digest 85 = .ok (.ldc2_w 183, 3) := by decide +kernel
theorem dX10_digest_88 : decode cX10_digest 88 = .ok (.lmul, 1) := by decide +kernel
theorem dX10_digest_89 : decode cX10_digest 89 = .ok (.aload_n 0, 1) := by decide +kernel
theorem dX10_digest_90 : decode cX10_digest 90 = .ok (.iload_n 3, 1) := by decide +kernel
theorem dX10_digest_91 : decode cX10_digest 91 = .ok (.iload 4, 2) := by decide +kernel
theorem dX10_digest_93 : decode cX10_digest 93 = .ok (.invokevirtual 107, 3) := by decide +kernel
theorem dX10_digest_96 : decode cX10_digest 96 = .ok (.i2l, 1) := by decide +kernel
theorem dX10_digest_97 : decode cX10_digest 97 = .ok (.ladd, 1) := by decide +kernel
theorem dX10_digest_98 : decode cX10_digest 98 = .ok (.lstore_n 1, 1) := by decide +kernel
theorem dX10_digest_99 : decode cX10_digest 99 = .ok (.iinc 4 1, 3) := by decide +kernel
theorem dX10_digest_102 : decode cX10_digest 102 = .ok (.goto (-25), 3) := by decide +kernel
theorem dX10_digest_105 : decode cX10_digest 105 = .ok (.iconst 0, 1) := by decide +kernel
theorem dX10_digest_106 : decode cX10_digest 106 = .ok (.istore 4, 2) := by decide +kernel
theorem dX10_digest_108 : decode cX10_digest 108 = .ok (.iload 4, 2) := by decide +kernel
theorem dX10_digest_110 : decode cX10_digest 110 = .ok (.aload_n 0, 1) := by decide +kernel
theorem dX10_digest_111 : decode cX10_digest 111 = .ok (.getfield 45, 3) := by decide +kernel
theorem dX10_digest_114 : decode cX10_digest 114 = .ok (.getfield 101, 3) := by decide +kernel
theorem dX10_digest_117 : decode cX10_digest 117 = .ok (.iload_n 3, 1) := by decide +kernel
theorem dX10_digest_118 : decode cX10_digest 118 = .ok (.iaload, 1) := by decide +kernel
theorem dX10_digest_119 : decode cX10_digest 119 = .ok (.if_icmp .ge 32, 3) := by decide +kernel
theorem dX10_digest_122 : decode cX10_digest 122 = .ok (.lload_n 1, 1) := by decide +kernel
theorem dX10_digest_123 : decode cX10_digest 123 = .ok (.ldc2_w 183, 3) := by decide +kernel
theorem dX10_digest_126 : decode cX10_digest 126 = .ok (.lmul, 1) := by decide +kernel
theorem dX10_digest_127 : decode cX10_digest 127 = .ok (.aload_n 0, 1) := by decide +kernel
theorem dX10_digest_128 : decode cX10_digest 128 = .ok (.getfield 45, 3) := by decide +kernel
theorem dX10_digest_131 : decode cX10_digest 131 = .ok (.getfield 104, 3) := by decide +kernel
theorem dX10_digest_134 : decode cX10_digest 134 = .ok (.bipush 12, 2) := by decide +kernel
theorem dX10_digest_136 : decode cX10_digest 136 = .ok (.iload_n 3, 1) := by decide +kernel
theorem dX10_digest_137 : decode cX10_digest 137 = .ok (.imul, 1) := by decide +kernel
theorem dX10_digest_138 : decode cX10_digest 138 = .ok (.iload 4, 2) := by decide +kernel
theorem dX10_digest_140 : decode cX10_digest 140 = .ok (.iadd, 1) := by decide +kernel
theorem dX10_digest_141 : decode cX10_digest 141 = .ok (.iaload, 1) := by decide +kernel
theorem dX10_digest_142 : decode cX10_digest 142 = .ok (.i2l, 1) := by decide +kernel
theorem dX10_digest_143 : decode cX10_digest 143 = .ok (.ladd, 1) := by decide +kernel
theorem dX10_digest_144 : decode cX10_digest 144 = .ok (.lstore_n 1, 1) := by decide +kernel
theorem dX10_digest_145 : decode cX10_digest 145 = .ok (.iinc 4 1, 3) := by decide +kernel
theorem dX10_digest_148 : decode cX10_digest 148 = .ok (.goto (-40), 3) := by decide +kernel
theorem dX10_digest_151 : decode cX10_digest 151 = .ok (.iinc 3 1, 3) := by decide +kernel
theorem dX10_digest_154 : decode cX10_digest 154 = .ok (.goto (-88), 3) := by decide +kernel
theorem dX10_digest_157 : decode cX10_digest 157 = .ok (.iconst 0, 1) := by decide +kernel
theorem dX10_digest_158 : decode cX10_digest 158 = .ok (.istore_n 3, 1) := by decide +kernel
theorem dX10_digest_159 : decode cX10_digest 159 = .ok (.iload_n 3, 1) := by decide +kernel
theorem dX10_digest_160 : decode cX10_digest 160 = .ok (.aload_n 0, 1) := by decide +kernel
theorem dX10_digest_161 : decode cX10_digest 161 = .ok (.getfield 63, 3) := by decide +kernel
theorem dX10_digest_164 : decode cX10_digest 164 = .ok (.if_icmp .ge 40, 3) := by decide +kernel
theorem dX10_digest_167 : decode cX10_digest 167 = .ok (.iconst 0, 1) := by decide +kernel
theorem dX10_digest_168 : decode cX10_digest 168 = .ok (.istore 4, 2) := by decide +kernel
theorem dX10_digest_170 : decode cX10_digest 170 = .ok (.iload 4, 2) := by decide +kernel
theorem dX10_digest_172 : decode cX10_digest 172 = .ok (.bipush 11, 2) := by decide +kernel
theorem dX10_digest_174 : decode cX10_digest 174 = .ok (.if_icmp .ge 24, 3) := by decide +kernel
theorem dX10_digest_177 : decode cX10_digest 177 = .ok (.lload_n 1, 1) := by decide +kernel
theorem dX10_digest_178 : decode cX10_digest 178 = .ok (.ldc2_w 183, 3) := by decide +kernel
theorem dX10_digest_181 : decode cX10_digest 181 = .ok (.lmul, 1) := by decide +kernel
theorem dX10_digest_182 : decode cX10_digest 182 = .ok (.aload_n 0, 1) := by decide +kernel
theorem dX10_digest_183 : decode cX10_digest 183 = .ok (.iload_n 3, 1) := by decide +kernel
theorem dX10_digest_184 : decode cX10_digest 184 = .ok (.iload 4, 2) := by decide +kernel
theorem dX10_digest_186 : decode cX10_digest 186 = .ok (.invokevirtual 130, 3) := by decide +kernel
theorem dX10_digest_189 : decode cX10_digest 189 = .ok (.i2l, 1) := by decide +kernel
theorem dX10_digest_190 : decode cX10_digest 190 = .ok (.ladd, 1) := by decide +kernel
theorem dX10_digest_191 : decode cX10_digest 191 = .ok (.lstore_n 1, 1) := by decide +kernel
theorem dX10_digest_192 : decode cX10_digest 192 = .ok (.iinc 4 1, 3) := by decide +kernel
theorem dX10_digest_195 : decode cX10_digest 195 = .ok (.goto (-25), 3) := by decide +kernel
theorem dX10_digest_198 : decode cX10_digest 198 = .ok (.iinc 3 1, 3) := by decide +kernel
theorem dX10_digest_201 : decode cX10_digest 201 = .ok (.goto (-42), 3) := by decide +kernel
theorem dX10_digest_204 : decode cX10_digest 204 = .ok (.iconst 0, 1) := by decide +kernel
theorem dX10_digest_205 : decode cX10_digest 205 = .ok (.istore_n 3, 1) := by decide +kernel
theorem dX10_digest_206 : decode cX10_digest 206 = .ok (.iload_n 3, 1) := by decide +kernel
theorem dX10_digest_207 : decode cX10_digest 207 = .ok (.aload_n 0, 1) := by decide +kernel
theorem dX10_digest_208 : decode cX10_digest 208 = .ok (.getfield 95, 3) := by decide +kernel
theorem dX10_digest_211 : decode cX10_digest 211 = .ok (.if_icmp .ge 40, 3) := by decide +kernel
theorem dX10_digest_214 : decode cX10_digest 214 = .ok (.iconst 0, 1) := by decide +kernel
theorem dX10_digest_215 : decode cX10_digest 215 = .ok (.istore 4, 2) := by decide +kernel
theorem dX10_digest_217 : decode cX10_digest 217 = .ok (.iload 4, 2) := by decide +kernel
theorem dX10_digest_219 : decode cX10_digest 219 = .ok (.bipush 11, 2) := by decide +kernel
theorem dX10_digest_221 : decode cX10_digest 221 = .ok (.if_icmp .ge 24, 3) := by decide +kernel
theorem dX10_digest_224 : decode cX10_digest 224 = .ok (.lload_n 1, 1) := by decide +kernel
theorem dX10_digest_225 : decode cX10_digest 225 = .ok (.ldc2_w 183, 3) := by decide +kernel
theorem dX10_digest_228 : decode cX10_digest 228 = .ok (.lmul, 1) := by decide +kernel
theorem dX10_digest_229 : decode cX10_digest 229 = .ok (.aload_n 0, 1) := by decide +kernel
theorem dX10_digest_230 : decode cX10_digest 230 = .ok (.iload_n 3, 1) := by decide +kernel
theorem dX10_digest_231 : decode cX10_digest 231 = .ok (.iload 4, 2) := by decide +kernel
theorem dX10_digest_233 : decode cX10_digest 233 = .ok (.invokevirtual 161, 3) := by decide +kernel
theorem dX10_digest_236 : decode cX10_digest 236 = .ok (.i2l, 1) := by decide +kernel
theorem dX10_digest_237 : decode cX10_digest 237 = .ok (.ladd, 1) := by decide +kernel
theorem dX10_digest_238 : decode cX10_digest 238 = .ok (.lstore_n 1, 1) := by decide +kernel
theorem dX10_digest_239 : decode cX10_digest 239 = .ok (.iinc 4 1, 3) := by decide +kernel
theorem dX10_digest_242 : decode cX10_digest 242 = .ok (.goto (-25), 3) := by decide +kernel
theorem dX10_digest_245 : decode cX10_digest 245 = .ok (.iinc 3 1, 3) := by decide +kernel
theorem dX10_digest_248 : decode cX10_digest 248 = .ok (.goto (-42), 3) := by decide +kernel
theorem dX10_digest_251 : decode cX10_digest 251 = .ok (.lload_n 1, 1) := by decide +kernel
theorem dX10_digest_252 : decode cX10_digest 252 = .ok (.lreturn, 1) := by decide +kernel
end
section
theorem dL_build_0 : decode cL_build 0 = .ok (.aload 4, 2) := by decide +kernel
theorem dL_build_2 : decode cL_build 2 = .ok (.iconst 0, 1) := by decide +kernel
theorem dL_build_3 : decode cL_build 3 = .ok (.aload_n 0, 1) := by decide +kernel
theorem dL_build_4 : decode cL_build 4 = .ok (.iload_n 1, 1) := by decide +kernel
theorem dL_build_5 : decode cL_build 5 = .ok (.iload_n 2, 1) := by decide +kernel
theorem dL_build_6 : decode cL_build 6 = .ok (.iload_n 3, 1) := by decide +kernel
theorem dL_build_7 : decode cL_build 7 = .ok (.invokevirtual 7, 3) := by decide +kernel
theorem dL_build_10 : decode cL_build 10 = .ok (.i2l, 1) := by decide +kernel
theorem dL_build_11 : decode cL_build 11 = .ok (.lastore, 1) := by decide +kernel
theorem dL_build_12 : decode cL_build 12 = .ok (.goto 11, 3) := by decide +kernel
theorem dL_build_15 : decode cL_build 15 = .ok (.astore 5, 2) := by decide +kernel
theorem dL_build_17 : decode cL_build 17 = .ok (.iconst 1, 1) := by decide +kernel
theorem dL_build_18 : decode cL_build 18 = .ok (.ireturn, 1) := by decide +kernel
theorem dL_build_19 : decode cL_build 19 = .ok (.astore 5, 2) := by decide +kernel
theorem dL_build_21 : decode cL_build 21 = .ok (.iconst 2, 1) := by decide +kernel
theorem dL_build_22 : decode cL_build 22 = .ok (.ireturn, 1) := by decide +kernel
theorem dL_build_23 : decode cL_build 23 = .ok (.iconst 0, 1) := by decide +kernel
theorem dL_build_24 : decode cL_build 24 = .ok (.ireturn, 1) := by decide +kernel
theorem dL_span_0 : decode cL_span 0 = .ok (.aload 5, 2) := by decide +kernel
theorem dL_span_2 : decode cL_span 2 = .ok (.iconst 0, 1) := by decide +kernel
theorem dL_span_3 : decode cL_span 3 = .ok (.aload_n 0, 1) := by decide +kernel
theorem dL_span_4 : decode cL_span 4 = .ok (.iload_n 1, 1) := by decide +kernel
theorem dL_span_5 : decode cL_span 5 = .ok (.iload_n 2, 1) := by decide +kernel
theorem dL_span_6 : decode cL_span 6 = .ok (.iload_n 3, 1) := by decide +kernel
theorem dL_span_7 : decode cL_span 7 = .ok (.iload 4, 2) := by decide +kernel
theorem dL_span_9 : decode cL_span 9 = .ok (.invokevirtual 17, 3) := by decide +kernel
theorem dL_span_12 : decode cL_span 12 = .ok (.i2l, 1) := by decide +kernel
theorem dL_span_13 : decode cL_span 13 = .ok (.lastore, 1) := by decide +kernel
theorem dL_span_14 : decode cL_span 14 = .ok (.goto 15, 3) := by decide +kernel
theorem dL_span_17 : decode cL_span 17 = .ok (.astore 6, 2) := by decide +kernel
theorem dL_span_19 : decode cL_span 19 = .ok (.iconst 1, 1) := by decide +kernel
theorem dL_span_20 : decode cL_span 20 = .ok (.ireturn, 1) := by decide +kernel
theorem dL_span_21 : decode cL_span 21 = .ok (.astore 6, 2) := by decide +kernel
theorem dL_span_23 : decode cL_span 23 = .ok (.iconst 2, 1) := by decide +kernel
theorem dL_span_24 : decode cL_span 24 = .ok (.ireturn, 1) := by decide +kernel
theorem dL_span_25 : decode cL_span 25 = .ok (.astore 6, 2) := by decide +kernel
theorem dL_span_27 : decode cL_span 27 = .ok (.iconst 3, 1) := by decide +kernel
theorem dL_span_28 : decode cL_span 28 = .ok (.ireturn, 1) := by decide +kernel
theorem dL_span_29 : decode cL_span 29 = .ok (.iconst 0, 1) := by decide +kernel
theorem dL_span_30 : decode cL_span 30 = .ok (.ireturn, 1) := by decide +kernel
theorem dL_add_0 : decode cL_add 0 = .ok (.aload_n 2, 1) := by decide +kernel
theorem dL_add_1 : decode cL_add 1 = .ok (.iconst 0, 1) := by decide +kernel
theorem dL_add_2 : decode cL_add 2 = .ok (.aload_n 0, 1) := by decide +kernel
theorem dL_add_3 : decode cL_add 3 = .ok (.iload_n 1, 1) := by decide +kernel
theorem dL_add_4 : decode cL_add 4 = .ok (.invokevirtual 23, 3) := by decide +kernel
theorem dL_add_7 : decode cL_add 7 = .ok (.i2l, 1) := by decide +kernel
theorem dL_add_8 : decode cL_add 8 = .ok (.lastore, 1) := by decide +kernel
theorem dL_add_9 : decode cL_add 9 = .ok (.goto 9, 3) := by decide +kernel
theorem dL_add_12 : decode cL_add 12 = .ok (.astore_n 3, 1) := by decide +kernel
theorem dL_add_13 : decode cL_add 13 = .ok (.iconst 1, 1) := by decide +kernel
theorem dL_add_14 : decode cL_add 14 = .ok (.ireturn, 1) := by decide +kernel
theorem dL_add_15 : decode cL_add 15 = .ok (.astore_n 3, 1) := by decide +kernel
theorem dL_add_16 : decode cL_add 16 = .ok (.iconst 2, 1) := by decide +kernel
theorem dL_add_17 : decode cL_add 17 = .ok (.ireturn, 1) := by decide +kernel
theorem dL_add_18 : decode cL_add 18 = .ok (.iconst 0, 1) := by decide +kernel
theorem dL_add_19 : decode cL_add 19 = .ok (.ireturn, 1) := by decide +kernel
theorem dL_setWind_0 : decode cL_setWind 0 = .ok (.aload_n 3, 1) := by decide +kernel
theorem dL_setWind_1 : decode cL_setWind 1 = .ok (.iconst 0, 1) := by decide +kernel
theorem dL_setWind_2 : decode cL_setWind 2 = .ok (.aload_n 0, 1) := by decide +kernel
theorem dL_setWind_3 : decode cL_setWind 3 = .ok (.iload_n 1, 1) := by decide +kernel
theorem dL_setWind_4 : decode cL_setWind 4 = .ok (.iload_n 2, 1) := by decide +kernel
theorem dL_setWind_5 : decode cL_setWind 5 = .ok (.invokevirtual 27, 3) := by decide +kernel
theorem dL_setWind_8 : decode cL_setWind 8 = .ok (.i2l, 1) := by decide +kernel
theorem dL_setWind_9 : decode cL_setWind 9 = .ok (.lastore, 1) := by decide +kernel
theorem dL_setWind_10 : decode cL_setWind 10 = .ok (.goto 11, 3) := by decide +kernel
theorem dL_setWind_13 : decode cL_setWind 13 = .ok (.astore 4, 2) := by decide +kernel
theorem dL_setWind_15 : decode cL_setWind 15 = .ok (.iconst 1, 1) := by decide +kernel
theorem dL_setWind_16 : decode cL_setWind 16 = .ok (.ireturn, 1) := by decide +kernel
theorem dL_setWind_17 : decode cL_setWind 17 = .ok (.astore 4, 2) := by decide +kernel
theorem dL_setWind_19 : decode cL_setWind 19 = .ok (.iconst 2, 1) := by decide +kernel
theorem dL_setWind_20 : decode cL_setWind 20 = .ok (.ireturn, 1) := by decide +kernel
theorem dL_setWind_21 : decode cL_setWind 21 = .ok (.iconst 0, 1) := by decide +kernel
theorem dL_setWind_22 : decode cL_setWind 22 = .ok (.ireturn, 1) := by decide +kernel
theorem dL_platform_0 : decode cL_platform 0 = .ok (.aload_n 3, 1) := by decide +kernel
theorem dL_platform_1 : decode cL_platform 1 = .ok (.iconst 0, 1) := by decide +kernel
theorem dL_platform_2 : decode cL_platform 2 = .ok (.aload_n 0, 1) := by decide +kernel
theorem dL_platform_3 : decode cL_platform 3 = .ok (.iload_n 1, 1) := by decide +kernel
theorem dL_platform_4 : decode cL_platform 4 = .ok (.iload_n 2, 1) := by decide +kernel
theorem dL_platform_5 : decode cL_platform 5 = .ok (.invokevirtual 31, 3) := by decide +kernel
theorem dL_platform_8 : decode cL_platform 8 = .ok (.i2l, 1) := by decide +kernel
theorem dL_platform_9 : decode cL_platform 9 = .ok (.lastore, 1) := by decide +kernel
theorem dL_platform_10 : decode cL_platform 10 = .ok (.goto 7, 3) := by decide +kernel
theorem dL_platform_13 : decode cL_platform 13 = .ok (.astore 4, 2) := by decide +kernel
theorem dL_platform_15 : decode cL_platform 15 = .ok (.iconst 1, 1) := by decide +kernel
theorem dL_platform_16 : decode cL_platform 16 = .ok (.ireturn, 1) := by decide +kernel
theorem dL_platform_17 : decode cL_platform 17 = .ok (.iconst 0, 1) := by decide +kernel
theorem dL_platform_18 : decode cL_platform 18 = .ok (.ireturn, 1) := by decide +kernel
theorem dL_line_0 : decode cL_line 0 = .ok (.aload_n 3, 1) := by decide +kernel
theorem dL_line_1 : decode cL_line 1 = .ok (.iconst 0, 1) := by decide +kernel
theorem dL_line_2 : decode cL_line 2 = .ok (.aload_n 0, 1) := by decide +kernel
theorem dL_line_3 : decode cL_line 3 = .ok (.iload_n 1, 1) := by decide +kernel
theorem dL_line_4 : decode cL_line 4 = .ok (.iload_n 2, 1) := by decide +kernel
theorem dL_line_5 : decode cL_line 5 = .ok (.invokevirtual 34, 3) := by decide +kernel
theorem dL_line_8 : decode cL_line 8 = .ok (.i2l, 1) := by decide +kernel
theorem dL_line_9 : decode cL_line 9 = .ok (.lastore, 1) := by decide +kernel
theorem dL_line_10 : decode cL_line 10 = .ok (.goto 7, 3) := by decide +kernel
theorem dL_line_13 : decode cL_line 13 = .ok (.astore 4, 2) := by decide +kernel
theorem dL_line_15 : decode cL_line 15 = .ok (.iconst 1, 1) := by decide +kernel
theorem dL_line_16 : decode cL_line 16 = .ok (.ireturn, 1) := by decide +kernel
theorem dL_line_17 : decode cL_line 17 = .ok (.iconst 0, 1) := by decide +kernel
theorem dL_line_18 : decode cL_line 18 = .ok (.ireturn, 1) := by decide +kernel
theorem dL_ride_0 : decode cL_ride 0 = .ok (.aload_n 3, 1) := by decide +kernel
theorem dL_ride_1 : decode cL_ride 1 = .ok (.iconst 0, 1) := by decide +kernel
theorem dL_ride_2 : decode cL_ride 2 = .ok (.aload_n 0, 1) := by decide +kernel
theorem dL_ride_3 : decode cL_ride 3 = .ok (.iload_n 1, 1) := by decide +kernel
theorem dL_ride_4 : decode cL_ride 4 = .ok (.iload_n 2, 1) := by decide +kernel
theorem dL_ride_5 : decode cL_ride 5 = .ok (.invokevirtual 37, 3) := by decide +kernel
theorem dL_ride_8 : decode cL_ride 8 = .ok (.i2l, 1) := by decide +kernel
theorem dL_ride_9 : decode cL_ride 9 = .ok (.lastore, 1) := by decide +kernel
theorem dL_ride_10 : decode cL_ride 10 = .ok (.goto 11, 3) := by decide +kernel
theorem dL_ride_13 : decode cL_ride 13 = .ok (.astore 4, 2) := by decide +kernel
theorem dL_ride_15 : decode cL_ride 15 = .ok (.iconst 1, 1) := by decide +kernel
theorem dL_ride_16 : decode cL_ride 16 = .ok (.ireturn, 1) := by decide +kernel
theorem dL_ride_17 : decode cL_ride 17 = .ok (.astore 4, 2) := by decide +kernel
theorem dL_ride_19 : decode cL_ride 19 = .ok (.iconst 2, 1) := by decide +kernel
theorem dL_ride_20 : decode cL_ride 20 = .ok (.ireturn, 1) := by decide +kernel
theorem dL_ride_21 : decode cL_ride 21 = .ok (.iconst 0, 1) := by decide +kernel
theorem dL_ride_22 : decode cL_ride 22 = .ok (.ireturn, 1) := by decide +kernel
theorem dL_come_0 : decode cL_come 0 = .ok (.aload 5, 2) := by decide +kernel
theorem dL_come_2 : decode cL_come 2 = .ok (.iconst 0, 1) := by decide +kernel
theorem dL_come_3 : decode cL_come 3 = .ok (.aload_n 0, 1) := by decide +kernel
theorem dL_come_4 : decode cL_come 4 = .ok (.iload_n 1, 1) := by decide +kernel
theorem dL_come_5 : decode cL_come 5 = .ok (.iload_n 2, 1) := by decide +kernel
theorem dL_come_6 : decode cL_come 6 = .ok (.iload_n 3, 1) := by decide +kernel
theorem dL_come_7 : decode cL_come 7 = .ok (.iload 4, 2) := by decide +kernel
theorem dL_come_9 : decode cL_come 9 = .ok (.invokevirtual 40, 3) := by decide +kernel
theorem dL_come_12 : decode cL_come 12 = .ok (.i2l, 1) := by decide +kernel
theorem dL_come_13 : decode cL_come 13 = .ok (.lastore, 1) := by decide +kernel
theorem dL_come_14 : decode cL_come 14 = .ok (.goto 15, 3) := by decide +kernel
theorem dL_come_17 : decode cL_come 17 = .ok (.astore 6, 2) := by decide +kernel
theorem dL_come_19 : decode cL_come 19 = .ok (.iconst 1, 1) := by decide +kernel
theorem dL_come_20 : decode cL_come 20 = .ok (.ireturn, 1) := by decide +kernel
theorem dL_come_21 : decode cL_come 21 = .ok (.astore 6, 2) := by decide +kernel
theorem dL_come_23 : decode cL_come 23 = .ok (.iconst 2, 1) := by decide +kernel
theorem dL_come_24 : decode cL_come 24 = .ok (.ireturn, 1) := by decide +kernel
theorem dL_come_25 : decode cL_come 25 = .ok (.astore 6, 2) := by decide +kernel
theorem dL_come_27 : decode cL_come 27 = .ok (.iconst 3, 1) := by decide +kernel
theorem dL_come_28 : decode cL_come 28 = .ok (.ireturn, 1) := by decide +kernel
theorem dL_come_29 : decode cL_come 29 = .ok (.iconst 0, 1) := by decide +kernel
theorem dL_come_30 : decode cL_come 30 = .ok (.ireturn, 1) := by decide +kernel
theorem dL_rider_0 : decode cL_rider 0 = .ok (.aload_n 3, 1) := by decide +kernel
theorem dL_rider_1 : decode cL_rider 1 = .ok (.iconst 0, 1) := by decide +kernel
theorem dL_rider_2 : decode cL_rider 2 = .ok (.aload_n 0, 1) := by decide +kernel
theorem dL_rider_3 : decode cL_rider 3 = .ok (.iload_n 1, 1) := by decide +kernel
theorem dL_rider_4 : decode cL_rider 4 = .ok (.iload_n 2, 1) := by decide +kernel
theorem dL_rider_5 : decode cL_rider 5 = .ok (.invokevirtual 43, 3) := by decide +kernel
theorem dL_rider_8 : decode cL_rider 8 = .ok (.i2l, 1) := by decide +kernel
theorem dL_rider_9 : decode cL_rider 9 = .ok (.lastore, 1) := by decide +kernel
theorem dL_rider_10 : decode cL_rider 10 = .ok (.goto 7, 3) := by decide +kernel
theorem dL_rider_13 : decode cL_rider 13 = .ok (.astore 4, 2) := by decide +kernel
theorem dL_rider_15 : decode cL_rider 15 = .ok (.iconst 1, 1) := by decide +kernel
theorem dL_rider_16 : decode cL_rider 16 = .ok (.ireturn, 1) := by decide +kernel
theorem dL_rider_17 : decode cL_rider 17 = .ok (.iconst 0, 1) := by decide +kernel
theorem dL_rider_18 : decode cL_rider 18 = .ok (.ireturn, 1) := by decide +kernel
theorem dL_queue_0 : decode cL_queue 0 = .ok (.aload_n 3, 1) := by decide +kernel
theorem dL_queue_1 : decode cL_queue 1 = .ok (.iconst 0, 1) := by decide +kernel
theorem dL_queue_2 : decode cL_queue 2 = .ok (.aload_n 0, 1) := by decide +kernel
theorem dL_queue_3 : decode cL_queue 3 = .ok (.iload_n 1, 1) := by decide +kernel
theorem dL_queue_4 : decode cL_queue 4 = .ok (.iload_n 2, 1) := by decide +kernel
theorem dL_queue_5 : decode cL_queue 5 = .ok (.invokevirtual 46, 3) := by decide +kernel
theorem dL_queue_8 : decode cL_queue 8 = .ok (.i2l, 1) := by decide +kernel
theorem dL_queue_9 : decode cL_queue 9 = .ok (.lastore, 1) := by decide +kernel
theorem dL_queue_10 : decode cL_queue 10 = .ok (.goto 7, 3) := by decide +kernel
theorem dL_queue_13 : decode cL_queue 13 = .ok (.astore 4, 2) := by decide +kernel
theorem dL_queue_15 : decode cL_queue 15 = .ok (.iconst 1, 1) := by decide +kernel
theorem dL_queue_16 : decode cL_queue 16 = .ok (.ireturn, 1) := by decide +kernel
theorem dL_queue_17 : decode cL_queue 17 = .ok (.iconst 0, 1) := by decide +kernel
theorem dL_queue_18 : decode cL_queue 18 = .ok (.ireturn, 1) := by decide +kernel
theorem dL_pass_0 : decode cL_pass 0 = .ok (.aload_n 2, 1) := by decide +kernel
theorem dL_pass_1 : decode cL_pass 1 = .ok (.iconst 0, 1) := by decide +kernel
theorem dL_pass_2 : decode cL_pass 2 = .ok (.aload_n 0, 1) := by decide +kernel
theorem dL_pass_3 : decode cL_pass 3 = .ok (.iload_n 1, 1) := by decide +kernel
theorem dL_pass_4 : decode cL_pass 4 = .ok (.invokevirtual 49, 3) := by decide +kernel
theorem dL_pass_7 : decode cL_pass 7 = .ok (.i2l, 1) := by decide +kernel
theorem dL_pass_8 : decode cL_pass 8 = .ok (.lastore, 1) := by decide +kernel
theorem dL_pass_9 : decode cL_pass 9 = .ok (.goto 6, 3) := by decide +kernel
theorem dL_pass_12 : decode cL_pass 12 = .ok (.astore_n 3, 1) := by decide +kernel
theorem dL_pass_13 : decode cL_pass 13 = .ok (.iconst 1, 1) := by decide +kernel
theorem dL_pass_14 : decode cL_pass 14 = .ok (.ireturn, 1) := by decide +kernel
theorem dL_pass_15 : decode cL_pass 15 = .ok (.iconst 0, 1) := by decide +kernel
theorem dL_pass_16 : decode cL_pass 16 = .ok (.ireturn, 1) := by decide +kernel
theorem dL_count_0 : decode cL_count 0 = .ok (.aload_n 2, 1) := by decide +kernel
theorem dL_count_1 : decode cL_count 1 = .ok (.iconst 0, 1) := by decide +kernel
theorem dL_count_2 : decode cL_count 2 = .ok (.aload_n 0, 1) := by decide +kernel
theorem dL_count_3 : decode cL_count 3 = .ok (.iload_n 1, 1) := by decide +kernel
theorem dL_count_4 : decode cL_count 4 = .ok (.invokevirtual 52, 3) := by decide +kernel
theorem dL_count_7 : decode cL_count 7 = .ok (.i2l, 1) := by decide +kernel
theorem dL_count_8 : decode cL_count 8 = .ok (.lastore, 1) := by decide +kernel
theorem dL_count_9 : decode cL_count 9 = .ok (.goto 6, 3) := by decide +kernel
theorem dL_count_12 : decode cL_count 12 = .ok (.astore_n 3, 1) := by decide +kernel
theorem dL_count_13 : decode cL_count 13 = .ok (.iconst 1, 1) := by decide +kernel
theorem dL_count_14 : decode cL_count 14 = .ok (.ireturn, 1) := by decide +kernel
theorem dL_count_15 : decode cL_count 15 = .ok (.iconst 0, 1) := by decide +kernel
theorem dL_count_16 : decode cL_count 16 = .ok (.ireturn, 1) := by decide +kernel
theorem dL_way_0 : decode cL_way 0 = .ok (.aload 4, 2) := by decide +kernel
theorem dL_way_2 : decode cL_way 2 = .ok (.iconst 0, 1) := by decide +kernel
theorem dL_way_3 : decode cL_way 3 = .ok (.aload_n 0, 1) := by decide +kernel
theorem dL_way_4 : decode cL_way 4 = .ok (.iload_n 1, 1) := by decide +kernel
theorem dL_way_5 : decode cL_way 5 = .ok (.iload_n 2, 1) := by decide +kernel
theorem dL_way_6 : decode cL_way 6 = .ok (.iload_n 3, 1) := by decide +kernel
theorem dL_way_7 : decode cL_way 7 = .ok (.invokevirtual 55, 3) := by decide +kernel
theorem dL_way_10 : decode cL_way 10 = .ok (.i2l, 1) := by decide +kernel
theorem dL_way_11 : decode cL_way 11 = .ok (.lastore, 1) := by decide +kernel
theorem dL_way_12 : decode cL_way 12 = .ok (.goto 11, 3) := by decide +kernel
theorem dL_way_15 : decode cL_way 15 = .ok (.astore 5, 2) := by decide +kernel
theorem dL_way_17 : decode cL_way 17 = .ok (.iconst 1, 1) := by decide +kernel
theorem dL_way_18 : decode cL_way 18 = .ok (.ireturn, 1) := by decide +kernel
theorem dL_way_19 : decode cL_way 19 = .ok (.astore 5, 2) := by decide +kernel
theorem dL_way_21 : decode cL_way 21 = .ok (.iconst 2, 1) := by decide +kernel
theorem dL_way_22 : decode cL_way 22 = .ok (.ireturn, 1) := by decide +kernel
theorem dL_way_23 : decode cL_way 23 = .ok (.iconst 0, 1) := by decide +kernel
theorem dL_way_24 : decode cL_way 24 = .ok (.ireturn, 1) := by decide +kernel
theorem dL_arrives_0 : decode cL_arrives 0 = .ok (.aload_n 2, 1) := by decide +kernel
theorem dL_arrives_1 : decode cL_arrives 1 = .ok (.iconst 0, 1) := by decide +kernel
theorem dL_arrives_2 : decode cL_arrives 2 = .ok (.aload_n 0, 1) := by decide +kernel
theorem dL_arrives_3 : decode cL_arrives 3 = .ok (.iload_n 1, 1) := by decide +kernel
theorem dL_arrives_4 : decode cL_arrives 4 = .ok (.invokevirtual 58, 3) := by decide +kernel
theorem dL_arrives_7 : decode cL_arrives 7 = .ok (.i2l, 1) := by decide +kernel
theorem dL_arrives_8 : decode cL_arrives 8 = .ok (.lastore, 1) := by decide +kernel
theorem dL_arrives_9 : decode cL_arrives 9 = .ok (.goto 6, 3) := by decide +kernel
theorem dL_arrives_12 : decode cL_arrives 12 = .ok (.astore_n 3, 1) := by decide +kernel
theorem dL_arrives_13 : decode cL_arrives 13 = .ok (.iconst 1, 1) := by decide +kernel
theorem dL_arrives_14 : decode cL_arrives 14 = .ok (.ireturn, 1) := by decide +kernel
theorem dL_arrives_15 : decode cL_arrives 15 = .ok (.iconst 0, 1) := by decide +kernel
theorem dL_arrives_16 : decode cL_arrives 16 = .ok (.ireturn, 1) := by decide +kernel
theorem dL_advise_0 : decode cL_advise 0 = .ok (.aload_n 2, 1) := by decide +kernel
theorem dL_advise_1 : decode cL_advise 1 = .ok (.iconst 0, 1) := by decide +kernel
theorem dL_advise_2 : decode cL_advise 2 = .ok (.aload_n 0, 1) := by decide +kernel
theorem dL_advise_3 : decode cL_advise 3 = .ok (.iload_n 1, 1) := by decide +kernel
theorem dL_advise_4 : decode cL_advise 4 = .ok (.invokevirtual 61, 3) := by decide +kernel
theorem dL_advise_7 : decode cL_advise 7 = .ok (.i2l, 1) := by decide +kernel
theorem dL_advise_8 : decode cL_advise 8 = .ok (.lastore, 1) := by decide +kernel
theorem dL_advise_9 : decode cL_advise 9 = .ok (.goto 6, 3) := by decide +kernel
theorem dL_advise_12 : decode cL_advise 12 = .ok (.astore_n 3, 1) := by decide +kernel
theorem dL_advise_13 : decode cL_advise 13 = .ok (.iconst 1, 1) := by decide +kernel
theorem dL_advise_14 : decode cL_advise 14 = .ok (.ireturn, 1) := by decide +kernel
theorem dL_advise_15 : decode cL_advise 15 = .ok (.iconst 0, 1) := by decide +kernel
theorem dL_advise_16 : decode cL_advise 16 = .ok (.ireturn, 1) := by decide +kernel
theorem dL_law_0 : decode cL_law 0 = .ok (.new 8, 3) := by decide +kernel
theorem dL_law_3 : decode cL_law 3 = .ok (.dup, 1) := by decide +kernel
theorem dL_law_4 : decode cL_law 4 = .ok (.invokespecial 64, 3) := by decide +kernel
theorem dL_law_7 : decode cL_law 7 = .ok (.astore_n 1, 1) := by decide +kernel
theorem dL_law_8 : decode cL_law 8 = .ok (.new 65, 3) := by decide +kernel
theorem dL_law_11 : decode cL_law 11 = .ok (.dup, 1) := by decide +kernel
theorem dL_law_12 : decode cL_law 12 = .ok (.invokespecial 67, 3) := by decide +kernel
theorem dL_law_15 : decode cL_law 15 = .ok (.astore_n 2, 1) := by decide +kernel
theorem dL_law_16 : decode cL_law 16 = .ok (.iconst 1, 1) := by decide +kernel
theorem dL_law_17 : decode cL_law 17 = .ok (.newarray .long, 2) := by decide +kernel
theorem dL_law_19 : decode cL_law 19 = .ok (.astore_n 3, 1) := by decide +kernel
theorem dL_law_20 : decode cL_law 20 = .ok (.iconst 0, 1) := by decide +kernel
theorem dL_law_21 : decode cL_law 21 = .ok (.istore 4, 2) := by decide +kernel
theorem dL_law_23 : decode cL_law 23 = .ok (.iload 4, 2) := by decide +kernel
theorem dL_law_25 : decode cL_law 25 = .ok (.aload_n 0, 1) := by decide +kernel
theorem dL_law_26 : decode cL_law 26 = .ok (.arraylength, 1) := by decide +kernel
theorem dL_law_27 : decode cL_law 27 = .ok (.iconst 5, 1) := by decide +kernel
theorem dL_law_28 : decode cL_law 28 = .ok (.isub, 1) := by decide +kernel
theorem dL_law_29 : decode cL_law 29 = .ok (.if_icmp .gt 1184, 3) := by decide +kernel
theorem dL_law_32 : decode cL_law 32 = .ok (.aload_n 0, 1) := by decide +kernel
theorem dL_law_33 : decode cL_law 33 = .ok (.iload 4, 2) := by decide +kernel
theorem dL_law_35 : decode cL_law 35 = .ok (.iaload, 1) := by decide +kernel
theorem dL_law_36 : decode cL_law 36 = .ok (.bipush 31, 2) := by decide +kernel
theorem dL_law_38 : decode cL_law 38 = .ok (.iand, 1) := by decide +kernel
theorem dL_law_39 : decode cL_law 39 = .ok (.tableswitch 1168 0 16 #[81, 161, 253, 309, 377, 445, 513, 581, 673, 741, 809, 865, 921, 1001, 1057, 1113, 1154], 81) := by decide +kernel
theorem dL_law_120 : decode cL_law 120 = .ok (.aload_n 1, 1) := by decide +kernel
theorem dL_law_121 : decode cL_law 121 = .ok (.aload_n 0, 1) := by decide +kernel
theorem dL_law_122 : decode cL_law 122 = .ok (.iload 4, 2) := by decide +kernel
theorem dL_law_124 : decode cL_law 124 = .ok (.iconst 1, 1) := by decide +kernel
theorem dL_law_125 : decode cL_law 125 = .ok (.iadd, 1) := by decide +kernel
theorem dL_law_126 : decode cL_law 126 = .ok (.iaload, 1) := by decide +kernel
theorem dL_law_127 : decode cL_law 127 = .ok (.aload_n 0, 1) := by decide +kernel
theorem dL_law_128 : decode cL_law 128 = .ok (.iload 4, 2) := by decide +kernel
theorem dL_law_130 : decode cL_law 130 = .ok (.iconst 2, 1) := by decide +kernel
theorem dL_law_131 : decode cL_law 131 = .ok (.iadd, 1) := by decide +kernel
theorem dL_law_132 : decode cL_law 132 = .ok (.iaload, 1) := by decide +kernel
theorem dL_law_133 : decode cL_law 133 = .ok (.aload_n 0, 1) := by decide +kernel
theorem dL_law_134 : decode cL_law 134 = .ok (.iload 4, 2) := by decide +kernel
theorem dL_law_136 : decode cL_law 136 = .ok (.iconst 3, 1) := by decide +kernel
theorem dL_law_137 : decode cL_law 137 = .ok (.iadd, 1) := by decide +kernel
theorem dL_law_138 : decode cL_law 138 = .ok (.iaload, 1) := by decide +kernel
theorem dL_law_139 : decode cL_law 139 = .ok (.aload_n 3, 1) := by decide +kernel
theorem dL_law_140 : decode cL_law 140 = .ok (.invokestatic 68, 3) := by decide +kernel
theorem dL_law_143 : decode cL_law 143 = .ok (.istore 5, 2) := by decide +kernel
theorem dL_law_145 : decode cL_law 145 = .ok (.aload_n 2, 1) := by decide +kernel
theorem dL_law_146 : decode cL_law 146 = .ok (.aload_n 0, 1) := by decide +kernel
theorem dL_law_147 : decode cL_law 147 = .ok (.iload 4, 2) := by decide +kernel
theorem dL_law_149 : decode cL_law 149 = .ok (.iconst 1, 1) := by decide +kernel
theorem dL_law_150 : decode cL_law 150 = .ok (.iadd, 1) := by decide +kernel
theorem dL_law_151 : decode cL_law 151 = .ok (.iaload, 1) := by decide +kernel
theorem dL_law_152 : decode cL_law 152 = .ok (.aload_n 0, 1) := by decide +kernel
theorem dL_law_153 : decode cL_law 153 = .ok (.iload 4, 2) := by decide +kernel
theorem dL_law_155 : decode cL_law 155 = .ok (.iconst 2, 1) := by decide +kernel
theorem dL_law_156 : decode cL_law 156 = .ok (.iadd, 1) := by decide +kernel
theorem dL_law_157 : decode cL_law 157 = .ok (.iaload, 1) := by decide +kernel
theorem dL_law_158 : decode cL_law 158 = .ok (.aload_n 0, 1) := by decide +kernel
theorem dL_law_159 : decode cL_law 159 = .ok (.iload 4, 2) := by decide +kernel
theorem dL_law_161 : decode cL_law 161 = .ok (.iconst 3, 1) := by decide +kernel
theorem dL_law_162 : decode cL_law 162 = .ok (.iadd, 1) := by decide +kernel
theorem dL_law_163 : decode cL_law 163 = .ok (.iaload, 1) := by decide +kernel
theorem dL_law_164 : decode cL_law 164 = .ok (.invokevirtual 73, 3) := by decide +kernel
theorem dL_law_167 : decode cL_law 167 = .ok (.istore 6, 2) := by decide +kernel
theorem dL_law_169 : decode cL_law 169 = .ok (.aload_n 2, 1) := by decide +kernel
theorem dL_law_170 : decode cL_law 170 = .ok (.invokevirtual 74, 3) := by decide +kernel
theorem dL_law_173 : decode cL_law 173 = .ok (.iload 5, 2) := by decide +kernel
theorem dL_law_175 : decode cL_law 175 = .ok (.if_icmp .eq 5, 3) := by decide +kernel
theorem dL_law_178 : decode cL_law 178 = .ok (.iconst 0, 1) := by decide +kernel
theorem dL_law_179 : decode cL_law 179 = .ok (.ireturn, 1) := by decide +kernel
theorem dL_law_180 : decode cL_law 180 = .ok (.iload 5, 2) := by decide +kernel
theorem dL_law_182 : decode cL_law 182 = .ok (.ifCond .ne 15, 3) := by decide +kernel
theorem dL_law_185 : decode cL_law 185 = .ok (.aload_n 3, 1) := by decide +kernel
theorem dL_law_186 : decode cL_law 186 = .ok (.iconst 0, 1) := by decide +kernel
theorem dL_law_187 : decode cL_law 187 = .ok (.laload, 1) := by decide +kernel
theorem dL_law_188 : decode cL_law 188 = .ok (.iload 6, 2) := by decide +kernel
theorem dL_law_190 : decode cL_law 190 = .ok (.i2l, 1) := by decide +kernel
theorem dL_law_191 : decode cL_law 191 = .ok (.lcmp, 1) := by decide +kernel
theorem dL_law_192 : decode cL_law 192 = .ok (.ifCond .eq 5, 3) := by decide +kernel
theorem dL_law_195 : decode cL_law 195 = .ok (.iconst 0, 1) := by decide +kernel
theorem dL_law_196 : decode cL_law 196 = .ok (.ireturn, 1) := by decide +kernel
theorem dL_law_197 : decode cL_law 197 = .ok (.goto 1010, 3) := by decide +kernel
theorem dL_law_200 : decode cL_law 200 = .ok (.aload_n 1, 1) := by decide +kernel
theorem dL_law_201 : decode cL_law 201 = .ok (.aload_n 0, 1) := by decide +kernel
theorem dL_law_202 : decode cL_law 202 = .ok (.iload 4, 2) := by decide +kernel
theorem dL_law_204 : decode cL_law 204 = .ok (.iconst 1, 1) := by decide +kernel
theorem dL_law_205 : decode cL_law 205 = .ok (.iadd, 1) := by decide +kernel
theorem dL_law_206 : decode cL_law 206 = .ok (.iaload, 1) := by decide +kernel
theorem dL_law_207 : decode cL_law 207 = .ok (.aload_n 0, 1) := by decide +kernel
theorem dL_law_208 : decode cL_law 208 = .ok (.iload 4, 2) := by decide +kernel
theorem dL_law_210 : decode cL_law 210 = .ok (.iconst 2, 1) := by decide +kernel
theorem dL_law_211 : decode cL_law 211 = .ok (.iadd, 1) := by decide +kernel
theorem dL_law_212 : decode cL_law 212 = .ok (.iaload, 1) := by decide +kernel
theorem dL_law_213 : decode cL_law 213 = .ok (.aload_n 0, 1) := by decide +kernel
theorem dL_law_214 : decode cL_law 214 = .ok (.iload 4, 2) := by decide +kernel
theorem dL_law_216 : decode cL_law 216 = .ok (.iconst 3, 1) := by decide +kernel
theorem dL_law_217 : decode cL_law 217 = .ok (.iadd, 1) := by decide +kernel
theorem dL_law_218 : decode cL_law 218 = .ok (.iaload, 1) := by decide +kernel
theorem dL_law_219 : decode cL_law 219 = .ok (.aload_n 0, 1) := by decide +kernel
theorem dL_law_220 : decode cL_law 220 = .ok (.iload 4, 2) := by decide +kernel
theorem dL_law_222 : decode cL_law 222 = .ok (.iconst 4, 1) := by decide +kernel
theorem dL_law_223 : decode cL_law 223 = .ok (.iadd, 1) := by decide +kernel
theorem dL_law_224 : decode cL_law 224 = .ok (.iaload, 1) := by decide +kernel
theorem dL_law_225 : decode cL_law 225 = .ok (.aload_n 3, 1) := by decide +kernel
theorem dL_law_226 : decode cL_law 226 = .ok (.invokestatic 78, 3) := by decide +kernel
theorem dL_law_229 : decode cL_law 229 = .ok (.istore 5, 2) := by decide +kernel
theorem dL_law_231 : decode cL_law 231 = .ok (.aload_n 2, 1) := by decide +kernel
theorem dL_law_232 : decode cL_law 232 = .ok (.aload_n 0, 1) := by decide +kernel
theorem dL_law_233 : decode cL_law 233 = .ok (.iload 4, 2) := by decide +kernel
theorem dL_law_235 : decode cL_law 235 = .ok (.iconst 1, 1) := by decide +kernel
theorem dL_law_236 : decode cL_law 236 = .ok (.iadd, 1) := by decide +kernel
theorem dL_law_237 : decode cL_law 237 = .ok (.iaload, 1) := by decide +kernel
theorem dL_law_238 : decode cL_law 238 = .ok (.aload_n 0, 1) := by decide +kernel
theorem dL_law_239 : decode cL_law 239 = .ok (.iload 4, 2) := by decide +kernel
theorem dL_law_241 : decode cL_law 241 = .ok (.iconst 2, 1) := by decide +kernel
theorem dL_law_242 : decode cL_law 242 = .ok (.iadd, 1) := by decide +kernel
theorem dL_law_243 : decode cL_law 243 = .ok (.iaload, 1) := by decide +kernel
theorem dL_law_244 : decode cL_law 244 = .ok (.aload_n 0, 1) := by decide +kernel
theorem dL_law_245 : decode cL_law 245 = .ok (.iload 4, 2) := by decide +kernel
theorem dL_law_247 : decode cL_law 247 = .ok (.iconst 3, 1) := by decide +kernel
theorem dL_law_248 : decode cL_law 248 = .ok (.iadd, 1) := by decide +kernel
theorem dL_law_249 : decode cL_law 249 = .ok (.iaload, 1) := by decide +kernel
theorem dL_law_250 : decode cL_law 250 = .ok (.aload_n 0, 1) := by decide +kernel
theorem dL_law_251 : decode cL_law 251 = .ok (.iload 4, 2) := by decide +kernel
theorem dL_law_253 : decode cL_law 253 = .ok (.iconst 4, 1) := by decide +kernel
theorem dL_law_254 : decode cL_law 254 = .ok (.iadd, 1) := by decide +kernel
theorem dL_law_255 : decode cL_law 255 = .ok (.iaload, 1) := by decide +kernel
theorem dL_law_256 : decode cL_law 256 = .ok (.invokevirtual 81, 3) := by decide +kernel
theorem dL_law_259 : decode cL_law 259 = .ok (.istore 6, 2) := by decide +kernel
theorem dL_law_261 : decode cL_law 261 = .ok (.aload_n 2, 1) := by decide +kernel
theorem dL_law_262 : decode cL_law 262 = .ok (.invokevirtual 74, 3) := by decide +kernel
theorem dL_law_265 : decode cL_law 265 = .ok (.iload 5, 2) := by decide +kernel
theorem dL_law_267 : decode cL_law 267 = .ok (.if_icmp .eq 5, 3) := by decide +kernel
theorem dL_law_270 : decode cL_law 270 = .ok (.iconst 0, 1) := by decide +kernel
theorem dL_law_271 : decode cL_law 271 = .ok (.ireturn, 1) := by decide +kernel
theorem dL_law_272 : decode cL_law 272 = .ok (.iload 5, 2) := by decide +kernel
theorem dL_law_274 : decode cL_law 274 = .ok (.ifCond .ne 15, 3) := by decide +kernel
theorem dL_law_277 : decode cL_law 277 = .ok (.aload_n 3, 1) := by decide +kernel
theorem dL_law_278 : decode cL_law 278 = .ok (.iconst 0, 1) := by decide +kernel
theorem dL_law_279 : decode cL_law 279 = .ok (.laload, 1) := by decide +kernel
theorem dL_law_280 : decode cL_law 280 = .ok (.iload 6, 2) := by decide +kernel
theorem dL_law_282 : decode cL_law 282 = .ok (.i2l, 1) := by decide +kernel
theorem dL_law_283 : decode cL_law 283 = .ok (.lcmp, 1) := by decide +kernel
theorem dL_law_284 : decode cL_law 284 = .ok (.ifCond .eq 5, 3) := by decide +kernel
theorem dL_law_287 : decode cL_law 287 = .ok (.iconst 0, 1) := by decide +kernel
theorem dL_law_288 : decode cL_law 288 = .ok (.ireturn, 1) := by decide +kernel
theorem dL_law_289 : decode cL_law 289 = .ok (.goto 918, 3) := by decide +kernel
theorem dL_law_292 : decode cL_law 292 = .ok (.aload_n 1, 1) := by decide +kernel
theorem dL_law_293 : decode cL_law 293 = .ok (.aload_n 0, 1) := by decide +kernel
theorem dL_law_294 : decode cL_law 294 = .ok (.iload 4, 2) := by decide +kernel
theorem dL_law_296 : decode cL_law 296 = .ok (.iconst 1, 1) := by decide +kernel
theorem dL_law_297 : decode cL_law 297 = .ok (.iadd, 1) := by decide +kernel
theorem dL_law_298 : decode cL_law 298 = .ok (.iaload, 1) := by decide +kernel
theorem dL_law_299 : decode cL_law 299 = .ok (.aload_n 3, 1) := by decide +kernel
theorem dL_law_300 : decode cL_law 300 = .ok (.invokestatic 82, 3) := by decide +kernel
theorem dL_law_303 : decode cL_law 303 = .ok (.istore 5, 2) := by decide +kernel
theorem dL_law_305 : decode cL_law 305 = .ok (.aload_n 2, 1) := by decide +kernel
theorem dL_law_306 : decode cL_law 306 = .ok (.aload_n 0, 1) := by decide +kernel
theorem dL_law_307 : decode cL_law 307 = .ok (.iload 4, 2) := by decide +kernel
theorem dL_law_309 : decode cL_law 309 = .ok (.iconst 1, 1) := by decide +kernel
theorem dL_law_310 : decode cL_law 310 = .ok (.iadd, 1) := by decide +kernel
theorem dL_law_311 : decode cL_law 311 = .ok (.iaload, 1) := by decide +kernel
theorem dL_law_312 : decode cL_law 312 = .ok (.invokevirtual 85, 3) := by decide +kernel
theorem dL_law_315 : decode cL_law 315 = .ok (.istore 6, 2) := by decide +kernel
theorem dL_law_317 : decode cL_law 317 = .ok (.aload_n 2, 1) := by decide +kernel
theorem dL_law_318 : decode cL_law 318 = .ok (.invokevirtual 74, 3) := by decide +kernel
theorem dL_law_321 : decode cL_law 321 = .ok (.iload 5, 2) := by decide +kernel
theorem dL_law_323 : decode cL_law 323 = .ok (.if_icmp .eq 5, 3) := by decide +kernel
theorem dL_law_326 : decode cL_law 326 = .ok (.iconst 0, 1) := by decide +kernel
theorem dL_law_327 : decode cL_law 327 = .ok (.ireturn, 1) := by decide +kernel
theorem dL_law_328 : decode cL_law 328 = .ok (.iload 5, 2) := by decide +kernel
theorem dL_law_330 : decode cL_law 330 = .ok (.ifCond .ne 15, 3) := by decide +kernel
theorem dL_law_333 : decode cL_law 333 = .ok (.aload_n 3, 1) := by decide +kernel
theorem dL_law_334 : decode cL_law 334 = .ok (.iconst 0, 1) := by decide +kernel
theorem dL_law_335 : decode cL_law 335 = .ok (.laload, 1) := by decide +kernel
theorem dL_law_336 : decode cL_law 336 = .ok (.iload 6, 2) := by decide +kernel
theorem dL_law_338 : decode cL_law 338 = .ok (.i2l, 1) := by decide +kernel
theorem dL_law_339 : decode cL_law 339 = .ok (.lcmp, 1) := by decide +kernel
theorem dL_law_340 : decode cL_law 340 = .ok (.ifCond .eq 5, 3) := by decide +kernel
theorem dL_law_343 : decode cL_law 343 = .ok (.iconst 0, 1) := by decide +kernel
theorem dL_law_344 : decode cL_law 344 = .ok (.ireturn, 1) := by decide +kernel
theorem dL_law_345 : decode cL_law 345 = .ok (.goto 862, 3) := by decide +kernel
theorem dL_law_348 : decode cL_law 348 = .ok (.aload_n 1, 1) := by decide +kernel
theorem dL_law_349 : decode cL_law 349 = .ok (.aload_n 0, 1) := by decide +kernel
theorem dL_law_350 : decode cL_law 350 = .ok (.iload 4, 2) := by decide +kernel
theorem dL_law_352 : decode cL_law 352 = .ok (.iconst 1, 1) := by decide +kernel
theorem dL_law_353 : decode cL_law 353 = .ok (.iadd, 1) := by decide +kernel
theorem dL_law_354 : decode cL_law 354 = .ok (.iaload, 1) := by decide +kernel
theorem dL_law_355 : decode cL_law 355 = .ok (.aload_n 0, 1) := by decide +kernel
theorem dL_law_356 : decode cL_law 356 = .ok (.iload 4, 2) := by decide +kernel
theorem dL_law_358 : decode cL_law 358 = .ok (.iconst 2, 1) := by decide +kernel
theorem dL_law_359 : decode cL_law 359 = .ok (.iadd, 1) := by decide +kernel
theorem dL_law_360 : decode cL_law 360 = .ok (.iaload, 1) := by decide +kernel
theorem dL_law_361 : decode cL_law 361 = .ok (.aload_n 3, 1) := by decide +kernel
theorem dL_law_362 : decode cL_law 362 = .ok (.invokestatic 86, 3) := by decide +kernel
theorem dL_law_365 : decode cL_law 365 = .ok (.istore 5, 2) := by decide +kernel
theorem dL_law_367 : decode cL_law 367 = .ok (.aload_n 2, 1) := by decide +kernel
theorem dL_law_368 : decode cL_law 368 = .ok (.aload_n 0, 1) := by decide +kernel
theorem dL_law_369 : decode cL_law 369 = .ok (.iload 4, 2) := by decide +kernel
theorem dL_law_371 : decode cL_law 371 = .ok (.iconst 1, 1) := by decide +kernel
theorem dL_law_372 : decode cL_law 372 = .ok (.iadd, 1) := by decide +kernel
theorem dL_law_373 : decode cL_law 373 = .ok (.iaload, 1) := by decide +kernel
theorem dL_law_374 : decode cL_law 374 = .ok (.aload_n 0, 1) := by decide +kernel
theorem dL_law_375 : decode cL_law 375 = .ok (.iload 4, 2) := by decide +kernel
theorem dL_law_377 : decode cL_law 377 = .ok (.iconst 2, 1) := by decide +kernel
theorem dL_law_378 : decode cL_law 378 = .ok (.iadd, 1) := by decide +kernel
theorem dL_law_379 : decode cL_law 379 = .ok (.iaload, 1) := by decide +kernel
theorem dL_law_380 : decode cL_law 380 = .ok (.invokevirtual 89, 3) := by decide +kernel
theorem dL_law_383 : decode cL_law 383 = .ok (.istore 6, 2) := by decide +kernel
theorem dL_law_385 : decode cL_law 385 = .ok (.aload_n 2, 1) := by decide +kernel
theorem dL_law_386 : decode cL_law 386 = .ok (.invokevirtual 74, 3) := by decide +kernel
theorem dL_law_389 : decode cL_law 389 = .ok (.iload 5, 2) := by decide +kernel
theorem dL_law_391 : decode cL_law 391 = .ok (.if_icmp .eq 5, 3) := by decide +kernel
theorem dL_law_394 : decode cL_law 394 = .ok (.iconst 0, 1) := by decide +kernel
theorem dL_law_395 : decode cL_law 395 = .ok (.ireturn, 1) := by decide +kernel
theorem dL_law_396 : decode cL_law 396 = .ok (.iload 5, 2) := by decide +kernel
theorem dL_law_398 : decode cL_law 398 = .ok (.ifCond .ne 15, 3) := by decide +kernel
theorem dL_law_401 : decode cL_law 401 = .ok (.aload_n 3, 1) := by decide +kernel
theorem dL_law_402 : decode cL_law 402 = .ok (.iconst 0, 1) := by decide +kernel
theorem dL_law_403 : decode cL_law 403 = .ok (.laload, 1) := by decide +kernel
theorem dL_law_404 : decode cL_law 404 = .ok (.iload 6, 2) := by decide +kernel
theorem dL_law_406 : decode cL_law 406 = .ok (.i2l, 1) := by decide +kernel
theorem dL_law_407 : decode cL_law 407 = .ok (.lcmp, 1) := by decide +kernel
theorem dL_law_408 : decode cL_law 408 = .ok (.ifCond .eq 5, 3) := by decide +kernel
theorem dL_law_411 : decode cL_law 411 = .ok (.iconst 0, 1) := by decide +kernel
theorem dL_law_412 : decode cL_law 412 = .ok (.ireturn, 1) := by decide +kernel
theorem dL_law_413 : decode cL_law 413 = .ok (.goto 794, 3) := by decide +kernel
theorem dL_law_416 : decode cL_law 416 = .ok (.aload_n 1, 1) := by decide +kernel
theorem dL_law_417 : decode cL_law 417 = .ok (.aload_n 0, 1) := by decide +kernel
theorem dL_law_418 : decode cL_law 418 = .ok (.iload 4, 2) := by decide +kernel
theorem dL_law_420 : decode cL_law 420 = .ok (.iconst 1, 1) := by decide +kernel
theorem dL_law_421 : decode cL_law 421 = .ok (.iadd, 1) := by decide +kernel
theorem dL_law_422 : decode cL_law 422 = .ok (.iaload, 1) := by decide +kernel
theorem dL_law_423 : decode cL_law 423 = .ok (.aload_n 0, 1) := by decide +kernel
theorem dL_law_424 : decode cL_law 424 = .ok (.iload 4, 2) := by decide +kernel
theorem dL_law_426 : decode cL_law 426 = .ok (.iconst 2, 1) := by decide +kernel
theorem dL_law_427 : decode cL_law 427 = .ok (.iadd, 1) := by decide +kernel
theorem dL_law_428 : decode cL_law 428 = .ok (.iaload, 1) := by decide +kernel
theorem dL_law_429 : decode cL_law 429 = .ok (.aload_n 3, 1) := by decide +kernel
theorem dL_law_430 : decode cL_law 430 = .ok (.invokestatic 90, 3) := by decide +kernel
theorem dL_law_433 : decode cL_law 433 = .ok (.istore 5, 2) := by decide +kernel
theorem dL_law_435 : decode cL_law 435 = .ok (.aload_n 2, 1) := by decide +kernel
theorem dL_law_436 : decode cL_law 436 = .ok (.aload_n 0, 1) := by decide +kernel
theorem dL_law_437 : decode cL_law 437 = .ok (.iload 4, 2) := by decide +kernel
theorem dL_law_439 : decode cL_law 439 = .ok (.iconst 1, 1) := by decide +kernel
theorem dL_law_440 : decode cL_law 440 = .ok (.iadd, 1) := by decide +kernel
theorem dL_law_441 : decode cL_law 441 = .ok (.iaload, 1) := by decide +kernel
theorem dL_law_442 : decode cL_law 442 = .ok (.aload_n 0, 1) := by decide +kernel
theorem dL_law_443 : decode cL_law 443 = .ok (.iload 4, 2) := by decide +kernel
theorem dL_law_445 : decode cL_law 445 = .ok (.iconst 2, 1) := by decide +kernel
theorem dL_law_446 : decode cL_law 446 = .ok (.iadd, 1) := by decide +kernel
theorem dL_law_447 : decode cL_law 447 = .ok (.iaload, 1) := by decide +kernel
theorem dL_law_448 : decode cL_law 448 = .ok (.invokevirtual 92, 3) := by decide +kernel
theorem dL_law_451 : decode cL_law 451 = .ok (.istore 6, 2) := by decide +kernel
theorem dL_law_453 : decode cL_law 453 = .ok (.aload_n 2, 1) := by decide +kernel
theorem dL_law_454 : decode cL_law 454 = .ok (.invokevirtual 74, 3) := by decide +kernel
theorem dL_law_457 : decode cL_law 457 = .ok (.iload 5, 2) := by decide +kernel
theorem dL_law_459 : decode cL_law 459 = .ok (.if_icmp .eq 5, 3) := by decide +kernel
theorem dL_law_462 : decode cL_law 462 = .ok (.iconst 0, 1) := by decide +kernel
theorem dL_law_463 : decode cL_law 463 = .ok (.ireturn, 1) := by decide +kernel
theorem dL_law_464 : decode cL_law 464 = .ok (.iload 5, 2) := by decide +kernel
theorem dL_law_466 : decode cL_law 466 = .ok (.ifCond .ne 15, 3) := by decide +kernel
theorem dL_law_469 : decode cL_law 469 = .ok (.aload_n 3, 1) := by decide +kernel
theorem dL_law_470 : decode cL_law 470 = .ok (.iconst 0, 1) := by decide +kernel
theorem dL_law_471 : decode cL_law 471 = .ok (.laload, 1) := by decide +kernel
theorem dL_law_472 : decode cL_law 472 = .ok (.iload 6, 2) := by decide +kernel
theorem dL_law_474 : decode cL_law 474 = .ok (.i2l, 1) := by decide +kernel
theorem dL_law_475 : decode cL_law 475 = .ok (.lcmp, 1) := by decide +kernel
theorem dL_law_476 : decode cL_law 476 = .ok (.ifCond .eq 5, 3) := by decide +kernel
theorem dL_law_479 : decode cL_law 479 = .ok (.iconst 0, 1) := by decide +kernel
theorem dL_law_480 : decode cL_law 480 = .ok (.ireturn, 1) := by decide +kernel
theorem dL_law_481 : decode cL_law 481 = .ok (.goto 726, 3) := by decide +kernel
theorem dL_law_484 : decode cL_law 484 = .ok (.aload_n 1, 1) := by decide +kernel
theorem dL_law_485 : decode cL_law 485 = .ok (.aload_n 0, 1) := by decide +kernel
theorem dL_law_486 : decode cL_law 486 = .ok (.iload 4, 2) := by decide +kernel
theorem dL_law_488 : decode cL_law 488 = .ok (.iconst 1, 1) := by decide +kernel
theorem dL_law_489 : decode cL_law 489 = .ok (.iadd, 1) := by decide +kernel
theorem dL_law_490 : decode cL_law 490 = .ok (.iaload, 1) := by decide +kernel
theorem dL_law_491 : decode cL_law 491 = .ok (.aload_n 0, 1) := by decide +kernel
theorem dL_law_492 : decode cL_law 492 = .ok (.iload 4, 2) := by decide +kernel
theorem dL_law_494 : decode cL_law 494 = .ok (.iconst 2, 1) := by decide +kernel
theorem dL_law_495 : decode cL_law 495 = .ok (.iadd, 1) := by decide +kernel
theorem dL_law_496 : decode cL_law 496 = .ok (.iaload, 1) := by decide +kernel
theorem dL_law_497 : decode cL_law 497 = .ok (.aload_n 3, 1) := by decide +kernel
theorem dL_law_498 : decode cL_law 498 = .ok (.invokestatic 93, 3) := by decide +kernel
theorem dL_law_501 : decode cL_law 501 = .ok (.istore 5, 2) := by decide +kernel
theorem dL_law_503 : decode cL_law 503 = .ok (.aload_n 2, 1) := by decide +kernel
theorem dL_law_504 : decode cL_law 504 = .ok (.aload_n 0, 1) := by decide +kernel
theorem dL_law_505 : decode cL_law 505 = .ok (.iload 4, 2) := by decide +kernel
theorem dL_law_507 : decode cL_law 507 = .ok (.iconst 1, 1) := by decide +kernel
theorem dL_law_508 : decode cL_law 508 = .ok (.iadd, 1) := by decide +kernel
theorem dL_law_509 : decode cL_law 509 = .ok (.iaload, 1) := by decide +kernel
theorem dL_law_510 : decode cL_law 510 = .ok (.aload_n 0, 1) := by decide +kernel
theorem dL_law_511 : decode cL_law 511 = .ok (.iload 4, 2) := by decide +kernel
theorem dL_law_513 : decode cL_law 513 = .ok (.iconst 2, 1) := by decide +kernel
theorem dL_law_514 : decode cL_law 514 = .ok (.iadd, 1) := by decide +kernel
theorem dL_law_515 : decode cL_law 515 = .ok (.iaload, 1) := by decide +kernel
theorem dL_law_516 : decode cL_law 516 = .ok (.invokevirtual 95, 3) := by decide +kernel
theorem dL_law_519 : decode cL_law 519 = .ok (.istore 6, 2) := by decide +kernel
theorem dL_law_521 : decode cL_law 521 = .ok (.aload_n 2, 1) := by decide +kernel
theorem dL_law_522 : decode cL_law 522 = .ok (.invokevirtual 74, 3) := by decide +kernel
theorem dL_law_525 : decode cL_law 525 = .ok (.iload 5, 2) := by decide +kernel
theorem dL_law_527 : decode cL_law 527 = .ok (.if_icmp .eq 5, 3) := by decide +kernel
theorem dL_law_530 : decode cL_law 530 = .ok (.iconst 0, 1) := by decide +kernel
theorem dL_law_531 : decode cL_law 531 = .ok (.ireturn, 1) := by decide +kernel
theorem dL_law_532 : decode cL_law 532 = .ok (.iload 5, 2) := by decide +kernel
theorem dL_law_534 : decode cL_law 534 = .ok (.ifCond .ne 15, 3) := by decide +kernel
theorem dL_law_537 : decode cL_law 537 = .ok (.aload_n 3, 1) := by decide +kernel
theorem dL_law_538 : decode cL_law 538 = .ok (.iconst 0, 1) := by decide +kernel
theorem dL_law_539 : decode cL_law 539 = .ok (.laload, 1) := by decide +kernel
theorem dL_law_540 : decode cL_law 540 = .ok (.iload 6, 2) := by decide +kernel
theorem dL_law_542 : decode cL_law 542 = .ok (.i2l, 1) := by decide +kernel
theorem dL_law_543 : decode cL_law 543 = .ok (.lcmp, 1) := by decide +kernel
theorem dL_law_544 : decode cL_law 544 = .ok (.ifCond .eq 5, 3) := by decide +kernel
theorem dL_law_547 : decode cL_law 547 = .ok (.iconst 0, 1) := by decide +kernel
theorem dL_law_548 : decode cL_law 548 = .ok (.ireturn, 1) := by decide +kernel
theorem dL_law_549 : decode cL_law 549 = .ok (.goto 658, 3) := by decide +kernel
theorem dL_law_552 : decode cL_law 552 = .ok (.aload_n 1, 1) := by decide +kernel
theorem dL_law_553 : decode cL_law 553 = .ok (.aload_n 0, 1) := by decide +kernel
theorem dL_law_554 : decode cL_law 554 = .ok (.iload 4, 2) := by decide +kernel
theorem dL_law_556 : decode cL_law 556 = .ok (.iconst 1, 1) := by decide +kernel
theorem dL_law_557 : decode cL_law 557 = .ok (.iadd, 1) := by decide +kernel
theorem dL_law_558 : decode cL_law 558 = .ok (.iaload, 1) := by decide +kernel
theorem dL_law_559 : decode cL_law 559 = .ok (.aload_n 0, 1) := by decide +kernel
theorem dL_law_560 : decode cL_law 560 = .ok (.iload 4, 2) := by decide +kernel
theorem dL_law_562 : decode cL_law 562 = .ok (.iconst 2, 1) := by decide +kernel
theorem dL_law_563 : decode cL_law 563 = .ok (.iadd, 1) := by decide +kernel
theorem dL_law_564 : decode cL_law 564 = .ok (.iaload, 1) := by decide +kernel
theorem dL_law_565 : decode cL_law 565 = .ok (.aload_n 3, 1) := by decide +kernel
theorem dL_law_566 : decode cL_law 566 = .ok (.invokestatic 96, 3) := by decide +kernel
theorem dL_law_569 : decode cL_law 569 = .ok (.istore 5, 2) := by decide +kernel
theorem dL_law_571 : decode cL_law 571 = .ok (.aload_n 2, 1) := by decide +kernel
theorem dL_law_572 : decode cL_law 572 = .ok (.aload_n 0, 1) := by decide +kernel
theorem dL_law_573 : decode cL_law 573 = .ok (.iload 4, 2) := by decide +kernel
theorem dL_law_575 : decode cL_law 575 = .ok (.iconst 1, 1) := by decide +kernel
theorem dL_law_576 : decode cL_law 576 = .ok (.iadd, 1) := by decide +kernel
theorem dL_law_577 : decode cL_law 577 = .ok (.iaload, 1) := by decide +kernel
theorem dL_law_578 : decode cL_law 578 = .ok (.aload_n 0, 1) := by decide +kernel
theorem dL_law_579 : decode cL_law 579 = .ok (.iload 4, 2) := by decide +kernel
theorem dL_law_581 : decode cL_law 581 = .ok (.iconst 2, 1) := by decide +kernel
theorem dL_law_582 : decode cL_law 582 = .ok (.iadd, 1) := by decide +kernel
theorem dL_law_583 : decode cL_law 583 = .ok (.iaload, 1) := by decide +kernel
theorem dL_law_584 : decode cL_law 584 = .ok (.invokevirtual 98, 3) := by decide +kernel
theorem dL_law_587 : decode cL_law 587 = .ok (.istore 6, 2) := by decide +kernel
theorem dL_law_589 : decode cL_law 589 = .ok (.aload_n 2, 1) := by decide +kernel
theorem dL_law_590 : decode cL_law 590 = .ok (.invokevirtual 74, 3) := by decide +kernel
theorem dL_law_593 : decode cL_law 593 = .ok (.iload 5, 2) := by decide +kernel
theorem dL_law_595 : decode cL_law 595 = .ok (.if_icmp .eq 5, 3) := by decide +kernel
theorem dL_law_598 : decode cL_law 598 = .ok (.iconst 0, 1) := by decide +kernel
theorem dL_law_599 : decode cL_law 599 = .ok (.ireturn, 1) := by decide +kernel
theorem dL_law_600 : decode cL_law 600 = .ok (.iload 5, 2) := by decide +kernel
theorem dL_law_602 : decode cL_law 602 = .ok (.ifCond .ne 15, 3) := by decide +kernel
theorem dL_law_605 : decode cL_law 605 = .ok (.aload_n 3, 1) := by decide +kernel
theorem dL_law_606 : decode cL_law 606 = .ok (.iconst 0, 1) := by decide +kernel
theorem dL_law_607 : decode cL_law 607 = .ok (.laload, 1) := by decide +kernel
theorem dL_law_608 : decode cL_law 608 = .ok (.iload 6, 2) := by decide +kernel
theorem dL_law_610 : decode cL_law 610 = .ok (.i2l, 1) := by decide +kernel
theorem dL_law_611 : decode cL_law 611 = .ok (.lcmp, 1) := by decide +kernel
theorem dL_law_612 : decode cL_law 612 = .ok (.ifCond .eq 5, 3) := by decide +kernel
theorem dL_law_615 : decode cL_law 615 = .ok (.iconst 0, 1) := by decide +kernel
theorem dL_law_616 : decode cL_law 616 = .ok (.ireturn, 1) := by decide +kernel
theorem dL_law_617 : decode cL_law 617 = .ok (.goto 590, 3) := by decide +kernel
theorem dL_law_620 : decode cL_law 620 = .ok (.aload_n 1, 1) := by decide +kernel
theorem dL_law_621 : decode cL_law 621 = .ok (.aload_n 0, 1) := by decide +kernel
theorem dL_law_622 : decode cL_law 622 = .ok (.iload 4, 2) := by decide +kernel
theorem dL_law_624 : decode cL_law 624 = .ok (.iconst 1, 1) := by decide +kernel
theorem dL_law_625 : decode cL_law 625 = .ok (.iadd, 1) := by decide +kernel
theorem dL_law_626 : decode cL_law 626 = .ok (.iaload, 1) := by decide +kernel
theorem dL_law_627 : decode cL_law 627 = .ok (.aload_n 0, 1) := by decide +kernel
theorem dL_law_628 : decode cL_law 628 = .ok (.iload 4, 2) := by decide +kernel
theorem dL_law_630 : decode cL_law 630 = .ok (.iconst 2, 1) := by decide +kernel
theorem dL_law_631 : decode cL_law 631 = .ok (.iadd, 1) := by decide +kernel
theorem dL_law_632 : decode cL_law 632 = .ok (.iaload, 1) := by decide +kernel
theorem dL_law_633 : decode cL_law 633 = .ok (.aload_n 0, 1) := by decide +kernel
theorem dL_law_634 : decode cL_law 634 = .ok (.iload 4, 2) := by decide +kernel
theorem dL_law_636 : decode cL_law 636 = .ok (.iconst 3, 1) := by decide +kernel
theorem dL_law_637 : decode cL_law 637 = .ok (.iadd, 1) := by decide +kernel
theorem dL_law_638 : decode cL_law 638 = .ok (.iaload, 1) := by decide +kernel
theorem dL_law_639 : decode cL_law 639 = .ok (.aload_n 0, 1) := by decide +kernel
theorem dL_law_640 : decode cL_law 640 = .ok (.iload 4, 2) := by decide +kernel
theorem dL_law_642 : decode cL_law 642 = .ok (.iconst 4, 1) := by decide +kernel
theorem dL_law_643 : decode cL_law 643 = .ok (.iadd, 1) := by decide +kernel
theorem dL_law_644 : decode cL_law 644 = .ok (.iaload, 1) := by decide +kernel
theorem dL_law_645 : decode cL_law 645 = .ok (.aload_n 3, 1) := by decide +kernel
theorem dL_law_646 : decode cL_law 646 = .ok (.invokestatic 99, 3) := by decide +kernel
theorem dL_law_649 : decode cL_law 649 = .ok (.istore 5, 2) := by decide +kernel
theorem dL_law_651 : decode cL_law 651 = .ok (.aload_n 2, 1) := by decide +kernel
theorem dL_law_652 : decode cL_law 652 = .ok (.aload_n 0, 1) := by decide +kernel
theorem dL_law_653 : decode cL_law 653 = .ok (.iload 4, 2) := by decide +kernel
theorem dL_law_655 : decode cL_law 655 = .ok (.iconst 1, 1) := by decide +kernel
theorem dL_law_656 : decode cL_law 656 = .ok (.iadd, 1) := by decide +kernel
theorem dL_law_657 : decode cL_law 657 = .ok (.iaload, 1) := by decide +kernel
theorem dL_law_658 : decode cL_law 658 = .ok (.aload_n 0, 1) := by decide +kernel
theorem dL_law_659 : decode cL_law 659 = .ok (.iload 4, 2) := by decide +kernel
theorem dL_law_661 : decode cL_law 661 = .ok (.iconst 2, 1) := by decide +kernel
theorem dL_law_662 : decode cL_law 662 = .ok (.iadd, 1) := by decide +kernel
theorem dL_law_663 : decode cL_law 663 = .ok (.iaload, 1) := by decide +kernel
theorem dL_law_664 : decode cL_law 664 = .ok (.aload_n 0, 1) := by decide +kernel
theorem dL_law_665 : decode cL_law 665 = .ok (.iload 4, 2) := by decide +kernel
theorem dL_law_667 : decode cL_law 667 = .ok (.iconst 3, 1) := by decide +kernel
theorem dL_law_668 : decode cL_law 668 = .ok (.iadd, 1) := by decide +kernel
theorem dL_law_669 : decode cL_law 669 = .ok (.iaload, 1) := by decide +kernel
theorem dL_law_670 : decode cL_law 670 = .ok (.aload_n 0, 1) := by decide +kernel
theorem dL_law_671 : decode cL_law 671 = .ok (.iload 4, 2) := by decide +kernel
theorem dL_law_673 : decode cL_law 673 = .ok (.iconst 4, 1) := by decide +kernel
theorem dL_law_674 : decode cL_law 674 = .ok (.iadd, 1) := by decide +kernel
theorem dL_law_675 : decode cL_law 675 = .ok (.iaload, 1) := by decide +kernel
theorem dL_law_676 : decode cL_law 676 = .ok (.invokevirtual 101, 3) := by decide +kernel
theorem dL_law_679 : decode cL_law 679 = .ok (.istore 6, 2) := by decide +kernel
theorem dL_law_681 : decode cL_law 681 = .ok (.aload_n 2, 1) := by decide +kernel
theorem dL_law_682 : decode cL_law 682 = .ok (.invokevirtual 74, 3) := by decide +kernel
theorem dL_law_685 : decode cL_law 685 = .ok (.iload 5, 2) := by decide +kernel
theorem dL_law_687 : decode cL_law 687 = .ok (.if_icmp .eq 5, 3) := by decide +kernel
theorem dL_law_690 : decode cL_law 690 = .ok (.iconst 0, 1) := by decide +kernel
theorem dL_law_691 : decode cL_law 691 = .ok (.ireturn, 1) := by decide +kernel
theorem dL_law_692 : decode cL_law 692 = .ok (.iload 5, 2) := by decide +kernel
theorem dL_law_694 : decode cL_law 694 = .ok (.ifCond .ne 15, 3) := by decide +kernel
theorem dL_law_697 : decode cL_law 697 = .ok (.aload_n 3, 1) := by decide +kernel
theorem dL_law_698 : decode cL_law 698 = .ok (.iconst 0, 1) := by decide +kernel
theorem dL_law_699 : decode cL_law 699 = .ok (.laload, 1) := by decide +kernel
theorem dL_law_700 : decode cL_law 700 = .ok (.iload 6, 2) := by decide +kernel
theorem dL_law_702 : decode cL_law 702 = .ok (.i2l, 1) := by decide +kernel
theorem dL_law_703 : decode cL_law 703 = .ok (.lcmp, 1) := by decide +kernel
theorem dL_law_704 : decode cL_law 704 = .ok (.ifCond .eq 5, 3) := by decide +kernel
theorem dL_law_707 : decode cL_law 707 = .ok (.iconst 0, 1) := by decide +kernel
theorem dL_law_708 : decode cL_law 708 = .ok (.ireturn, 1) := by decide +kernel
theorem dL_law_709 : decode cL_law 709 = .ok (.goto 498, 3) := by decide +kernel
theorem dL_law_712 : decode cL_law 712 = .ok (.aload_n 1, 1) := by decide +kernel
theorem dL_law_713 : decode cL_law 713 = .ok (.aload_n 0, 1) := by decide +kernel
theorem dL_law_714 : decode cL_law 714 = .ok (.iload 4, 2) := by decide +kernel
theorem dL_law_716 : decode cL_law 716 = .ok (.iconst 1, 1) := by decide +kernel
theorem dL_law_717 : decode cL_law 717 = .ok (.iadd, 1) := by decide +kernel
theorem dL_law_718 : decode cL_law 718 = .ok (.iaload, 1) := by decide +kernel
theorem dL_law_719 : decode cL_law 719 = .ok (.aload_n 0, 1) := by decide +kernel
theorem dL_law_720 : decode cL_law 720 = .ok (.iload 4, 2) := by decide +kernel
theorem dL_law_722 : decode cL_law 722 = .ok (.iconst 2, 1) := by decide +kernel
theorem dL_law_723 : decode cL_law 723 = .ok (.iadd, 1) := by decide +kernel
theorem dL_law_724 : decode cL_law 724 = .ok (.iaload, 1) := by decide +kernel
theorem dL_law_725 : decode cL_law 725 = .ok (.aload_n 3, 1) := by decide +kernel
theorem dL_law_726 : decode cL_law 726 = .ok (.invokestatic 102, 3) := by decide +kernel
theorem dL_law_729 : decode cL_law 729 = .ok (.istore 5, 2) := by decide +kernel
theorem dL_law_731 : decode cL_law 731 = .ok (.aload_n 2, 1) := by decide +kernel
theorem dL_law_732 : decode cL_law 732 = .ok (.aload_n 0, 1) := by decide +kernel
theorem dL_law_733 : decode cL_law 733 = .ok (.iload 4, 2) := by decide +kernel
theorem dL_law_735 : decode cL_law 735 = .ok (.iconst 1, 1) := by decide +kernel
theorem dL_law_736 : decode cL_law 736 = .ok (.iadd, 1) := by decide +kernel
theorem dL_law_737 : decode cL_law 737 = .ok (.iaload, 1) := by decide +kernel
theorem dL_law_738 : decode cL_law 738 = .ok (.aload_n 0, 1) := by decide +kernel
theorem dL_law_739 : decode cL_law 739 = .ok (.iload 4, 2) := by decide +kernel
theorem dL_law_741 : decode cL_law 741 = .ok (.iconst 2, 1) := by decide +kernel
theorem dL_law_742 : decode cL_law 742 = .ok (.iadd, 1) := by decide +kernel
theorem dL_law_743 : decode cL_law 743 = .ok (.iaload, 1) := by decide +kernel
theorem dL_law_744 : decode cL_law 744 = .ok (.invokevirtual 104, 3) := by decide +kernel
theorem dL_law_747 : decode cL_law 747 = .ok (.istore 6, 2) := by decide +kernel
theorem dL_law_749 : decode cL_law 749 = .ok (.aload_n 2, 1) := by decide +kernel
theorem dL_law_750 : decode cL_law 750 = .ok (.invokevirtual 74, 3) := by decide +kernel
theorem dL_law_753 : decode cL_law 753 = .ok (.iload 5, 2) := by decide +kernel
theorem dL_law_755 : decode cL_law 755 = .ok (.if_icmp .eq 5, 3) := by decide +kernel
theorem dL_law_758 : decode cL_law 758 = .ok (.iconst 0, 1) := by decide +kernel
theorem dL_law_759 : decode cL_law 759 = .ok (.ireturn, 1) := by decide +kernel
theorem dL_law_760 : decode cL_law 760 = .ok (.iload 5, 2) := by decide +kernel
theorem dL_law_762 : decode cL_law 762 = .ok (.ifCond .ne 15, 3) := by decide +kernel
theorem dL_law_765 : decode cL_law 765 = .ok (.aload_n 3, 1) := by decide +kernel
theorem dL_law_766 : decode cL_law 766 = .ok (.iconst 0, 1) := by decide +kernel
theorem dL_law_767 : decode cL_law 767 = .ok (.laload, 1) := by decide +kernel
theorem dL_law_768 : decode cL_law 768 = .ok (.iload 6, 2) := by decide +kernel
theorem dL_law_770 : decode cL_law 770 = .ok (.i2l, 1) := by decide +kernel
theorem dL_law_771 : decode cL_law 771 = .ok (.lcmp, 1) := by decide +kernel
theorem dL_law_772 : decode cL_law 772 = .ok (.ifCond .eq 5, 3) := by decide +kernel
theorem dL_law_775 : decode cL_law 775 = .ok (.iconst 0, 1) := by decide +kernel
theorem dL_law_776 : decode cL_law 776 = .ok (.ireturn, 1) := by decide +kernel
theorem dL_law_777 : decode cL_law 777 = .ok (.goto 430, 3) := by decide +kernel
theorem dL_law_780 : decode cL_law 780 = .ok (.aload_n 1, 1) := by decide +kernel
theorem dL_law_781 : decode cL_law 781 = .ok (.aload_n 0, 1) := by decide +kernel
theorem dL_law_782 : decode cL_law 782 = .ok (.iload 4, 2) := by decide +kernel
theorem dL_law_784 : decode cL_law 784 = .ok (.iconst 1, 1) := by decide +kernel
theorem dL_law_785 : decode cL_law 785 = .ok (.iadd, 1) := by decide +kernel
theorem dL_law_786 : decode cL_law 786 = .ok (.iaload, 1) := by decide +kernel
theorem dL_law_787 : decode cL_law 787 = .ok (.aload_n 0, 1) := by decide +kernel
theorem dL_law_788 : decode cL_law 788 = .ok (.iload 4, 2) := by decide +kernel
theorem dL_law_790 : decode cL_law 790 = .ok (.iconst 2, 1) := by decide +kernel
theorem dL_law_791 : decode cL_law 791 = .ok (.iadd, 1) := by decide +kernel
theorem dL_law_792 : decode cL_law 792 = .ok (.iaload, 1) := by decide +kernel
theorem dL_law_793 : decode cL_law 793 = .ok (.aload_n 3, 1) := by decide +kernel
theorem dL_law_794 : decode cL_law 794 = .ok (.invokestatic 105, 3) := by decide +kernel
theorem dL_law_797 : decode cL_law 797 = .ok (.istore 5, 2) := by decide +kernel
theorem dL_law_799 : decode cL_law 799 = .ok (.aload_n 2, 1) := by decide +kernel
theorem dL_law_800 : decode cL_law 800 = .ok (.aload_n 0, 1) := by decide +kernel
theorem dL_law_801 : decode cL_law 801 = .ok (.iload 4, 2) := by decide +kernel
theorem dL_law_803 : decode cL_law 803 = .ok (.iconst 1, 1) := by decide +kernel
theorem dL_law_804 : decode cL_law 804 = .ok (.iadd, 1) := by decide +kernel
theorem dL_law_805 : decode cL_law 805 = .ok (.iaload, 1) := by decide +kernel
theorem dL_law_806 : decode cL_law 806 = .ok (.aload_n 0, 1) := by decide +kernel
theorem dL_law_807 : decode cL_law 807 = .ok (.iload 4, 2) := by decide +kernel
theorem dL_law_809 : decode cL_law 809 = .ok (.iconst 2, 1) := by decide +kernel
theorem dL_law_810 : decode cL_law 810 = .ok (.iadd, 1) := by decide +kernel
theorem dL_law_811 : decode cL_law 811 = .ok (.iaload, 1) := by decide +kernel
theorem dL_law_812 : decode cL_law 812 = .ok (.invokevirtual 107, 3) := by decide +kernel
theorem dL_law_815 : decode cL_law 815 = .ok (.istore 6, 2) := by decide +kernel
theorem dL_law_817 : decode cL_law 817 = .ok (.aload_n 2, 1) := by decide +kernel
theorem dL_law_818 : decode cL_law 818 = .ok (.invokevirtual 74, 3) := by decide +kernel
theorem dL_law_821 : decode cL_law 821 = .ok (.iload 5, 2) := by decide +kernel
theorem dL_law_823 : decode cL_law 823 = .ok (.if_icmp .eq 5, 3) := by decide +kernel
theorem dL_law_826 : decode cL_law 826 = .ok (.iconst 0, 1) := by decide +kernel
theorem dL_law_827 : decode cL_law 827 = .ok (.ireturn, 1) := by decide +kernel
theorem dL_law_828 : decode cL_law 828 = .ok (.iload 5, 2) := by decide +kernel
theorem dL_law_830 : decode cL_law 830 = .ok (.ifCond .ne 15, 3) := by decide +kernel
theorem dL_law_833 : decode cL_law 833 = .ok (.aload_n 3, 1) := by decide +kernel
theorem dL_law_834 : decode cL_law 834 = .ok (.iconst 0, 1) := by decide +kernel
theorem dL_law_835 : decode cL_law 835 = .ok (.laload, 1) := by decide +kernel
theorem dL_law_836 : decode cL_law 836 = .ok (.iload 6, 2) := by decide +kernel
theorem dL_law_838 : decode cL_law 838 = .ok (.i2l, 1) := by decide +kernel
theorem dL_law_839 : decode cL_law 839 = .ok (.lcmp, 1) := by decide +kernel
theorem dL_law_840 : decode cL_law 840 = .ok (.ifCond .eq 5, 3) := by decide +kernel
theorem dL_law_843 : decode cL_law 843 = .ok (.iconst 0, 1) := by decide +kernel
theorem dL_law_844 : decode cL_law 844 = .ok (.ireturn, 1) := by decide +kernel
theorem dL_law_845 : decode cL_law 845 = .ok (.goto 362, 3) := by decide +kernel
theorem dL_law_848 : decode cL_law 848 = .ok (.aload_n 1, 1) := by decide +kernel
theorem dL_law_849 : decode cL_law 849 = .ok (.aload_n 0, 1) := by decide +kernel
theorem dL_law_850 : decode cL_law 850 = .ok (.iload 4, 2) := by decide +kernel
theorem dL_law_852 : decode cL_law 852 = .ok (.iconst 1, 1) := by decide +kernel
theorem dL_law_853 : decode cL_law 853 = .ok (.iadd, 1) := by decide +kernel
theorem dL_law_854 : decode cL_law 854 = .ok (.iaload, 1) := by decide +kernel
theorem dL_law_855 : decode cL_law 855 = .ok (.aload_n 3, 1) := by decide +kernel
theorem dL_law_856 : decode cL_law 856 = .ok (.invokestatic 108, 3) := by decide +kernel
theorem dL_law_859 : decode cL_law 859 = .ok (.istore 5, 2) := by decide +kernel
theorem dL_law_861 : decode cL_law 861 = .ok (.aload_n 2, 1) := by decide +kernel
theorem dL_law_862 : decode cL_law 862 = .ok (.aload_n 0, 1) := by decide +kernel
theorem dL_law_863 : decode cL_law 863 = .ok (.iload 4, 2) := by decide +kernel
theorem dL_law_865 : decode cL_law 865 = .ok (.iconst 1, 1) := by decide +kernel
theorem dL_law_866 : decode cL_law 866 = .ok (.iadd, 1) := by decide +kernel
theorem dL_law_867 : decode cL_law 867 = .ok (.iaload, 1) := by decide +kernel
theorem dL_law_868 : decode cL_law 868 = .ok (.invokevirtual 110, 3) := by decide +kernel
theorem dL_law_871 : decode cL_law 871 = .ok (.istore 6, 2) := by decide +kernel
theorem dL_law_873 : decode cL_law 873 = .ok (.aload_n 2, 1) := by decide +kernel
theorem dL_law_874 : decode cL_law 874 = .ok (.invokevirtual 74, 3) := by decide +kernel
theorem dL_law_877 : decode cL_law 877 = .ok (.iload 5, 2) := by decide +kernel
theorem dL_law_879 : decode cL_law 879 = .ok (.if_icmp .eq 5, 3) := by decide +kernel
theorem dL_law_882 : decode cL_law 882 = .ok (.iconst 0, 1) := by decide +kernel
theorem dL_law_883 : decode cL_law 883 = .ok (.ireturn, 1) := by decide +kernel
theorem dL_law_884 : decode cL_law 884 = .ok (.iload 5, 2) := by decide +kernel
theorem dL_law_886 : decode cL_law 886 = .ok (.ifCond .ne 15, 3) := by decide +kernel
theorem dL_law_889 : decode cL_law 889 = .ok (.aload_n 3, 1) := by decide +kernel
theorem dL_law_890 : decode cL_law 890 = .ok (.iconst 0, 1) := by decide +kernel
theorem dL_law_891 : decode cL_law 891 = .ok (.laload, 1) := by decide +kernel
theorem dL_law_892 : decode cL_law 892 = .ok (.iload 6, 2) := by decide +kernel
theorem dL_law_894 : decode cL_law 894 = .ok (.i2l, 1) := by decide +kernel
theorem dL_law_895 : decode cL_law 895 = .ok (.lcmp, 1) := by decide +kernel
theorem dL_law_896 : decode cL_law 896 = .ok (.ifCond .eq 5, 3) := by decide +kernel
theorem dL_law_899 : decode cL_law 899 = .ok (.iconst 0, 1) := by decide +kernel
theorem dL_law_900 : decode cL_law 900 = .ok (.ireturn, 1) := by decide +kernel
theorem dL_law_901 : decode cL_law 901 = .ok (.goto 306, 3) := by decide +kernel
theorem dL_law_904 : decode cL_law 904 = .ok (.aload_n 1, 1) := by decide +kernel
theorem dL_law_905 : decode cL_law 905 = .ok (.aload_n 0, 1) := by decide +kernel
theorem dL_law_906 : decode cL_law 906 = .ok (.iload 4, 2) := by decide +kernel
theorem dL_law_908 : decode cL_law 908 = .ok (.iconst 1, 1) := by decide +kernel
theorem dL_law_909 : decode cL_law 909 = .ok (.iadd, 1) := by decide +kernel
theorem dL_law_910 : decode cL_law 910 = .ok (.iaload, 1) := by decide +kernel
theorem dL_law_911 : decode cL_law 911 = .ok (.aload_n 3, 1) := by decide +kernel
theorem dL_law_912 : decode cL_law 912 = .ok (.invokestatic 111, 3) := by decide +kernel
theorem dL_law_915 : decode cL_law 915 = .ok (.istore 5, 2) := by decide +kernel
theorem dL_law_917 : decode cL_law 917 = .ok (.aload_n 2, 1) := by decide +kernel
theorem dL_law_918 : decode cL_law 918 = .ok (.aload_n 0, 1) := by decide +kernel
theorem dL_law_919 : decode cL_law 919 = .ok (.iload 4, 2) := by decide +kernel
theorem dL_law_921 : decode cL_law 921 = .ok (.iconst 1, 1) := by decide +kernel
theorem dL_law_922 : decode cL_law 922 = .ok (.iadd, 1) := by decide +kernel
theorem dL_law_923 : decode cL_law 923 = .ok (.iaload, 1) := by decide +kernel
theorem dL_law_924 : decode cL_law 924 = .ok (.invokevirtual 113, 3) := by decide +kernel
theorem dL_law_927 : decode cL_law 927 = .ok (.istore 6, 2) := by decide +kernel
theorem dL_law_929 : decode cL_law 929 = .ok (.aload_n 2, 1) := by decide +kernel
theorem dL_law_930 : decode cL_law 930 = .ok (.invokevirtual 74, 3) := by decide +kernel
theorem dL_law_933 : decode cL_law 933 = .ok (.iload 5, 2) := by decide +kernel
theorem dL_law_935 : decode cL_law 935 = .ok (.if_icmp .eq 5, 3) := by decide +kernel
theorem dL_law_938 : decode cL_law 938 = .ok (.iconst 0, 1) := by decide +kernel
theorem dL_law_939 : decode cL_law 939 = .ok (.ireturn, 1) := by decide +kernel
theorem dL_law_940 : decode cL_law 940 = .ok (.iload 5, 2) := by decide +kernel
theorem dL_law_942 : decode cL_law 942 = .ok (.ifCond .ne 15, 3) := by decide +kernel
theorem dL_law_945 : decode cL_law 945 = .ok (.aload_n 3, 1) := by decide +kernel
theorem dL_law_946 : decode cL_law 946 = .ok (.iconst 0, 1) := by decide +kernel
theorem dL_law_947 : decode cL_law 947 = .ok (.laload, 1) := by decide +kernel
theorem dL_law_948 : decode cL_law 948 = .ok (.iload 6, 2) := by decide +kernel
theorem dL_law_950 : decode cL_law 950 = .ok (.i2l, 1) := by decide +kernel
theorem dL_law_951 : decode cL_law 951 = .ok (.lcmp, 1) := by decide +kernel
theorem dL_law_952 : decode cL_law 952 = .ok (.ifCond .eq 5, 3) := by decide +kernel
theorem dL_law_955 : decode cL_law 955 = .ok (.iconst 0, 1) := by decide +kernel
theorem dL_law_956 : decode cL_law 956 = .ok (.ireturn, 1) := by decide +kernel
theorem dL_law_957 : decode cL_law 957 = .ok (.goto 250, 3) := by decide +kernel
theorem dL_law_960 : decode cL_law 960 = .ok (.aload_n 1, 1) := by decide +kernel
theorem dL_law_961 : decode cL_law 961 = .ok (.aload_n 0, 1) := by decide +kernel
theorem dL_law_962 : decode cL_law 962 = .ok (.iload 4, 2) := by decide +kernel
theorem dL_law_964 : decode cL_law 964 = .ok (.iconst 1, 1) := by decide +kernel
theorem dL_law_965 : decode cL_law 965 = .ok (.iadd, 1) := by decide +kernel
theorem dL_law_966 : decode cL_law 966 = .ok (.iaload, 1) := by decide +kernel
theorem dL_law_967 : decode cL_law 967 = .ok (.aload_n 0, 1) := by decide +kernel
theorem dL_law_968 : decode cL_law 968 = .ok (.iload 4, 2) := by decide +kernel
theorem dL_law_970 : decode cL_law 970 = .ok (.iconst 2, 1) := by decide +kernel
theorem dL_law_971 : decode cL_law 971 = .ok (.iadd, 1) := by decide +kernel
theorem dL_law_972 : decode cL_law 972 = .ok (.iaload, 1) := by decide +kernel
theorem dL_law_973 : decode cL_law 973 = .ok (.aload_n 0, 1) := by decide +kernel
theorem dL_law_974 : decode cL_law 974 = .ok (.iload 4, 2) := by decide +kernel
theorem dL_law_976 : decode cL_law 976 = .ok (.iconst 3, 1) := by decide +kernel
theorem dL_law_977 : decode cL_law 977 = .ok (.iadd, 1) := by decide +kernel
theorem dL_law_978 : decode cL_law 978 = .ok (.iaload, 1) := by decide +kernel
theorem dL_law_979 : decode cL_law 979 = .ok (.aload_n 3, 1) := by decide +kernel
theorem dL_law_980 : decode cL_law 980 = .ok (.invokestatic 114, 3) := by decide +kernel
theorem dL_law_983 : decode cL_law 983 = .ok (.istore 5, 2) := by decide +kernel
theorem dL_law_985 : decode cL_law 985 = .ok (.aload_n 2, 1) := by decide +kernel
theorem dL_law_986 : decode cL_law 986 = .ok (.aload_n 0, 1) := by decide +kernel
theorem dL_law_987 : decode cL_law 987 = .ok (.iload 4, 2) := by decide +kernel
theorem dL_law_989 : decode cL_law 989 = .ok (.iconst 1, 1) := by decide +kernel
theorem dL_law_990 : decode cL_law 990 = .ok (.iadd, 1) := by decide +kernel
theorem dL_law_991 : decode cL_law 991 = .ok (.iaload, 1) := by decide +kernel
theorem dL_law_992 : decode cL_law 992 = .ok (.aload_n 0, 1) := by decide +kernel
theorem dL_law_993 : decode cL_law 993 = .ok (.iload 4, 2) := by decide +kernel
theorem dL_law_995 : decode cL_law 995 = .ok (.iconst 2, 1) := by decide +kernel
theorem dL_law_996 : decode cL_law 996 = .ok (.iadd, 1) := by decide +kernel
theorem dL_law_997 : decode cL_law 997 = .ok (.iaload, 1) := by decide +kernel
theorem dL_law_998 : decode cL_law 998 = .ok (.aload_n 0, 1) := by decide +kernel
theorem dL_law_999 : decode cL_law 999 = .ok (.iload 4, 2) := by decide +kernel
theorem dL_law_1001 : decode cL_law 1001 = .ok (.iconst 3, 1) := by decide +kernel
theorem dL_law_1002 : decode cL_law 1002 = .ok (.iadd, 1) := by decide +kernel
theorem dL_law_1003 : decode cL_law 1003 = .ok (.iaload, 1) := by decide +kernel
theorem dL_law_1004 : decode cL_law 1004 = .ok (.invokevirtual 116, 3) := by decide +kernel
theorem dL_law_1007 : decode cL_law 1007 = .ok (.istore 6, 2) := by decide +kernel
theorem dL_law_1009 : decode cL_law 1009 = .ok (.aload_n 2, 1) := by decide +kernel
theorem dL_law_1010 : decode cL_law 1010 = .ok (.invokevirtual 74, 3) := by decide +kernel
theorem dL_law_1013 : decode cL_law 1013 = .ok (.iload 5, 2) := by decide +kernel
theorem dL_law_1015 : decode cL_law 1015 = .ok (.if_icmp .eq 5, 3) := by decide +kernel
theorem dL_law_1018 : decode cL_law 1018 = .ok (.iconst 0, 1) := by decide +kernel
theorem dL_law_1019 : decode cL_law 1019 = .ok (.ireturn, 1) := by decide +kernel
theorem dL_law_1020 : decode cL_law 1020 = .ok (.iload 5, 2) := by decide +kernel
theorem dL_law_1022 : decode cL_law 1022 = .ok (.ifCond .ne 15, 3) := by decide +kernel
theorem dL_law_1025 : decode cL_law 1025 = .ok (.aload_n 3, 1) := by decide +kernel
theorem dL_law_1026 : decode cL_law 1026 = .ok (.iconst 0, 1) := by decide +kernel
theorem dL_law_1027 : decode cL_law 1027 = .ok (.laload, 1) := by decide +kernel
theorem dL_law_1028 : decode cL_law 1028 = .ok (.iload 6, 2) := by decide +kernel
theorem dL_law_1030 : decode cL_law 1030 = .ok (.i2l, 1) := by decide +kernel
theorem dL_law_1031 : decode cL_law 1031 = .ok (.lcmp, 1) := by decide +kernel
theorem dL_law_1032 : decode cL_law 1032 = .ok (.ifCond .eq 5, 3) := by decide +kernel
theorem dL_law_1035 : decode cL_law 1035 = .ok (.iconst 0, 1) := by decide +kernel
theorem dL_law_1036 : decode cL_law 1036 = .ok (.ireturn, 1) := by decide +kernel
theorem dL_law_1037 : decode cL_law 1037 = .ok (.goto 170, 3) := by decide +kernel
theorem dL_law_1040 : decode cL_law 1040 = .ok (.aload_n 1, 1) := by decide +kernel
theorem dL_law_1041 : decode cL_law 1041 = .ok (.aload_n 0, 1) := by decide +kernel
theorem dL_law_1042 : decode cL_law 1042 = .ok (.iload 4, 2) := by decide +kernel
theorem dL_law_1044 : decode cL_law 1044 = .ok (.iconst 1, 1) := by decide +kernel
theorem dL_law_1045 : decode cL_law 1045 = .ok (.iadd, 1) := by decide +kernel
theorem dL_law_1046 : decode cL_law 1046 = .ok (.iaload, 1) := by decide +kernel
theorem dL_law_1047 : decode cL_law 1047 = .ok (.aload_n 3, 1) := by decide +kernel
theorem dL_law_1048 : decode cL_law 1048 = .ok (.invokestatic 117, 3) := by decide +kernel
theorem dL_law_1051 : decode cL_law 1051 = .ok (.istore 5, 2) := by decide +kernel
theorem dL_law_1053 : decode cL_law 1053 = .ok (.aload_n 2, 1) := by decide +kernel
theorem dL_law_1054 : decode cL_law 1054 = .ok (.aload_n 0, 1) := by decide +kernel
theorem dL_law_1055 : decode cL_law 1055 = .ok (.iload 4, 2) := by decide +kernel
theorem dL_law_1057 : decode cL_law 1057 = .ok (.iconst 1, 1) := by decide +kernel
theorem dL_law_1058 : decode cL_law 1058 = .ok (.iadd, 1) := by decide +kernel
theorem dL_law_1059 : decode cL_law 1059 = .ok (.iaload, 1) := by decide +kernel
theorem dL_law_1060 : decode cL_law 1060 = .ok (.invokevirtual 119, 3) := by decide +kernel
theorem dL_law_1063 : decode cL_law 1063 = .ok (.istore 6, 2) := by decide +kernel
theorem dL_law_1065 : decode cL_law 1065 = .ok (.aload_n 2, 1) := by decide +kernel
theorem dL_law_1066 : decode cL_law 1066 = .ok (.invokevirtual 74, 3) := by decide +kernel
theorem dL_law_1069 : decode cL_law 1069 = .ok (.iload 5, 2) := by decide +kernel
theorem dL_law_1071 : decode cL_law 1071 = .ok (.if_icmp .eq 5, 3) := by decide +kernel
theorem dL_law_1074 : decode cL_law 1074 = .ok (.iconst 0, 1) := by decide +kernel
theorem dL_law_1075 : decode cL_law 1075 = .ok (.ireturn, 1) := by decide +kernel
theorem dL_law_1076 : decode cL_law 1076 = .ok (.iload 5, 2) := by decide +kernel
theorem dL_law_1078 : decode cL_law 1078 = .ok (.ifCond .ne 15, 3) := by decide +kernel
theorem dL_law_1081 : decode cL_law 1081 = .ok (.aload_n 3, 1) := by decide +kernel
theorem dL_law_1082 : decode cL_law 1082 = .ok (.iconst 0, 1) := by decide +kernel
theorem dL_law_1083 : decode cL_law 1083 = .ok (.laload, 1) := by decide +kernel
theorem dL_law_1084 : decode cL_law 1084 = .ok (.iload 6, 2) := by decide +kernel
theorem dL_law_1086 : decode cL_law 1086 = .ok (.i2l, 1) := by decide +kernel
theorem dL_law_1087 : decode cL_law 1087 = .ok (.lcmp, 1) := by decide +kernel
theorem dL_law_1088 : decode cL_law 1088 = .ok (.ifCond .eq 5, 3) := by decide +kernel
theorem dL_law_1091 : decode cL_law 1091 = .ok (.iconst 0, 1) := by decide +kernel
theorem dL_law_1092 : decode cL_law 1092 = .ok (.ireturn, 1) := by decide +kernel
theorem dL_law_1093 : decode cL_law 1093 = .ok (.goto 114, 3) := by decide +kernel
theorem dL_law_1096 : decode cL_law 1096 = .ok (.aload_n 1, 1) := by decide +kernel
theorem dL_law_1097 : decode cL_law 1097 = .ok (.aload_n 0, 1) := by decide +kernel
theorem dL_law_1098 : decode cL_law 1098 = .ok (.iload 4, 2) := by decide +kernel
theorem dL_law_1100 : decode cL_law 1100 = .ok (.iconst 1, 1) := by decide +kernel
theorem dL_law_1101 : decode cL_law 1101 = .ok (.iadd, 1) := by decide +kernel
theorem dL_law_1102 : decode cL_law 1102 = .ok (.iaload, 1) := by decide +kernel
theorem dL_law_1103 : decode cL_law 1103 = .ok (.aload_n 3, 1) := by decide +kernel
theorem dL_law_1104 : decode cL_law 1104 = .ok (.invokestatic 120, 3) := by decide +kernel
theorem dL_law_1107 : decode cL_law 1107 = .ok (.istore 5, 2) := by decide +kernel
theorem dL_law_1109 : decode cL_law 1109 = .ok (.aload_n 2, 1) := by decide +kernel
theorem dL_law_1110 : decode cL_law 1110 = .ok (.aload_n 0, 1) := by decide +kernel
theorem dL_law_1111 : decode cL_law 1111 = .ok (.iload 4, 2) := by decide +kernel
theorem dL_law_1113 : decode cL_law 1113 = .ok (.iconst 1, 1) := by decide +kernel
theorem dL_law_1114 : decode cL_law 1114 = .ok (.iadd, 1) := by decide +kernel
theorem dL_law_1115 : decode cL_law 1115 = .ok (.iaload, 1) := by decide +kernel
theorem dL_law_1116 : decode cL_law 1116 = .ok (.invokevirtual 122, 3) := by decide +kernel
theorem dL_law_1119 : decode cL_law 1119 = .ok (.istore 6, 2) := by decide +kernel
theorem dL_law_1121 : decode cL_law 1121 = .ok (.aload_n 2, 1) := by decide +kernel
theorem dL_law_1122 : decode cL_law 1122 = .ok (.invokevirtual 74, 3) := by decide +kernel
theorem dL_law_1125 : decode cL_law 1125 = .ok (.iload 5, 2) := by decide +kernel
theorem dL_law_1127 : decode cL_law 1127 = .ok (.if_icmp .eq 5, 3) := by decide +kernel
theorem dL_law_1130 : decode cL_law 1130 = .ok (.iconst 0, 1) := by decide +kernel
theorem dL_law_1131 : decode cL_law 1131 = .ok (.ireturn, 1) := by decide +kernel
theorem dL_law_1132 : decode cL_law 1132 = .ok (.iload 5, 2) := by decide +kernel
theorem dL_law_1134 : decode cL_law 1134 = .ok (.ifCond .ne 15, 3) := by decide +kernel
theorem dL_law_1137 : decode cL_law 1137 = .ok (.aload_n 3, 1) := by decide +kernel
theorem dL_law_1138 : decode cL_law 1138 = .ok (.iconst 0, 1) := by decide +kernel
theorem dL_law_1139 : decode cL_law 1139 = .ok (.laload, 1) := by decide +kernel
theorem dL_law_1140 : decode cL_law 1140 = .ok (.iload 6, 2) := by decide +kernel
theorem dL_law_1142 : decode cL_law 1142 = .ok (.i2l, 1) := by decide +kernel
theorem dL_law_1143 : decode cL_law 1143 = .ok (.lcmp, 1) := by decide +kernel
theorem dL_law_1144 : decode cL_law 1144 = .ok (.ifCond .eq 5, 3) := by decide +kernel
theorem dL_law_1147 : decode cL_law 1147 = .ok (.iconst 0, 1) := by decide +kernel
theorem dL_law_1148 : decode cL_law 1148 = .ok (.ireturn, 1) := by decide +kernel
theorem dL_law_1149 : decode cL_law 1149 = .ok (.goto 58, 3) := by decide +kernel
theorem dL_law_1152 : decode cL_law 1152 = .ok (.aload_n 1, 1) := by decide +kernel
theorem dL_law_1153 : decode cL_law 1153 = .ok (.invokevirtual 123, 3) := by decide +kernel
theorem dL_law_1156 : decode cL_law 1156 = .ok (.dstore 5, 2) := by decide +kernel
theorem dL_law_1158 : decode cL_law 1158 = .ok (.aload_n 2, 1) := by decide +kernel
theorem dL_law_1159 : decode cL_law 1159 = .ok (.invokevirtual 127, 3) := by decide +kernel
theorem dL_law_1162 : decode cL_law 1162 = .ok (.dstore 7, 2) := by decide +kernel
theorem dL_law_1164 : decode cL_law 1164 = .ok (.dload 5, 2) := by decide +kernel
theorem dL_law_1166 : decode cL_law 1166 = .ok (.dload 7, 2) := by decide +kernel
theorem dL_law_1168 : decode cL_law 1168 = .ok (.dcmp .l, 1) := by decide +kernel
theorem dL_law_1169 : decode cL_law 1169 = .ok (.ifCond .eq 21, 3) := by decide +kernel
theorem dL_law_1172 : decode cL_law 1172 = .ok (.dload 5, 2) := by decide +kernel
theorem dL_law_1174 : decode cL_law 1174 = .ok (.dload 5, 2) := by decide +kernel
theorem dL_law_1176 : decode cL_law 1176 = .ok (.dcmp .l, 1) := by decide +kernel
theorem dL_law_1177 : decode cL_law 1177 = .ok (.ifCond .eq 11, 3) := by decide +kernel
theorem dL_law_1180 : decode cL_law 1180 = .ok (.dload 7, 2) := by decide +kernel
theorem dL_law_1182 : decode cL_law 1182 = .ok (.dload 7, 2) := by decide +kernel
theorem dL_law_1184 : decode cL_law 1184 = .ok (.dcmp .l, 1) := by decide +kernel
theorem dL_law_1185 : decode cL_law 1185 = .ok (.ifCond .ne 5, 3) := by decide +kernel
theorem dL_law_1188 : decode cL_law 1188 = .ok (.iconst 0, 1) := by decide +kernel
theorem dL_law_1189 : decode cL_law 1189 = .ok (.ireturn, 1) := by decide +kernel
theorem dL_law_1190 : decode cL_law 1190 = .ok (.goto 17, 3) := by decide +kernel
theorem dL_law_1193 : decode cL_law 1193 = .ok (.aload_n 1, 1) := by decide +kernel
theorem dL_law_1194 : decode cL_law 1194 = .ok (.invokevirtual 128, 3) := by decide +kernel
theorem dL_law_1197 : decode cL_law 1197 = .ok (.aload_n 2, 1) := by decide +kernel
theorem dL_law_1198 : decode cL_law 1198 = .ok (.invokevirtual 132, 3) := by decide +kernel
theorem dL_law_1201 : decode cL_law 1201 = .ok (.lcmp, 1) := by decide +kernel
theorem dL_law_1202 : decode cL_law 1202 = .ok (.ifCond .eq 5, 3) := by decide +kernel
theorem dL_law_1205 : decode cL_law 1205 = .ok (.iconst 0, 1) := by decide +kernel
theorem dL_law_1206 : decode cL_law 1206 = .ok (.ireturn, 1) := by decide +kernel
theorem dL_law_1207 : decode cL_law 1207 = .ok (.iinc 4 5, 3) := by decide +kernel
theorem dL_law_1210 : decode cL_law 1210 = .ok (.goto (-1187), 3) := by decide +kernel
theorem dL_law_1213 : decode cL_law 1213 = .ok (.iconst 1, 1) := by decide +kernel
theorem dL_law_1214 : decode cL_law 1214 = .ok (.ireturn, 1) := by decide +kernel
end
