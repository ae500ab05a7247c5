section
-- ===== PART A: goes FIRST, ahead of the names: the tables' words, and 'selects' of the private methods out of them =====
/-- a private method of a class that the tables say can be made, by its rows of tables_1 -/
def lw_okq (q : MethodName × Nat) : Prop := (q.1.cls ≠ "java/lang/invoke/MethodHandle" ∧ q.1.cls ≠ "java/lang/invoke/VarHandle") ∧ Cond.instantiable q.1.cls q.2 ∈ tables_1 ∧ Cond.privateMethod q.1 ∈ tables_1 ∧ Cond.instanceMethod q.1 ∈ tables_1
theorem lw_p0 : lw_okq (⟨"ZipCanopy", "countFact", "(I)I"⟩, 4) := ⟨⟨by decide +kernel, by decide +kernel⟩, List.mem_of_getElem? (i := 21) (by decide +kernel), List.mem_of_getElem? (i := 294) (by decide +kernel), List.mem_of_getElem? (i := 295) (by decide +kernel)⟩
theorem lw_p1 : lw_okq (⟨"ZipCanopy", "digestPlatform", "(JI)J"⟩, 4) := ⟨⟨by decide +kernel, by decide +kernel⟩, List.mem_of_getElem? (i := 21) (by decide +kernel), List.mem_of_getElem? (i := 314) (by decide +kernel), List.mem_of_getElem? (i := 315) (by decide +kernel)⟩
theorem lw_p2 : lw_okq (⟨"ZipCanopy", "platformFact", "(II)I"⟩, 4) := ⟨⟨by decide +kernel, by decide +kernel⟩, List.mem_of_getElem? (i := 21) (by decide +kernel), List.mem_of_getElem? (i := 318) (by decide +kernel), List.mem_of_getElem? (i := 319) (by decide +kernel)⟩
theorem lw_p3 : lw_okq (⟨"ZipCanopy", "lineFact", "(II)I"⟩, 4) := ⟨⟨by decide +kernel, by decide +kernel⟩, List.mem_of_getElem? (i := 21) (by decide +kernel), List.mem_of_getElem? (i := 342) (by decide +kernel), List.mem_of_getElem? (i := 343) (by decide +kernel)⟩
theorem lw_p4 : lw_okq (⟨"ZipCanopy", "riderFact", "(II)I"⟩, 4) := ⟨⟨by decide +kernel, by decide +kernel⟩, List.mem_of_getElem? (i := 21) (by decide +kernel), List.mem_of_getElem? (i := 358) (by decide +kernel), List.mem_of_getElem? (i := 359) (by decide +kernel)⟩
theorem lw_p5 : lw_okq (⟨"java/lang/Throwable", "fillInStackTrace", "(I)Ljava/lang/Throwable;"⟩, 6) := ⟨⟨by decide +kernel, by decide +kernel⟩, List.mem_of_getElem? (i := 424) (by decide +kernel), List.mem_of_getElem? (i := 422) (by decide +kernel), List.mem_of_getElem? (i := 423) (by decide +kernel)⟩
theorem lw_p6 : lw_okq (⟨"ZipCanopy", "isPlatform", "(I)Z"⟩, 4) := ⟨⟨by decide +kernel, by decide +kernel⟩, List.mem_of_getElem? (i := 21) (by decide +kernel), List.mem_of_getElem? (i := 486) (by decide +kernel), List.mem_of_getElem? (i := 487) (by decide +kernel)⟩
theorem lw_p7 : lw_okq (⟨"ZipCanopy$Route", "extend", "(LZipCanopy$Line;III)V"⟩, 2) := ⟨⟨by decide +kernel, by decide +kernel⟩, List.mem_of_getElem? (i := 99) (by decide +kernel), List.mem_of_getElem? (i := 531) (by decide +kernel), List.mem_of_getElem? (i := 532) (by decide +kernel)⟩
theorem lw_p8 : lw_okq (⟨"ZipCanopy", "isLine", "(I)Z"⟩, 4) := ⟨⟨by decide +kernel, by decide +kernel⟩, List.mem_of_getElem? (i := 21) (by decide +kernel), List.mem_of_getElem? (i := 551) (by decide +kernel), List.mem_of_getElem? (i := 552) (by decide +kernel)⟩
theorem lw_p9 : lw_okq (⟨"ZipCanopy", "isRider", "(I)Z"⟩, 4) := ⟨⟨by decide +kernel, by decide +kernel⟩, List.mem_of_getElem? (i := 21) (by decide +kernel), List.mem_of_getElem? (i := 636) (by decide +kernel), List.mem_of_getElem? (i := 637) (by decide +kernel)⟩
theorem lw_p10 : lw_okq (⟨"ZipCanopy$Traffic", "moveTrolleys", "(LZipCanopy$Line;LZipCanopy$Trolleys;)V"⟩, 6) := ⟨⟨by decide +kernel, by decide +kernel⟩, List.mem_of_getElem? (i := 171) (by decide +kernel), List.mem_of_getElem? (i := 666) (by decide +kernel), List.mem_of_getElem? (i := 667) (by decide +kernel)⟩
theorem lw_p11 : lw_okq (⟨"ZipCanopy$Traffic", "beginRide", "(LZipCanopy$Line;I)V"⟩, 6) := ⟨⟨by decide +kernel, by decide +kernel⟩, List.mem_of_getElem? (i := 171) (by decide +kernel), List.mem_of_getElem? (i := 684) (by decide +kernel), List.mem_of_getElem? (i := 685) (by decide +kernel)⟩
theorem lw_p12 : lw_okq (⟨"ZipCanopy$Traffic", "firstWaitingFor", "(I)I"⟩, 6) := ⟨⟨by decide +kernel, by decide +kernel⟩, List.mem_of_getElem? (i := 171) (by decide +kernel), List.mem_of_getElem? (i := 688) (by decide +kernel), List.mem_of_getElem? (i := 689) (by decide +kernel)⟩
theorem lw_p13 : lw_okq (⟨"ZipCanopy$Traffic", "leaveWaiting", "(I)V"⟩, 6) := ⟨⟨by decide +kernel, by decide +kernel⟩, List.mem_of_getElem? (i := 171) (by decide +kernel), List.mem_of_getElem? (i := 698) (by decide +kernel), List.mem_of_getElem? (i := 699) (by decide +kernel)⟩
theorem lw_p14 : lw_okq (⟨"ZipCanopy$Traffic", "tireWaiting", "()V"⟩, 6) := ⟨⟨by decide +kernel, by decide +kernel⟩, List.mem_of_getElem? (i := 171) (by decide +kernel), List.mem_of_getElem? (i := 711) (by decide +kernel), List.mem_of_getElem? (i := 712) (by decide +kernel)⟩
theorem lw_p15 : lw_okq (⟨"ZipCanopy", "arrivalsWithOneMore", "(II)I"⟩, 4) := ⟨⟨by decide +kernel, by decide +kernel⟩, List.mem_of_getElem? (i := 21) (by decide +kernel), List.mem_of_getElem? (i := 772) (by decide +kernel), List.mem_of_getElem? (i := 773) (by decide +kernel)⟩
def lw_privs_1 : List (MethodName × Nat) := [(⟨"ZipCanopy", "countFact", "(I)I"⟩, 4), (⟨"ZipCanopy", "digestPlatform", "(JI)J"⟩, 4), (⟨"ZipCanopy", "platformFact", "(II)I"⟩, 4), (⟨"ZipCanopy", "lineFact", "(II)I"⟩, 4), (⟨"ZipCanopy", "riderFact", "(II)I"⟩, 4), (⟨"java/lang/Throwable", "fillInStackTrace", "(I)Ljava/lang/Throwable;"⟩, 6), (⟨"ZipCanopy", "isPlatform", "(I)Z"⟩, 4), (⟨"ZipCanopy$Route", "extend", "(LZipCanopy$Line;III)V"⟩, 2), (⟨"ZipCanopy", "isLine", "(I)Z"⟩, 4), (⟨"ZipCanopy", "isRider", "(I)Z"⟩, 4), (⟨"ZipCanopy$Traffic", "moveTrolleys", "(LZipCanopy$Line;LZipCanopy$Trolleys;)V"⟩, 6), (⟨"ZipCanopy$Traffic", "beginRide", "(LZipCanopy$Line;I)V"⟩, 6), (⟨"ZipCanopy$Traffic", "firstWaitingFor", "(I)I"⟩, 6), (⟨"ZipCanopy$Traffic", "leaveWaiting", "(I)V"⟩, 6), (⟨"ZipCanopy$Traffic", "tireWaiting", "()V"⟩, 6), (⟨"ZipCanopy", "arrivalsWithOneMore", "(II)I"⟩, 4)]
theorem lw_r1 : ∀ q ∈ lw_privs_1, lw_okq q := List.forall_mem_cons.mpr ⟨lw_p0, List.forall_mem_cons.mpr ⟨lw_p1, List.forall_mem_cons.mpr ⟨lw_p2, List.forall_mem_cons.mpr ⟨lw_p3, List.forall_mem_cons.mpr ⟨lw_p4, List.forall_mem_cons.mpr ⟨lw_p5, List.forall_mem_cons.mpr ⟨lw_p6, List.forall_mem_cons.mpr ⟨lw_p7, List.forall_mem_cons.mpr ⟨lw_p8, List.forall_mem_cons.mpr ⟨lw_p9, List.forall_mem_cons.mpr ⟨lw_p10, List.forall_mem_cons.mpr ⟨lw_p11, List.forall_mem_cons.mpr ⟨lw_p12, List.forall_mem_cons.mpr ⟨lw_p13, List.forall_mem_cons.mpr ⟨lw_p14, List.forall_mem_cons.mpr ⟨lw_p15, fun _ h => absurd h List.not_mem_nil⟩⟩⟩⟩⟩⟩⟩⟩⟩⟩⟩⟩⟩⟩⟩⟩
theorem lw_p16 : lw_okq (⟨"ZipCanopyModel", "no", "(I)I"⟩, 16) := ⟨⟨by decide +kernel, by decide +kernel⟩, List.mem_of_getElem? (i := 776) (by decide +kernel), List.mem_of_getElem? (i := 913) (by decide +kernel), List.mem_of_getElem? (i := 914) (by decide +kernel)⟩
theorem lw_p17 : lw_okq (⟨"ZipCanopyModel", "isPlatform", "(I)Z"⟩, 16) := ⟨⟨by decide +kernel, by decide +kernel⟩, List.mem_of_getElem? (i := 776) (by decide +kernel), List.mem_of_getElem? (i := 921) (by decide +kernel), List.mem_of_getElem? (i := 922) (by decide +kernel)⟩
theorem lw_p18 : lw_okq (⟨"ZipCanopyModel", "isLine", "(I)Z"⟩, 16) := ⟨⟨by decide +kernel, by decide +kernel⟩, List.mem_of_getElem? (i := 776) (by decide +kernel), List.mem_of_getElem? (i := 929) (by decide +kernel), List.mem_of_getElem? (i := 930) (by decide +kernel)⟩
theorem lw_p19 : lw_okq (⟨"ZipCanopyModel", "platformTold", "(II)I"⟩, 16) := ⟨⟨by decide +kernel, by decide +kernel⟩, List.mem_of_getElem? (i := 776) (by decide +kernel), List.mem_of_getElem? (i := 941) (by decide +kernel), List.mem_of_getElem? (i := 942) (by decide +kernel)⟩
theorem lw_p20 : lw_okq (⟨"ZipCanopyModel", "lineTold", "(II)I"⟩, 16) := ⟨⟨by decide +kernel, by decide +kernel⟩, List.mem_of_getElem? (i := 776) (by decide +kernel), List.mem_of_getElem? (i := 949) (by decide +kernel), List.mem_of_getElem? (i := 950) (by decide +kernel)⟩
theorem lw_p21 : lw_okq (⟨"ZipCanopyModel", "lengthOf", "(I)I"⟩, 16) := ⟨⟨by decide +kernel, by decide +kernel⟩, List.mem_of_getElem? (i := 776) (by decide +kernel), List.mem_of_getElem? (i := 953) (by decide +kernel), List.mem_of_getElem? (i := 954) (by decide +kernel)⟩
theorem lw_p22 : lw_okq (⟨"ZipCanopyModel", "dropOf", "(I)I"⟩, 16) := ⟨⟨by decide +kernel, by decide +kernel⟩, List.mem_of_getElem? (i := 776) (by decide +kernel), List.mem_of_getElem? (i := 958) (by decide +kernel), List.mem_of_getElem? (i := 959) (by decide +kernel)⟩
theorem lw_p23 : lw_okq (⟨"ZipCanopyModel", "isClosed", "(II)Z"⟩, 16) := ⟨⟨by decide +kernel, by decide +kernel⟩, List.mem_of_getElem? (i := 776) (by decide +kernel), List.mem_of_getElem? (i := 966) (by decide +kernel), List.mem_of_getElem? (i := 967) (by decide +kernel)⟩
theorem lw_p24 : lw_okq (⟨"ZipCanopyModel", "rideOf", "(II)I"⟩, 16) := ⟨⟨by decide +kernel, by decide +kernel⟩, List.mem_of_getElem? (i := 776) (by decide +kernel), List.mem_of_getElem? (i := 974) (by decide +kernel), List.mem_of_getElem? (i := 975) (by decide +kernel)⟩
theorem lw_p25 : lw_okq (⟨"ZipCanopyModel", "riderTold", "(II)I"⟩, 16) := ⟨⟨by decide +kernel, by decide +kernel⟩, List.mem_of_getElem? (i := 776) (by decide +kernel), List.mem_of_getElem? (i := 990) (by decide +kernel), List.mem_of_getElem? (i := 991) (by decide +kernel)⟩
theorem lw_p26 : lw_okq (⟨"ZipCanopyModel", "fewest", "(III)I"⟩, 16) := ⟨⟨by decide +kernel, by decide +kernel⟩, List.mem_of_getElem? (i := 776) (by decide +kernel), List.mem_of_getElem? (i := 998) (by decide +kernel), List.mem_of_getElem? (i := 999) (by decide +kernel)⟩
theorem lw_p27 : lw_okq (⟨"ZipCanopyModel", "first", "(III)I"⟩, 16) := ⟨⟨by decide +kernel, by decide +kernel⟩, List.mem_of_getElem? (i := 776) (by decide +kernel), List.mem_of_getElem? (i := 1003) (by decide +kernel), List.mem_of_getElem? (i := 1004) (by decide +kernel)⟩
theorem lw_p28 : lw_okq (⟨"ZipCanopyModel$State", "roll", "(I)V"⟩, 15) := ⟨⟨by decide +kernel, by decide +kernel⟩, List.mem_of_getElem? (i := 782) (by decide +kernel), List.mem_of_getElem? (i := 1023) (by decide +kernel), List.mem_of_getElem? (i := 1024) (by decide +kernel)⟩
theorem lw_p29 : lw_okq (⟨"ZipCanopyModel$State", "begin", "(I)V"⟩, 15) := ⟨⟨by decide +kernel, by decide +kernel⟩, List.mem_of_getElem? (i := 782) (by decide +kernel), List.mem_of_getElem? (i := 1030) (by decide +kernel), List.mem_of_getElem? (i := 1031) (by decide +kernel)⟩
theorem lw_p30 : lw_okq (⟨"ZipCanopyModel$State", "strike", "(I)V"⟩, 15) := ⟨⟨by decide +kernel, by decide +kernel⟩, List.mem_of_getElem? (i := 782) (by decide +kernel), List.mem_of_getElem? (i := 1035) (by decide +kernel), List.mem_of_getElem? (i := 1036) (by decide +kernel)⟩
theorem lw_p31 : lw_okq (⟨"ZipCanopyModel", "counted", "(I)I"⟩, 16) := ⟨⟨by decide +kernel, by decide +kernel⟩, List.mem_of_getElem? (i := 776) (by decide +kernel), List.mem_of_getElem? (i := 1046) (by decide +kernel), List.mem_of_getElem? (i := 1047) (by decide +kernel)⟩
def lw_privs_2 : List (MethodName × Nat) := [(⟨"ZipCanopyModel", "no", "(I)I"⟩, 16), (⟨"ZipCanopyModel", "isPlatform", "(I)Z"⟩, 16), (⟨"ZipCanopyModel", "isLine", "(I)Z"⟩, 16), (⟨"ZipCanopyModel", "platformTold", "(II)I"⟩, 16), (⟨"ZipCanopyModel", "lineTold", "(II)I"⟩, 16), (⟨"ZipCanopyModel", "lengthOf", "(I)I"⟩, 16), (⟨"ZipCanopyModel", "dropOf", "(I)I"⟩, 16), (⟨"ZipCanopyModel", "isClosed", "(II)Z"⟩, 16), (⟨"ZipCanopyModel", "rideOf", "(II)I"⟩, 16), (⟨"ZipCanopyModel", "riderTold", "(II)I"⟩, 16), (⟨"ZipCanopyModel", "fewest", "(III)I"⟩, 16), (⟨"ZipCanopyModel", "first", "(III)I"⟩, 16), (⟨"ZipCanopyModel$State", "roll", "(I)V"⟩, 15), (⟨"ZipCanopyModel$State", "begin", "(I)V"⟩, 15), (⟨"ZipCanopyModel$State", "strike", "(I)V"⟩, 15), (⟨"ZipCanopyModel", "counted", "(I)I"⟩, 16)]
theorem lw_r2 : ∀ q ∈ lw_privs_2, lw_okq q := List.forall_mem_cons.mpr ⟨lw_p16, List.forall_mem_cons.mpr ⟨lw_p17, List.forall_mem_cons.mpr ⟨lw_p18, List.forall_mem_cons.mpr ⟨lw_p19, List.forall_mem_cons.mpr ⟨lw_p20, List.forall_mem_cons.mpr ⟨lw_p21, List.forall_mem_cons.mpr ⟨lw_p22, List.forall_mem_cons.mpr ⟨lw_p23, List.forall_mem_cons.mpr ⟨lw_p24, List.forall_mem_cons.mpr ⟨lw_p25, List.forall_mem_cons.mpr ⟨lw_p26, List.forall_mem_cons.mpr ⟨lw_p27, List.forall_mem_cons.mpr ⟨lw_p28, List.forall_mem_cons.mpr ⟨lw_p29, List.forall_mem_cons.mpr ⟨lw_p30, List.forall_mem_cons.mpr ⟨lw_p31, fun _ h => absurd h List.not_mem_nil⟩⟩⟩⟩⟩⟩⟩⟩⟩⟩⟩⟩⟩⟩⟩⟩
theorem lw_p32 : lw_okq (⟨"ZipCanopyModel$State", "copy", "([I[I)V"⟩, 15) := ⟨⟨by decide +kernel, by decide +kernel⟩, List.mem_of_getElem? (i := 782) (by decide +kernel), List.mem_of_getElem? (i := 1063) (by decide +kernel), List.mem_of_getElem? (i := 1064) (by decide +kernel)⟩
theorem lw_p33 : lw_okq (⟨"ZipCanopyModel", "arrivedIn", "(I)I"⟩, 16) := ⟨⟨by decide +kernel, by decide +kernel⟩, List.mem_of_getElem? (i := 776) (by decide +kernel), List.mem_of_getElem? (i := 1074) (by decide +kernel), List.mem_of_getElem? (i := 1075) (by decide +kernel)⟩
def lw_privs_3 : List (MethodName × Nat) := [(⟨"ZipCanopyModel$State", "copy", "([I[I)V"⟩, 15), (⟨"ZipCanopyModel", "arrivedIn", "(I)I"⟩, 16)]
theorem lw_r3 : ∀ q ∈ lw_privs_3, lw_okq q := List.forall_mem_cons.mpr ⟨lw_p32, List.forall_mem_cons.mpr ⟨lw_p33, fun _ h => absurd h List.not_mem_nil⟩⟩
def lw_privs : List (MethodName × Nat) := lw_privs_1 ++ (lw_privs_2 ++ (lw_privs_3))
def lw_tbl : List Cond := k2_sels lw_privs ++ tables_1
theorem lw_privs_ok : ∀ q ∈ lw_privs, lw_okq q := by
  show ∀ q ∈ lw_privs_1 ++ (lw_privs_2 ++ (lw_privs_3)), lw_okq q
  exact List.forall_mem_append.mpr ⟨lw_r1, List.forall_mem_append.mpr ⟨lw_r2, lw_r3⟩⟩
/-- the streams that the claim lets the run draw from -/
abbrev lw_cs : List Choice := [Jvm.Choice.named "NaN.bits"]
theorem lw_bits : nanBits ∈ lw_cs := by first | decide | exact List.mem_cons_self | simp [lw_cs, nanBits]
-- ===== end of PART A; then your names; then what follows =====
def R_law : String := "ZipCanopyLaw"
/-! ===== BEGIN words of one list among another's, by their places ===== -/
theorem goodIn_r {big : List Cond} (ws : List Cond) (ps : List Nat) (hp : ws = ps.filterMap (fun i => big[i]?)) (h : ws.all goodWord = true) : GoodIn big ws := by
  intro w hw
  have h1 := List.all_eq_true.mp h w hw
  rw [hp] at hw
  obtain ⟨i, -, hi⟩ := List.mem_filterMap.mp hw
  have hm : w ∈ big := by first | exact List.mem_of_getElem? hi | exact List.getElem?_mem hi
  exact ⟨hm, good_of_word h1⟩
theorem goodIn_app {big a b : List Cond} (ha : GoodIn big a) (hb : GoodIn big b) : GoodIn big (a ++ b) := fun w h => (List.mem_append.mp h).elim (ha w) (hb w)
theorem goodIn_ca {big a b : List Cond} {c : Cond} (ha : GoodIn big (c :: a)) (hb : GoodIn big b) : GoodIn big (c :: (a ++ b)) := fun w h => (List.mem_cons.mp h).elim (fun e => ha w (List.mem_cons.mpr (Or.inl e))) (fun h => (List.mem_append.mp h).elim (fun h => ha w (List.mem_cons.mpr (Or.inr h))) (hb w))
theorem goodIn_sub {big ws : List Cond} (hm : ∀ w ∈ ws, w ∈ big) (h : ws.all goodWord = true) : GoodIn big ws := fun w hw => ⟨hm w hw, good_of_word (List.all_eq_true.mp h w hw)⟩
/-! ===== END ===== -/

/-! ===== BEGIN exceptions that leave a method, and their catching by the caller (launches without stack traces) ===== -/
section VXA
/-! The laws vx_back, vx_callV, vx_callS, vx_callSW, vx_throw0, vx_throwS follow proofs of the library, with one case more: JvmDerived/Free/Laws.lean (Back.of_free), Shelf42/LK1.lean (callV, callS), Shelf/KitTraced.lean (throwNew0V, throwNewS). -/
/-- where a method has thrown q: the class by its name, the cell, what was written, the world -/
def vx_T (XC : String → State → State → Prop) (st : State) (q : Addr) (t : State) (mc ms : Nat) (free : Addr → Prop) : Prop :=
  ∃ (E : String) (ce : Cell) (L : List Loc), XC E st t ∧ t.heap[q]? = some ce ∧ ce.vm = .none ∧ st.vm.findClass E = some ce.cls ∧ st.WarmedH t.vm ∧ st.sameButNew ({ t with vm := st.vm } : State) L mc ms ∧ ∀ z ∈ L, free z.base
def vx_Q (Qc : Array Value → State → Outcome → State → Prop) (XC : String → State → State → Prop) (mc ms : Nat) (free : Addr → Prop) : Array Value → State → Outcome → State → Prop := fun a st o t =>
  (Qc a st o t ∧ ∃ L, FrameEnd st o t L mc ms ∧ ∀ q ∈ L, free q.base) ∨ ∃ q, o = .threw q ∧ vx_T XC st q t mc ms free
/-- a callee that returns or throws -/
def vx_Met (l : Launch) (y : MethodName) (ws : List Cond) (rm : Room) (Pc : Array Value → State → Prop) (Qc : Array Value → State → Outcome → State → Prop) (XC : String → State → State → Prop) (mc ms : Nat) (free : Addr → Prop) : Prop :=
  MetFree l y (headSpec ws rm) Pc (fun _ _ _ _ _ => True) (vx_Q Qc XC mc ms free)
def vx_Post (XC : String → State → State → Prop) (mc ms : Nat) (free : Addr → Prop) : Pt → Array Value → Addr → Pt → Prop := fun A a q B =>
  ∃ (g : JFrame) (mk : MethodId) (t : State) (L : List Loc) (E : String) (ce : Cell), B.U.heap = t.heap ∧ B.U.vm = t.vm ∧ XC E (A.U.calling g mk a) t ∧ t.heap[q]? = some ce ∧ ce.vm = .none ∧ A.U.vm.findClass E = some ce.cls ∧ B.locs = A.locs ++ L ∧ (∀ z ∈ L, free z.base) ∧ B.cells = A.cells + mc ∧ B.slots = A.slots + ms
def vx_Back (l : Launch) (R : Room) (p : Program) (e : Env) (below : List Frame) (s : State) (sargs : Array Value) (y : MethodName) (len W9 : Nat)
    (Pre : Pt → Array Value → Prop) (Post : Pt → Array Value → Option Value → Pt → Prop) (PostX : Pt → Array Value → Addr → Pt → Prop) : Prop :=
  ∀ (m : MethodId) (meth : Method) (c : Code) (A : Pt) (g : JFrame) (ig : Instr) (mk : MethodId) (a : Array Value),
    Stand p l e R s m sargs below meth c A.U A.locs A.cells A.slots → g.method = m → g.locals.size = c.maxLocals → decode c.code g.pc = .ok (ig, len) →
    2 * g.monitorRoom + (g.stack.map fun v => v.category).sum ≤ W9 → A.U.methodNamed? y = some mk → Pre A a →
    (∃ (v : Option Value) (B : Pt), Stand p l e R s m sargs below meth c B.U B.locs B.cells B.slots ∧ Post A a v B ∧
      Steps p.tables e below (doInvoke e (A.U.setTop g) [] mk a).1 (B.U.setTop { g with pc := g.pc + len, stack := v.toList ++ g.stack })) ∨
    (∃ (q : Addr) (B : Pt), Stand p l e R s m sargs below meth c B.U B.locs B.cells B.slots ∧ PostX A a q B ∧
      Steps p.tables e below (doInvoke e (A.U.setTop g) [] mk a).1 ((B.U.setTop g).pushFrame (.throwing q)))
section Payer
variable {l : Launch} {R : Room} {p : Program} {e : Env} {below : List Frame} {s : State} {sargs : Array Value} {y : MethodName} {len W9 : Nat}
theorem vx_back {ws : List Cond} {rm : Room} {Pc : Array Value → State → Prop} {Qc : Array Value → State → Outcome → State → Prop} {XC : String → State → State → Prop} {mc ms : Nat} {free : Addr → Prop} {bytes : ByteArray} {maxL : Nat} {ret : Option FieldType}
    (hM : vx_Met l y ws rm Pc Qc XC mc ms free) (hblind : FrameBlind Pc) (hrc : rm.cells = mc) (hrs : rm.slots = ms)
    (hframes : rm.frames + 1 ≤ R.frames) (hlocals : W9 + (maxL + 11) + rm.locals ≤ R.locals)
    (hws : ∀ w ∈ ws, ∀ a' U, s.WarmedH U.vm → w.before a' U = true) (hcode : Cond.code y bytes maxL ret ∈ ws) (hinit : ∀ a' U, s.WarmedH U.vm → (Cond.initialized y.cls).before a' U = true) :
    vx_Back l R p e below s sargs y len W9 (PreOf R mc ms Pc) (PostOf Qc mc ms free) (vx_Post XC mc ms free) := by
  intro m meth c A g ig mk a X hg hsize hdg hW hn hp
  have h1 : (headSpec ws rm).pre.before a A.U = true := atoms_intro fun w hw => hws w hw _ _ X.warmed
  have h2 : (Cond.code y bytes maxL ret).before a A.U = true := hws _ hcode _ _ X.warmed
  have h3 : (Cond.initialized y.cls).before a A.U = true := hinit _ _ X.warmed
  have h4 : A.cells + (headSpec ws rm).room.cells ≤ R.cells := by rw [show (headSpec ws rm).room.cells = mc from hrc]; exact hp.1
  have h5 : A.slots + (headSpec ws rm).room.slots ≤ R.slots := by rw [show (headSpec ws rm).room.slots = ms from hrs]; exact hp.2.1
  have hPc : Pc a (A.U.calling g mk a) := hblind _ _ _ _ hp.2.2
  obtain ⟨U, Ls, c0, s0⟩ := A
  dsimp only [Pt.U, Pt.locs, Pt.cells, Pt.slots] at h1 h2 h3 h4 h5 X hn hPc ⊢
  obtain ⟨methY, cY, hmY, hcY, -, hlY, -, -, -, -⟩ := Cond.code_spec hn h2
  obtain ⟨kY, hkY, -⟩ := className_of_methodNamed hn
  have hinitY : kY.init = .initialized := Cond.initialized_spec (findClass_of_methodNamed hn) hkY h3
  have h : At U g.method c below := by rw [hg]; exact X.here
  have hlocals9 : W9 + (maxL + 11) + (headSpec ws rm).room.locals ≤ R.locals := hlocals
  have happ : (headSpec ws rm).appliesLoose y e.platform (U.calling g mk a) = true :=
    Spec.appliesLoose_calling (g := g) h hdg hn hkY hinitY
      (X.room_calling (g := g) (R' := (headSpec ws rm).room) hsize hmY hcY hframes (by rw [hlY]; omega) h4 h5) h1
  obtain ⟨mid, hmid⟩ := h.above
  have hfr : (U.setTop g).frames = (.java g :: mid) ++ below := by rw [State.frames_setTop' g h.top, hmid]; rfl
  obtain ⟨o, s₂, hsteps, -, hend, hq⟩ := Steps.callFree hM p X.admits X.cas X.clock (acts := []) hfr happ hPc trivial
  have hq' : vx_Q Qc XC mc ms free a (U.calling g mk a) o s₂ := hq
  rw [State.frames_setTop' g h.top] at hend
  obtain ⟨g₀, hg0⟩ := Option.isSome_iff_exists.mp h.top
  obtain ⟨r, hr⟩ := State.topJava?_eq_some.mp hg0
  have hr' : (({ U with heap := s₂.heap, slotsUsed := s₂.slotsUsed } : State).setVm s₂.vm).frames = .java g₀ :: r := hr
  rcases hq' with ⟨hqc, L, hfe, hL⟩ | ⟨q, rfl, E, ce, L, hx, hce, hcv, hcl, hW₂, hsm, hL⟩
  · obtain ⟨⟨v, rfl⟩, hW₂, e2, q2, q3, q4, q5, q6⟩ := id hfe
    have e3 : s₂ = ({ (U.calling g mk a).setFrames s₂.frames with heap := s₂.heap, slotsUsed := s₂.slotsUsed } : State).setVm s₂.vm := by
      have : s₂ = ({ s₂ with vm := (U.calling g mk a).vm } : State).setVm s₂.vm := rfl
      rw [e2] at this
      exact this
    obtain ⟨c₂, i₂, len₂, hc₂, hd₂, hf₂⟩ := hend
    have hW' : U.WarmedH s₂.vm := hW₂
    have hcc : c₂ = c := by
      have h1 : s₂.code? g.method = U.code? g.method := by
        rw [State.code?_eq, State.code?_eq, hW'.alike.method?]
      exact Option.some.inj (hc₂.symm.trans (h1.trans h.code))
    subst hcc
    have hlen : len₂ = len := by rw [hdg] at hd₂; cases hd₂; rfl
    subst hlen
    have hs₂ : s₂ = (({ U with heap := s₂.heap, slotsUsed := s₂.slotsUsed } : State).setVm s₂.vm).setTop { g with pc := g.pc + len₂, stack := v.toList ++ g.stack } := by
      refine e3.trans ?_
      rw [hf₂, State.calling_eq h.top, State.setFrames_setFrames, State.setTop_of_frames _ hr', hr]
      rfl
    have hsame : U.sameButNew ({ U with heap := s₂.heap, slotsUsed := s₂.slotsUsed } : State) L mc ms := by
      refine ⟨?_, q2, q3, q4, q5, q6⟩
      obtain ⟨t, ht, -⟩ := State.frames_cons hr
      show ({ U with heap := s₂.heap, slotsUsed := s₂.slotsUsed } : State) = { U.setFrames U.frames with heap := s₂.heap, slotsUsed := s₂.slotsUsed }
      rw [State.setFrames_self ht]
    subst hg
    refine Or.inl ⟨v, ⟨(({ U with heap := s₂.heap, slotsUsed := s₂.slotsUsed } : State).setVm s₂.vm), Ls ++ L, c0 + mc, s0 + ms⟩,
      ⟨X.admits, X.cas, X.clock, X.frames, X.room, X.hears, X.method, X.code, (X.here.setHeapUsed s₂.heap s₂.slotsUsed).setVm hW'.alike, X.tail, State.WarmedH.trans X.warmed hW', X.limits, X.bytes, X.same.trans (hsame.setVm s.vm)⟩,
      ⟨g, mk, s₂, L, rfl, rfl, hqc, rfl, hL, rfl, rfl⟩, ?_⟩
    show Steps p.tables e below _ ((({ U with heap := s₂.heap, slotsUsed := s₂.slotsUsed } : State).setVm s₂.vm).setTop { g with pc := g.pc + len₂, stack := v.toList ++ g.stack })
    rw [← hs₂]
    exact hsteps
  · obtain ⟨e2, q2, q3, q4, q5, q6⟩ := id hsm
    have e3 : s₂ = ({ (U.calling g mk a).setFrames s₂.frames with heap := s₂.heap, slotsUsed := s₂.slotsUsed } : State).setVm s₂.vm := by
      have : s₂ = ({ s₂ with vm := (U.calling g mk a).vm } : State).setVm s₂.vm := rfl
      rw [e2] at this
      exact this
    have hf₂ : s₂.frames = .throwing q :: .java g :: U.frames.tail := hend
    have hW' : U.WarmedH s₂.vm := hW₂
    have hs₂ : s₂ = ((({ U with heap := s₂.heap, slotsUsed := s₂.slotsUsed } : State).setVm s₂.vm).setTop g).pushFrame (.throwing q) := by
      refine e3.trans ?_
      rw [hf₂, State.calling_eq h.top, State.setFrames_setFrames, State.pushFrame, State.frames_setTop _ hr', State.setTop_of_frames _ hr', State.setFrames_setFrames, hr]
      rfl
    have hsame : U.sameButNew ({ U with heap := s₂.heap, slotsUsed := s₂.slotsUsed } : State) L mc ms := by
      refine ⟨?_, q2, q3, q4, q5, q6⟩
      obtain ⟨t, ht, -⟩ := State.frames_cons hr
      show ({ U with heap := s₂.heap, slotsUsed := s₂.slotsUsed } : State) = { U.setFrames U.frames with heap := s₂.heap, slotsUsed := s₂.slotsUsed }
      rw [State.setFrames_self ht]
    subst hg
    refine Or.inr ⟨q, ⟨(({ U with heap := s₂.heap, slotsUsed := s₂.slotsUsed } : State).setVm s₂.vm), Ls ++ L, c0 + mc, s0 + ms⟩,
      ⟨X.admits, X.cas, X.clock, X.frames, X.room, X.hears, X.method, X.code, (X.here.setHeapUsed s₂.heap s₂.slotsUsed).setVm hW'.alike, X.tail, State.WarmedH.trans X.warmed hW', X.limits, X.bytes, X.same.trans (hsame.setVm s.vm)⟩,
      ⟨g, mk, s₂, L, E, ce, rfl, rfl, hx, hce, hcv, hcl, rfl, hL, rfl, rfl⟩, ?_⟩
    show Steps p.tables e below _ (((({ U with heap := s₂.heap, slotsUsed := s₂.slotsUsed } : State).setVm s₂.vm).setTop g).pushFrame (.throwing q))
    rw [← hs₂]
    exact hsteps
end Payer
section Calls
variable {p : Program} {l : Launch} {e : Env} {R : Room} {s : State} {m : MethodId} {args : Array Value} {below : List Frame} {meth : Method} {c : Code} {T : State} {locs : List Loc} {cells slots : Nat}
theorem vx_callV (X : Stand p l e R s m args below meth c T locs cells slots) (hexec : p.tables.exec = Jvm.exec) {own C : String} {index : Nat} {y : MethodName} {bytes : ByteArray} {maxL : Nat} {ret : Option FieldType}
    (hown : s.vm.findClass own = some m.cls) (hlink : (Cond.methodLink own index y).before args s = true) (hinst : (Cond.instanceMethod y).before args s = true) (hsel : (Cond.selects C y y).before args s = true)
    (hcode : (Cond.code y bytes maxL ret).before args s = true) (hy : y.cls ≠ "java/lang/invoke/MethodHandle" ∧ y.cls ≠ "java/lang/invoke/VarHandle")
    {W9 : Nat} {Pre : Pt → Array Value → Prop} {Post : Pt → Array Value → Option Value → Pt → Prop} {PostX : Pt → Array Value → Addr → Pt → Prop} (hK : vx_Back l R p e below s args y 3 W9 Pre Post PostX)
    {b : Addr} {cellB : Cell} (hcell : T.heap[b]? = some cellB) (hobj : cellB.vm.isStatics = false) (hcls : s.vm.findClass C = some cellB.cls)
    {g : JFrame} (hg : g.method = m) (hsize : g.locals.size = c.maxLocals) {argsL rest : List Value} (hlen : ∀ sig, parseMethodDescriptor y.desc = some sig → argsL.length = sig.parameters.length)
    (hstack : g.stack = argsL.reverse ++ .ref b :: rest) (hW : 2 * g.monitorRoom + (rest.map fun v => v.category).sum ≤ W9) (hdg : decode c.code g.pc = .ok (.invokevirtual index, 3))
    (hpre : ∀ vm₁, s.WarmedH vm₁ → Pre ⟨T.setVm vm₁, locs, cells, slots⟩ (Value.ref b :: argsL).toArray) :
    (∃ (v : Option Value) (vm₁ : Vm) (B : Pt), s.WarmedH vm₁ ∧ Stand p l e R s m args below meth c B.U B.locs B.cells B.slots ∧ Post ⟨T.setVm vm₁, locs, cells, slots⟩ (Value.ref b :: argsL).toArray v B ∧
      ∀ target, Steps p.tables e below (B.U.setTop { g with pc := g.pc + 3, stack := v.toList ++ rest }) target → Steps p.tables e below (T.setTop g) target) ∨
    (∃ (q : Addr) (vm₁ : Vm) (B : Pt), s.WarmedH vm₁ ∧ Stand p l e R s m args below meth c B.U B.locs B.cells B.slots ∧ PostX ⟨T.setVm vm₁, locs, cells, slots⟩ (Value.ref b :: argsL).toArray q B ∧
      Steps p.tables e below (T.setTop g) ((B.U.setTop { g with stack := rest }).pushFrame (.throwing q))) := by
  obtain ⟨mk, methM, hnamed, hmethM, hstM, habM⟩ := Cond.instanceMethod_spec hinst
  obtain ⟨methM', cM, hmethM', -, -, -, -, -, -, hsigM⟩ := Cond.code_spec hnamed hcode
  cases hmethM.symm.trans hmethM'
  obtain ⟨c2, r2, m2, q1, q2, q3, q4, kP, hkP, hkPi⟩ := Cond.selects_spec hsel
  cases hcls.symm.trans q1
  cases (State.methodFound?_of_named hnamed hy).symm.trans q2
  cases hnamed.symm.trans q3
  have hselP : selectMethod e.platform s.vm cellB.cls mk = .method mk := by rw [Launch.admits_selectMethod X.admits]; exact q4
  obtain ⟨vm₁, X₁, hstep₁⟩ := X.invokevirtual hexec hown hlink hnamed hmethM hstM hkP hkPi hy (a := b) (cell := cellB) hcell
    (fun z h => by rw [h] at hobj; cases hobj) hselP hmethM habM hkP hkPi (g := g) hg (argsL := argsL) (rest := rest) (hlen _ hsigM) hstack hdg
  rcases hK m meth c ⟨T.setVm vm₁, locs, cells, slots⟩ { g with stack := rest } (.invokevirtual index) mk (Value.ref b :: argsL).toArray X₁ hg hsize hdg hW (X₁.named hnamed) (hpre vm₁ X₁.warmed) with ⟨v, B, X', hpost, hsteps⟩ | ⟨q, B, X', hpost, hsteps⟩
  · exact Or.inl ⟨v, vm₁, B, X₁.warmed, X', hpost, fun target h => hstep₁ _ fun acts => by rw [doInvoke_state]; exact hsteps.trans h⟩
  · exact Or.inr ⟨q, vm₁, B, X₁.warmed, X', hpost, hstep₁ _ fun acts => by rw [doInvoke_state]; exact hsteps⟩
theorem vx_callS (X : Stand p l e R s m args below meth c T locs cells slots) (hexec : p.tables.exec = Jvm.exec) {own : String} {index : Nat} {y : MethodName} {bytes : ByteArray} {maxL : Nat} {ret : Option FieldType}
    (hown : s.vm.findClass own = some m.cls) (hlink : (Cond.methodLink own index y).before args s = true) (hstat : (Cond.static y).before args s = true) (hinit : (Cond.initialized y.cls).before args s = true)
    (hcode : (Cond.code y bytes maxL ret).before args s = true) (hy : y.cls ≠ "java/lang/invoke/MethodHandle" ∧ y.cls ≠ "java/lang/invoke/VarHandle")
    {W9 : Nat} {Pre : Pt → Array Value → Prop} {Post : Pt → Array Value → Option Value → Pt → Prop} {PostX : Pt → Array Value → Addr → Pt → Prop} (hK : vx_Back l R p e below s args y 3 W9 Pre Post PostX)
    {g : JFrame} (hg : g.method = m) (hsize : g.locals.size = c.maxLocals) {argsL rest : List Value} (hlen : ∀ sig, parseMethodDescriptor y.desc = some sig → argsL.length = sig.parameters.length)
    (hstack : g.stack = argsL.reverse ++ rest) (hW : 2 * g.monitorRoom + (rest.map fun v => v.category).sum ≤ W9) (hdg : decode c.code g.pc = .ok (.invokestatic index, 3))
    (hpre : ∀ vm₁, s.WarmedH vm₁ → Pre ⟨T.setVm vm₁, locs, cells, slots⟩ argsL.toArray) :
    (∃ (v : Option Value) (vm₁ : Vm) (B : Pt), s.WarmedH vm₁ ∧ Stand p l e R s m args below meth c B.U B.locs B.cells B.slots ∧ Post ⟨T.setVm vm₁, locs, cells, slots⟩ argsL.toArray v B ∧
      ∀ target, Steps p.tables e below (B.U.setTop { g with pc := g.pc + 3, stack := v.toList ++ rest }) target → Steps p.tables e below (T.setTop g) target) ∨
    (∃ (q : Addr) (vm₁ : Vm) (B : Pt), s.WarmedH vm₁ ∧ Stand p l e R s m args below meth c B.U B.locs B.cells B.slots ∧ PostX ⟨T.setVm vm₁, locs, cells, slots⟩ argsL.toArray q B ∧
      Steps p.tables e below (T.setTop g) ((B.U.setTop { g with stack := rest }).pushFrame (.throwing q))) := by
  obtain ⟨mk, hnamed⟩ := Cond.code_named hcode
  obtain ⟨methM, cM, hmethM, -, -, -, -, -, -, hsigM⟩ := Cond.code_spec hnamed hcode
  have hstatic : methM.isStatic = true := Cond.static_spec hnamed hmethM hstat
  obtain ⟨kP, hkP, -⟩ := className_of_methodNamed hnamed
  have hinitP : kP.init = .initialized := Cond.initialized_spec (findClass_of_methodNamed hnamed) hkP hinit
  obtain ⟨vm₁, X₁, hstep₁⟩ := X.invokestatic hexec hown hlink hnamed hmethM hstatic hkP hinitP hy (g := g) hg (argsL := argsL) (rest := rest) (hlen _ hsigM) hstack hdg
  rcases hK m meth c ⟨T.setVm vm₁, locs, cells, slots⟩ { g with stack := rest } (.invokestatic index) mk argsL.toArray X₁ hg hsize hdg hW (X₁.named hnamed) (hpre vm₁ X₁.warmed) with ⟨v, B, X', hpost, hsteps⟩ | ⟨q, B, X', hpost, hsteps⟩
  · exact Or.inl ⟨v, vm₁, B, X₁.warmed, X', hpost, fun target h => hstep₁ _ fun acts => by rw [doInvoke_state]; exact hsteps.trans h⟩
  · exact Or.inr ⟨q, vm₁, B, X₁.warmed, X', hpost, hstep₁ _ fun acts => by rw [doInvoke_state]; exact hsteps⟩
end Calls
theorem vx_cls {s : State} {T : State} {vm₁ : Vm} {E : String} {k : ClassId} (hW : s.WarmedH vm₁) (h : (T.setVm vm₁).vm.findClass E = some k) : s.vm.findClass E = some k := by
  have h1 : vm₁.findClass E = some k := h
  rw [hW.alike.findClass] at h1
  exact h1
/-- the method's frame g, with q thrown over it -/
def vx_W (p : Program) (l : Launch) (e : Env) (R : Room) (s : State) (m : MethodId) (args : Array Value) (below : List Frame) (meth : Method) (c : Code) (H : Heap) (locs : List Loc) (cells slots : Nat) (Q : State → Prop) (g : JFrame) (q : Addr) : Prop :=
  ∀ T : State, T.heap = H → Stand p l e R s m args below meth c T locs cells slots → ∃ t, Steps p.tables e below ((T.setTop g).pushFrame (.throwing q)) t ∧ Q t
def vx_Run (p : Program) (l : Launch) (e : Env) (R : Room) (s : State) (m : MethodId) (args : Array Value) (below : List Frame) (meth : Method) (c : Code) (H : Heap) (locs : List Loc) (cells slots mc ms : Nat) (g : JFrame) (rest : List Value) (Qa : State → Outcome → State → Prop) (XC : String → State → State → Prop) (free : Addr → Prop) : Prop :=
  ∀ T : State, T.heap = H → Stand p l e R s m args below meth c T locs cells slots →
    (∃ (v : Option Value) (st₀ t T' : State) (L : List Loc), st₀.heap = H ∧ Stand p l e R s m args below meth c T' (locs ++ L) (cells + mc) (slots + ms) ∧ (∀ q ∈ L, free q.base) ∧ T'.heap = t.heap ∧ T'.vm = t.vm ∧ Qa st₀ (.returned v) t ∧
      Goes p e below T g T' { g with pc := g.pc + 3, stack := v.toList ++ rest }) ∨
    (∃ (q : Addr) (st₀ t T' : State) (L : List Loc) (E : String) (ce : Cell), st₀.heap = H ∧ Stand p l e R s m args below meth c T' (locs ++ L) (cells + mc) (slots + ms) ∧ (∀ z ∈ L, free z.base) ∧ T'.heap = t.heap ∧ T'.vm = t.vm ∧ XC E st₀ t ∧ t.heap[q]? = some ce ∧ ce.vm = .none ∧ s.vm.findClass E = some ce.cls ∧
      Steps p.tables e below (T.setTop g) ((T'.setTop { g with stack := rest }).pushFrame (.throwing q)))
def vx_X {S : Type} (px : S → Prop) (B : String → S → State → Prop) (A : Nat → Prop) : String → State → State → Prop := fun E st t => ∃ u : S, px u ∧ B E u t ∧ va_F A st t
section Runs
variable {p : Program} {l : Launch} {e : Env} {R : Room} {s : State} {m : MethodId} {args : Array Value} {below : List Frame} {meth : Method} {c : Code} {H : Heap} {locs : List Loc} {cells slots : Nat}
variable {y : MethodName} {bytes cc : ByteArray} {maxL nL mc ms n index : Nat} {ret : Option FieldType} {ws : List Cond} {rm : Room} {Pc : Array Value → State → Prop} {Qc : Array Value → State → Outcome → State → Prop} {XC : String → State → State → Prop} {free : Addr → Prop} {Ts : List Cond} {own C : String} {b : Addr} {As rest : List Value} {g : JFrame}
theorem vx_callBack (cb : CallB R s args own index y bytes maxL ret ws rm mc ms n) (hM : vx_Met l y ws rm Pc Qc XC mc ms free) (hbl : FrameBlind Pc) : vx_Back l R p e below s args y 3 8 (PreOf R mc ms Pc) (PostOf Qc mc ms free) (vx_Post XC mc ms free) := by
  obtain ⟨hrc, hrs, hfr, hlo, hws, hcw, -, hini, -⟩ := cb
  exact vx_back (bytes := bytes) (maxL := maxL) (ret := ret) hM hbl hrc hrs hfr hlo hws hcw (fun a' U hW => word_at hW (Or.inl (by first | rfl | simp [Cond.onTables, Cond.keeps, Cond.steady])) hini)
theorem vx_runV (S : CallFix p m c cc nL s args Ts own) (hM : vx_Met l y ws rm Pc Qc XC mc ms free) (cw : CallW R s args own C index y bytes maxL ret ws rm mc ms n) (hp : PreV s H C b Pc As)
    (hg : g.method = m) (hn : As.length = n) (hsize : g.locals.size = nL) (hstack : g.stack = As.reverse ++ .ref b :: rest) (hW : 2 * g.monitorRoom + (rest.map fun v => v.category).sum ≤ 8) (hdg : decode cc g.pc = .ok (.invokevirtual index, 3)) (hf : cells + mc ≤ R.cells ∧ slots + ms ≤ R.slots) :
    vx_Run p l e R s m args below meth c H locs cells slots mc ms g rest (Qc (Value.ref b :: As).toArray) XC free := by
  have hK : vx_Back l R p e below s args y 3 8 (PreOf R mc ms Pc) (PostOf Qc mc ms free) (vx_Post XC mc ms free) := vx_callBack cw.1 hM hp.1
  obtain ⟨⟨-, -, -, -, -, -, hcode, -, hy, hlen, hl⟩, hin, hse⟩ := cw
  obtain ⟨hx, hb, hml, ho, -⟩ := S
  obtain ⟨-, ⟨cellB, hcB, hoB, hclB⟩, hPc⟩ := hp
  intro T hT X
  rcases vx_callV X hx (C := C) (bytes := bytes) (maxL := maxL) (ret := ret) ho hl hin hse hcode hy hK (by rw [hT]; exact hcB) hoB hclB hg (hsize.trans hml.symm) (argsL := As) (rest := rest) (fun sig h => hn.trans (hlen sig h)) hstack hW (by rw [hb]; exact hdg)
    (fun vm₁ hW₁ => ⟨hf.1, hf.2, hPc (T.setVm vm₁) hT hW₁⟩) with ⟨v, vm₁, ⟨U', l2, c2, s2⟩, hW₁, X', ⟨g', mk, t, L, e1, e2, hq, h1, hL, h2, h3⟩, st⟩ | ⟨q, vm₁, ⟨U', l2, c2, s2⟩, hW₁, X', ⟨g', mk, t, L, E, ce, e1, e2, hq, hce, hcv, hcl, h1, hL, h2, h3⟩, st⟩
  · dsimp only [Pt.U, Pt.locs, Pt.cells, Pt.slots] at X' e1 e2 h1 h2 h3 st
    subst h1; subst h2; subst h3
    exact Or.inl ⟨v, (T.setVm vm₁).calling g' mk (Value.ref b :: As).toArray, t, U', L, hT, X', hL, e1, e2, hq, st⟩
  · dsimp only [Pt.U, Pt.locs, Pt.cells, Pt.slots] at X' e1 e2 h1 h2 h3 st hcl
    subst h1; subst h2; subst h3
    exact Or.inr ⟨q, (T.setVm vm₁).calling g' mk (Value.ref b :: As).toArray, t, U', L, E, ce, hT, X', hL, e1, e2, hq, hce, hcv, vx_cls hW₁ hcl, st⟩
theorem vx_runS (S : CallFix p m c cc nL s args Ts own) (hM : vx_Met l y ws rm Pc Qc XC mc ms free) (cw : CallB R s args own index y bytes maxL ret ws rm mc ms n ∧ (Cond.static y).before args s = true) (hp : PreS s H Pc As)
    (hg : g.method = m) (hn : As.length = n) (hsize : g.locals.size = nL) (hstack : g.stack = As.reverse ++ rest) (hW : 2 * g.monitorRoom + (rest.map fun v => v.category).sum ≤ 8) (hdg : decode cc g.pc = .ok (.invokestatic index, 3)) (hf : cells + mc ≤ R.cells ∧ slots + ms ≤ R.slots) :
    vx_Run p l e R s m args below meth c H locs cells slots mc ms g rest (Qc As.toArray) XC free := by
  have hK : vx_Back l R p e below s args y 3 8 (PreOf R mc ms Pc) (PostOf Qc mc ms free) (vx_Post XC mc ms free) := vx_callBack cw.1 hM hp.1
  obtain ⟨⟨-, -, -, -, -, -, hcode, hini, hy, hlen, hl⟩, hstt⟩ := cw
  obtain ⟨hx, hb, hml, ho, -⟩ := S
  intro T hT X
  rcases vx_callS X hx (bytes := bytes) (maxL := maxL) (ret := ret) ho hl hstt hini hcode hy hK hg (hsize.trans hml.symm) (argsL := As) (rest := rest) (fun sig h => hn.trans (hlen sig h)) hstack hW (by rw [hb]; exact hdg)
    (fun vm₁ hW₁ => ⟨hf.1, hf.2, hp.2 (T.setVm vm₁) hT hW₁⟩) with ⟨v, vm₁, ⟨U', l2, c2, s2⟩, hW₁, X', ⟨g', mk, t, L, e1, e2, hq, h1, hL, h2, h3⟩, st⟩ | ⟨q, vm₁, ⟨U', l2, c2, s2⟩, hW₁, X', ⟨g', mk, t, L, E, ce, e1, e2, hq, hce, hcv, hcl, h1, hL, h2, h3⟩, st⟩
  · dsimp only [Pt.U, Pt.locs, Pt.cells, Pt.slots] at X' e1 e2 h1 h2 h3 st
    subst h1; subst h2; subst h3
    exact Or.inl ⟨v, (T.setVm vm₁).calling g' mk As.toArray, t, U', L, hT, X', hL, e1, e2, hq, st⟩
  · dsimp only [Pt.U, Pt.locs, Pt.cells, Pt.slots] at X' e1 e2 h1 h2 h3 st hcl
    subst h1; subst h2; subst h3
    exact Or.inr ⟨q, (T.setVm vm₁).calling g' mk As.toArray, t, U', L, E, ce, hT, X', hL, e1, e2, hq, hce, hcv, vx_cls hW₁ hcl, st⟩
end Runs
section Rows
variable {p : Program} {l : Launch} {e : Env} {R : Room} {s : State} {m : MethodId} {args : Array Value} {below : List Frame} {meth : Method} {c : Code} {H : Heap} {locs : List Loc} {cells slots : Nat} {Q : State → Prop}
variable {mc ms : Nat} {free : Addr → Prop} {A0 A1 : Nat → Prop} {H0 : Heap} {a : Array Value} {pc : Nat} {ls : Array Slot} {st0 rest : List Value}
theorem vx_keep {st₀ t T' : State} {L : List Loc} (h0 : st₀.heap = H) (e1 : T'.heap = t.heap) (hS : va_S A0 H0 H locs) (hA : ∀ q, q < H.size → A1 q → A0 q) (hf : ∀ q, free q → A0 q) (hL : ∀ q ∈ L, free q.base) (hF : va_F A1 st₀ t) :
    H.size ≤ T'.heap.size ∧ (∀ q : Nat, q < H.size → ¬ A1 q → T'.heap[q]? = H[q]?) ∧ va_S A0 H0 T'.heap (locs ++ L) := by
  obtain ⟨hz, hk⟩ := hF
  rw [h0] at hz hk
  exact ⟨by rw [e1]; exact hz, fun q h1 h2 => by rw [e1]; exact hk q h1 h2,
    ⟨Nat.le_trans hS.1 (by rw [e1]; exact hz), fun q h1 h2 => by rw [e1, hk q (Nat.lt_of_lt_of_le h1 hS.1) (fun z => h2 (hA q (Nat.lt_of_lt_of_le h1 hS.1) z))]; exact hS.2.1 q h1 h2, fun q hq => by
      rcases List.mem_append.mp hq with h | h
      · exact hS.2.2 q h
      · exact hf _ (hL q h)⟩⟩
theorem vx_calli {S SX : Type} {post : Int32 → S → Prop} {px : SX → Prop} {B : S → State → Prop} {BX : String → SX → State → Prop} {AX : Nat → Prop} (hr : vx_Run p l e R s m args below meth c H locs cells slots mc ms (F0 m pc ls st0) rest (va_Qi post B A1 a) (vx_X px BX AX) free) (hS : va_S A0 H0 H locs) (hA : ∀ q, q < H.size → A1 q → A0 q) (hf : ∀ q, free q → A0 q) (hAX : ∀ q, q < H.size → AX q → A0 q)
    (kx : ∀ (E : String) (ce : Cell) (q9 : Addr) (u : SX) (t : State) (H1 : Heap) (locs1 : List Loc), t.heap = H1 → s.vm.Alike t.vm → px u → BX E u t → H.size ≤ H1.size → (∀ q : Nat, q < H.size → ¬ AX q → H1[q]? = H[q]?) → va_S A0 H0 H1 locs1 → H1[q9]? = some ce → ce.vm = .none → s.vm.findClass E = some ce.cls → vx_W p l e R s m args below meth c H1 locs1 (cells + mc) (slots + ms) Q (F0 m pc ls rest) q9)
    (kk : ∀ (r : Int32) (u : S) (t : State) (H1 : Heap) (locs1 : List Loc), t.heap = H1 → s.vm.Alike t.vm → post r u → B u t → H.size ≤ H1.size → (∀ q : Nat, q < H.size → ¬ A1 q → H1[q]? = H[q]?) → va_S A0 H0 H1 locs1 → W p l e R s m args below meth c H1 locs1 (cells + mc) (slots + ms) Q (F0 m (pc + 3) ls (.int r :: rest))) : W p l e R s m args below meth c H locs cells slots Q (F0 m pc ls st0) := by
  intro T hT X
  rcases hr T hT X with ⟨v, st₀, t, T', L, h0, X', hL, e1, e2, ⟨⟨r, u, hv, hp, hb⟩, hF⟩, st⟩ | ⟨q, st₀, t, T', L, E, ce, h0, X', hL, e1, e2, ⟨u, hp, hb, hF⟩, hce, hcv, hcl, st⟩
  · cases hv
    obtain ⟨k1, k2, k3⟩ := vx_keep h0 e1 hS hA hf hL hF
    obtain ⟨t2, a1, b1⟩ := kk r u t T'.heap (locs ++ L) e1.symm (by rw [← e2]; exact X'.warmed.alike) hp hb k1 k2 k3 T' rfl X'
    exact ⟨t2, st t2 a1, b1⟩
  · obtain ⟨k1, k2, k3⟩ := vx_keep h0 e1 hS hAX hf hL hF
    obtain ⟨t2, a1, b1⟩ := kx E ce q u t T'.heap (locs ++ L) e1.symm (by rw [← e2]; exact X'.warmed.alike) hp hb k1 k2 k3 (by rw [e1]; exact hce) hcv hcl T' rfl X'
    exact ⟨t2, st.trans a1, b1⟩
theorem vx_calll {S SX : Type} {post : Int64 → S → Prop} {px : SX → Prop} {B : S → State → Prop} {BX : String → SX → State → Prop} {AX : Nat → Prop} (hr : vx_Run p l e R s m args below meth c H locs cells slots mc ms (F0 m pc ls st0) rest (va_Ql post B A1 a) (vx_X px BX AX) free) (hS : va_S A0 H0 H locs) (hA : ∀ q, q < H.size → A1 q → A0 q) (hf : ∀ q, free q → A0 q) (hAX : ∀ q, q < H.size → AX q → A0 q)
    (kx : ∀ (E : String) (ce : Cell) (q9 : Addr) (u : SX) (t : State) (H1 : Heap) (locs1 : List Loc), t.heap = H1 → s.vm.Alike t.vm → px u → BX E u t → H.size ≤ H1.size → (∀ q : Nat, q < H.size → ¬ AX q → H1[q]? = H[q]?) → va_S A0 H0 H1 locs1 → H1[q9]? = some ce → ce.vm = .none → s.vm.findClass E = some ce.cls → vx_W p l e R s m args below meth c H1 locs1 (cells + mc) (slots + ms) Q (F0 m pc ls rest) q9)
    (kk : ∀ (r : Int64) (u : S) (t : State) (H1 : Heap) (locs1 : List Loc), t.heap = H1 → s.vm.Alike t.vm → post r u → B u t → H.size ≤ H1.size → (∀ q : Nat, q < H.size → ¬ A1 q → H1[q]? = H[q]?) → va_S A0 H0 H1 locs1 → W p l e R s m args below meth c H1 locs1 (cells + mc) (slots + ms) Q (F0 m (pc + 3) ls (.long r :: rest))) : W p l e R s m args below meth c H locs cells slots Q (F0 m pc ls st0) := by
  intro T hT X
  rcases hr T hT X with ⟨v, st₀, t, T', L, h0, X', hL, e1, e2, ⟨⟨r, u, hv, hp, hb⟩, hF⟩, st⟩ | ⟨q, st₀, t, T', L, E, ce, h0, X', hL, e1, e2, ⟨u, hp, hb, hF⟩, hce, hcv, hcl, st⟩
  · cases hv
    obtain ⟨k1, k2, k3⟩ := vx_keep h0 e1 hS hA hf hL hF
    obtain ⟨t2, a1, b1⟩ := kk r u t T'.heap (locs ++ L) e1.symm (by rw [← e2]; exact X'.warmed.alike) hp hb k1 k2 k3 T' rfl X'
    exact ⟨t2, st t2 a1, b1⟩
  · obtain ⟨k1, k2, k3⟩ := vx_keep h0 e1 hS hAX hf hL hF
    obtain ⟨t2, a1, b1⟩ := kx E ce q u t T'.heap (locs ++ L) e1.symm (by rw [← e2]; exact X'.warmed.alike) hp hb k1 k2 k3 (by rw [e1]; exact hce) hcv hcl T' rfl X'
    exact ⟨t2, st.trans a1, b1⟩
theorem vx_callf {S SX : Type} {post : UInt32 → S → Prop} {px : SX → Prop} {B : S → State → Prop} {BX : String → SX → State → Prop} {AX : Nat → Prop} (hr : vx_Run p l e R s m args below meth c H locs cells slots mc ms (F0 m pc ls st0) rest (va_Qf post B A1 a) (vx_X px BX AX) free) (hS : va_S A0 H0 H locs) (hA : ∀ q, q < H.size → A1 q → A0 q) (hf : ∀ q, free q → A0 q) (hAX : ∀ q, q < H.size → AX q → A0 q)
    (kx : ∀ (E : String) (ce : Cell) (q9 : Addr) (u : SX) (t : State) (H1 : Heap) (locs1 : List Loc), t.heap = H1 → s.vm.Alike t.vm → px u → BX E u t → H.size ≤ H1.size → (∀ q : Nat, q < H.size → ¬ AX q → H1[q]? = H[q]?) → va_S A0 H0 H1 locs1 → H1[q9]? = some ce → ce.vm = .none → s.vm.findClass E = some ce.cls → vx_W p l e R s m args below meth c H1 locs1 (cells + mc) (slots + ms) Q (F0 m pc ls rest) q9)
    (kk : ∀ (r : UInt32) (u : S) (t : State) (H1 : Heap) (locs1 : List Loc), t.heap = H1 → s.vm.Alike t.vm → post r u → B u t → H.size ≤ H1.size → (∀ q : Nat, q < H.size → ¬ A1 q → H1[q]? = H[q]?) → va_S A0 H0 H1 locs1 → W p l e R s m args below meth c H1 locs1 (cells + mc) (slots + ms) Q (F0 m (pc + 3) ls (.float r :: rest))) : W p l e R s m args below meth c H locs cells slots Q (F0 m pc ls st0) := by
  intro T hT X
  rcases hr T hT X with ⟨v, st₀, t, T', L, h0, X', hL, e1, e2, ⟨⟨r, u, hv, hp, hb⟩, hF⟩, st⟩ | ⟨q, st₀, t, T', L, E, ce, h0, X', hL, e1, e2, ⟨u, hp, hb, hF⟩, hce, hcv, hcl, st⟩
  · cases hv
    obtain ⟨k1, k2, k3⟩ := vx_keep h0 e1 hS hA hf hL hF
    obtain ⟨t2, a1, b1⟩ := kk r u t T'.heap (locs ++ L) e1.symm (by rw [← e2]; exact X'.warmed.alike) hp hb k1 k2 k3 T' rfl X'
    exact ⟨t2, st t2 a1, b1⟩
  · obtain ⟨k1, k2, k3⟩ := vx_keep h0 e1 hS hAX hf hL hF
    obtain ⟨t2, a1, b1⟩ := kx E ce q u t T'.heap (locs ++ L) e1.symm (by rw [← e2]; exact X'.warmed.alike) hp hb k1 k2 k3 (by rw [e1]; exact hce) hcv hcl T' rfl X'
    exact ⟨t2, st.trans a1, b1⟩
theorem vx_calld {S SX : Type} {post : UInt64 → S → Prop} {px : SX → Prop} {B : S → State → Prop} {BX : String → SX → State → Prop} {AX : Nat → Prop} (hr : vx_Run p l e R s m args below meth c H locs cells slots mc ms (F0 m pc ls st0) rest (va_Qd post B A1 a) (vx_X px BX AX) free) (hS : va_S A0 H0 H locs) (hA : ∀ q, q < H.size → A1 q → A0 q) (hf : ∀ q, free q → A0 q) (hAX : ∀ q, q < H.size → AX q → A0 q)
    (kx : ∀ (E : String) (ce : Cell) (q9 : Addr) (u : SX) (t : State) (H1 : Heap) (locs1 : List Loc), t.heap = H1 → s.vm.Alike t.vm → px u → BX E u t → H.size ≤ H1.size → (∀ q : Nat, q < H.size → ¬ AX q → H1[q]? = H[q]?) → va_S A0 H0 H1 locs1 → H1[q9]? = some ce → ce.vm = .none → s.vm.findClass E = some ce.cls → vx_W p l e R s m args below meth c H1 locs1 (cells + mc) (slots + ms) Q (F0 m pc ls rest) q9)
    (kk : ∀ (r : UInt64) (u : S) (t : State) (H1 : Heap) (locs1 : List Loc), t.heap = H1 → s.vm.Alike t.vm → post r u → B u t → H.size ≤ H1.size → (∀ q : Nat, q < H.size → ¬ A1 q → H1[q]? = H[q]?) → va_S A0 H0 H1 locs1 → W p l e R s m args below meth c H1 locs1 (cells + mc) (slots + ms) Q (F0 m (pc + 3) ls (.double r :: rest))) : W p l e R s m args below meth c H locs cells slots Q (F0 m pc ls st0) := by
  intro T hT X
  rcases hr T hT X with ⟨v, st₀, t, T', L, h0, X', hL, e1, e2, ⟨⟨r, u, hv, hp, hb⟩, hF⟩, st⟩ | ⟨q, st₀, t, T', L, E, ce, h0, X', hL, e1, e2, ⟨u, hp, hb, hF⟩, hce, hcv, hcl, st⟩
  · cases hv
    obtain ⟨k1, k2, k3⟩ := vx_keep h0 e1 hS hA hf hL hF
    obtain ⟨t2, a1, b1⟩ := kk r u t T'.heap (locs ++ L) e1.symm (by rw [← e2]; exact X'.warmed.alike) hp hb k1 k2 k3 T' rfl X'
    exact ⟨t2, st t2 a1, b1⟩
  · obtain ⟨k1, k2, k3⟩ := vx_keep h0 e1 hS hAX hf hL hF
    obtain ⟨t2, a1, b1⟩ := kx E ce q u t T'.heap (locs ++ L) e1.symm (by rw [← e2]; exact X'.warmed.alike) hp hb k1 k2 k3 (by rw [e1]; exact hce) hcv hcl T' rfl X'
    exact ⟨t2, st.trans a1, b1⟩
theorem vx_callv {S SX : Type} {post : S → Prop} {px : SX → Prop} {B : S → State → Prop} {BX : String → SX → State → Prop} {AX : Nat → Prop} (hr : vx_Run p l e R s m args below meth c H locs cells slots mc ms (F0 m pc ls st0) rest (va_Qv post B A1 a) (vx_X px BX AX) free) (hS : va_S A0 H0 H locs) (hA : ∀ q, q < H.size → A1 q → A0 q) (hf : ∀ q, free q → A0 q) (hAX : ∀ q, q < H.size → AX q → A0 q)
    (kx : ∀ (E : String) (ce : Cell) (q9 : Addr) (u : SX) (t : State) (H1 : Heap) (locs1 : List Loc), t.heap = H1 → s.vm.Alike t.vm → px u → BX E u t → H.size ≤ H1.size → (∀ q : Nat, q < H.size → ¬ AX q → H1[q]? = H[q]?) → va_S A0 H0 H1 locs1 → H1[q9]? = some ce → ce.vm = .none → s.vm.findClass E = some ce.cls → vx_W p l e R s m args below meth c H1 locs1 (cells + mc) (slots + ms) Q (F0 m pc ls rest) q9)
    (kk : ∀ (u : S) (t : State) (H1 : Heap) (locs1 : List Loc), t.heap = H1 → s.vm.Alike t.vm → post u → B u t → H.size ≤ H1.size → (∀ q : Nat, q < H.size → ¬ A1 q → H1[q]? = H[q]?) → va_S A0 H0 H1 locs1 → W p l e R s m args below meth c H1 locs1 (cells + mc) (slots + ms) Q (F0 m (pc + 3) ls (rest))) : W p l e R s m args below meth c H locs cells slots Q (F0 m pc ls st0) := by
  intro T hT X
  rcases hr T hT X with ⟨v, st₀, t, T', L, h0, X', hL, e1, e2, ⟨⟨u, hv, hp, hb⟩, hF⟩, st⟩ | ⟨q, st₀, t, T', L, E, ce, h0, X', hL, e1, e2, ⟨u, hp, hb, hF⟩, hce, hcv, hcl, st⟩
  · cases hv
    obtain ⟨k1, k2, k3⟩ := vx_keep h0 e1 hS hA hf hL hF
    obtain ⟨t2, a1, b1⟩ := kk u t T'.heap (locs ++ L) e1.symm (by rw [← e2]; exact X'.warmed.alike) hp hb k1 k2 k3 T' rfl X'
    exact ⟨t2, st t2 a1, b1⟩
  · obtain ⟨k1, k2, k3⟩ := vx_keep h0 e1 hS hAX hf hL hF
    obtain ⟨t2, a1, b1⟩ := kx E ce q u t T'.heap (locs ++ L) e1.symm (by rw [← e2]; exact X'.warmed.alike) hp hb k1 k2 k3 (by rw [e1]; exact hce) hcv hcl T' rfl X'
    exact ⟨t2, st.trans a1, b1⟩
/-- caught by the row x of this method's table; the rows ahead don't take it -/
theorem vx_catch {own name : String} {E : String} {ce : Cell} {q : Addr} (hown : s.vm.findClass own = some m.cls) (pre : List ExceptionTableEntry) (x : ExceptionTableEntry) (suf : List ExceptionTableEntry) (hsplit : c.exceptionTable.toList = pre ++ x :: suf)
    (hpass : ∀ z ∈ pre, covers z pc = false ∨ (z.catchType ≠ 0 ∧ ∃ nm : String, (Cond.classLink own z.catchType nm).before args s = true ∧ va_Nc E nm s)) (hx : covers x pc = true) (h0 : x.catchType ≠ 0)
    (hlink : (Cond.classLink own x.catchType name).before args s = true) (hcast : (Cond.castable E name).before args s = true) (hcell : H[q]? = some ce) (hv : ce.vm = .none) (hcl : s.vm.findClass E = some ce.cls)
    (kk : W p l e R s m args below meth c H locs cells slots Q (F0 m x.handlerPc ls [.ref q])) : vx_W p l e R s m args below meth c H locs cells slots Q (F0 m pc ls rest) q := by
  intro T hT X
  have hpl : e.platform.magicAccessors = ({} : Platform).magicAccessors := by rw [X.admits.platform]
  obtain ⟨c3, c4, hc3, hc4, hasg⟩ := Cond.castable_spec hcast
  cases Option.some.inj (hc3.symm.trans hcl)
  obtain ⟨c5, hc5, hcl5⟩ := Cond.classLink_spec hown hlink e.platform hpl
  cases Option.some.inj (hc4.symm.trans hc5)
  obtain ⟨vm', X', st⟩ := X.thenCaughtThrough q (g := F0 m pc ls rest) rfl (Steps.refl _) (by rw [hT]; exact hcell) (by rw [hv]; rfl) (by obtain ⟨k9, h9, -⟩ := Vm.findClass_spec hcl; exact ⟨k9, h9⟩) pre x suf hsplit
    (fun z hz => by
      rcases hpass z hz with h | ⟨hz0, nm, hl1, hn1⟩
      · exact Or.inl h
      · obtain ⟨c6, hc6, hcl6⟩ := Cond.classLink_spec hown hl1 e.platform hpl
        obtain ⟨a8, b8, h1, h2, h3⟩ := hn1
        cases Option.some.inj (h1.symm.trans hcl)
        cases Option.some.inj (h2.symm.trans hc6)
        exact Or.inr ⟨hz0, _, hcl6, h3⟩) hx (Or.inr ⟨h0, c4, hcl5, hasg⟩)
  obtain ⟨t, a1, b1⟩ := kk (T.setVm vm') hT X'
  exact ⟨t, st.trans a1, b1⟩
end Rows
section Ends
variable {p : Program} {l : Launch} {e : Env} {R : Room} {s : State} {m : MethodId} {args : Array Value} {below : List Frame} {meth : Method} {c : Code} {H : Heap} {locs : List Loc} {cells slots : Nat} {Q : State → Prop}
variable {mc ms : Nat} {free : Addr → Prop} {A0 A1 : Nat → Prop} {H0 : Heap} {a : Array Value} {ls : Array Slot} {st0 rest : List Value}
variable {Qc : Array Value → State → Outcome → State → Prop} {XC : String → State → State → Prop}
/-- what a body that may throw owes at its end -/
def vx_MQ (below : List Frame) (Qc : Array Value → State → Outcome → State → Prop) (XC : String → State → State → Prop) (a : Array Value) (s : State) (mc ms : Nat) (free : Addr → Prop) : State → Prop := fun t =>
  ∃ o, t.status = .running ∧ Ended t below o ∧ vx_Q Qc XC mc ms free a s o t
theorem vx_ret {g : JFrame} {mc ms : Nat} (k : W p l e R s m args below meth c H locs cells slots (MQ below Qc args s mc ms free) g) : W p l e R s m args below meth c H locs cells slots (vx_MQ below Qc XC args s mc ms free) g := by
  intro T hT X
  obtain ⟨t, a1, o, b1, b2, b3, b4⟩ := k T hT X
  exact ⟨t, a1, o, b1, b2, Or.inl ⟨b3, b4⟩⟩
/-- not caught here: it goes on to the caller -/
theorem vx_widen {g : JFrame} {q : Addr} {k n : Nat} (h1 : cells ≤ k) (h2 : slots ≤ n) (kk : vx_W p l e R s m args below meth c H locs k n Q g q) : vx_W p l e R s m args below meth c H locs cells slots Q g q := fun T hT X => kk T hT (stand_widen X h1 h2)
theorem vx_out {pc : Nat} {E : String} {ce : Cell} {q : Addr} {mc ms : Nat} (hout : ∀ x ∈ c.exceptionTable.toList, covers x pc = false) (hlocks : meth.locks = false) (hcell : H[q]? = some ce) (hv : ce.vm = .none) (hcl : s.vm.findClass E = some ce.cls)
    (hx : ∀ t : State, t.heap = H → s.vm.Alike t.vm → XC E s t) (hf : ∀ z ∈ locs, free z.base) (hc : cells ≤ mc) (hs : slots ≤ ms) :
    vx_W p l e R s m args below meth c H locs cells slots (vx_MQ below Qc XC args s mc ms free) (F0 m pc ls rest) q := by
  intro T hT X
  obtain ⟨st1, hrun, hend, hW, hsm⟩ := X.leaveThrown q (g := F0 m pc ls rest) rfl rfl rfl hout hlocks
  have hcell9 : (T.setFrames (.throwing q :: below)).heap[q]? = some ce := by
    show T.heap[q]? = some ce
    rw [hT]; exact hcell
  exact ⟨_, st1, .threw q, hrun, hend, Or.inr ⟨q, rfl, E, ce, locs, hx _ hT hW.alike, hcell9, hv, hcl, hW, hsm.mono hc hs, hf⟩⟩
theorem vx_frame {U : State} {k n : Nat} (h : s.sameButNew ({ U with vm := s.vm } : State) locs k n) : s.heap.size ≤ U.heap.size ∧ ∀ q : Nat, q < s.heap.size → (∀ z ∈ locs, z.base ≠ q) → U.heap[q]? = s.heap[q]? := by
  obtain ⟨-, h2, -, -, -, h6⟩ := h
  refine ⟨h2, fun q hq hz => ?_⟩
  obtain ⟨c9, e1, e2, e3, e4⟩ := h6 q _ (Array.getElem?_eq_getElem hq)
  have hs : c9.slots = (s.heap[q]).slots := Array.ext_getElem? fun i => e4 i fun hm => hz _ hm rfl
  have h9 : c9 = s.heap[q] := by
    rw [hs] at e2
    exact e2
  have e5 : U.heap[q]? = some c9 := e1
  rw [e5, h9, Array.getElem?_eq_getElem hq]
/-- the words of a throw but the four that speak of the heap -/
def vx_no (w : Cond) : Bool := decide (w ≠ .isRef (.static Bundle.tN "UNASSIGNED_STACK" Bundle.steD)) && decide (w ≠ .isRef (.static Bundle.tN "SUPPRESSED_SENTINEL" Bundle.listD)) && decide (w ≠ .laysStatic Bundle.tN "UNASSIGNED_STACK" Bundle.steD) && decide (w ≠ .laysStatic Bundle.tN "SUPPRESSED_SENTINEL" Bundle.listD)
def vx_at0 (own : String) (ic : Nat) (X : String) (names : List String) : List Cond := (Bundle.ownAtoms0 own ic X names).filter vx_no
def vx_atS (own : String) (ic : Nat) (X : String) (names : List String) : List Cond := (Bundle.ownAtoms own ic X names).filter vx_no
/-- a word that the tables alone decide, or a good one -/
def vx_ot (w : Cond) : Bool := w.onTables || goodWord w
theorem vx_ot_at {args a' : Array Value} {s U : State} {w : Cond} (hW : s.WarmedH U.vm) (hvm : s.vm = U.vm) (hg : vx_ot w = true) (h : w.before args s = true) : w.before a' U = true := by
  simp only [vx_ot, Bool.or_eq_true] at hg
  rcases hg with hg | hg
  · exact va_tabs hg hvm h
  · exact word_at hW (good_of_word hg) h
/-- a list's words: the good ones out of the method's own list, the others by premises of their own -/
theorem vx_hat {args : Array Value} {s : State} {L B : List Cond} (h1 : ∀ w ∈ L.filter goodWord, w.before args s = true) (h2 : ∀ w ∈ L.filter (fun w => !goodWord w), w ∈ B) (h3 : ∀ w ∈ B, w.before args s = true) : ∀ w ∈ L, w.before args s = true := by
  intro w hw
  by_cases g : goodWord w = true
  · exact h1 w (List.mem_filter.mpr ⟨hw, g⟩)
  · refine h3 w (h2 w (List.mem_filter.mpr ⟨hw, ?_⟩))
    show (!goodWord w) = true
    cases hgw : goodWord w
    · rfl
    · exact absurd hgw g
theorem vx_c {args : Array Value} {s : State} {w : Cond} {B : List Cond} (h : w.before args s = true) (t : ∀ w ∈ B, w.before args s = true) : ∀ w' ∈ w :: B, w'.before args s = true := fun w' h' => (List.mem_cons.mp h').elim (fun e => by rw [e]; exact h) (t w')
theorem vx_n {args : Array Value} {s : State} : ∀ w ∈ ([] : List Cond), w.before args s = true := fun _ h => nomatch h
theorem vx_own {args : Array Value} {s : State} {L : List Cond} (h1 : ∀ w ∈ L.filter vx_no, w.before args s = true)
    (hU : (Cond.isRef (.static Bundle.tN "UNASSIGNED_STACK" Bundle.steD)).before args s = true) (hN : (Cond.isRef (.static Bundle.tN "SUPPRESSED_SENTINEL" Bundle.listD)).before args s = true)
    (lU : (Cond.laysStatic Bundle.tN "UNASSIGNED_STACK" Bundle.steD).before args s = true) (lN : (Cond.laysStatic Bundle.tN "SUPPRESSED_SENTINEL" Bundle.listD).before args s = true) : ∀ w ∈ L, w.before args s = true := by
  intro w hw
  by_cases e1 : w = .isRef (.static Bundle.tN "UNASSIGNED_STACK" Bundle.steD)
  · rw [e1]; exact hU
  · by_cases e2 : w = .isRef (.static Bundle.tN "SUPPRESSED_SENTINEL" Bundle.listD)
    · rw [e2]; exact hN
    · by_cases e3 : w = .laysStatic Bundle.tN "UNASSIGNED_STACK" Bundle.steD
      · rw [e3]; exact lU
      · by_cases e4 : w = .laysStatic Bundle.tN "SUPPRESSED_SENTINEL" Bundle.listD
        · rw [e4]; exact lN
        · exact h1 w (List.mem_filter.mpr ⟨hw, by unfold vx_no; rw [decide_eq_true e1, decide_eq_true e2, decide_eq_true e3, decide_eq_true e4]; rfl⟩)
/-- where a static field lies, its class's statics cell in H -/
def vx_L (C n d : String) (A : Nat → Prop) (U : State) (H : Heap) : Prop := ∃ (c : ClassId) (k : Class) (i : Nat) (f : Field) (a : Nat) (cell : Cell), U.vm.findClass C = some c ∧ U.fieldFound? C n d = some (c, k, i, f) ∧ f.isStatic = true ∧ k.statics = some a ∧ H[a]? = some cell ∧ cell.vm.isStatics = true ∧ cell.cls = c ∧ f.slot < cell.slots.size ∧ k.staticTypes[f.slot]? = some f.type ∧ ¬ A a
theorem vx_L.moved {C n d : String} {A : Nat → Prop} {u U : State} {H : Heap} (hvm : u.vm.Alike U.vm) (h : vx_L C n d A u H) : vx_L C n d A U H := by
  obtain ⟨c, k, i, f, a, cell, h1, h2, h3, h4, h5, h6, h7, h8, h9, h10⟩ := h
  obtain ⟨k', hi', he⟩ := State.fieldFound?_setVm hvm h2
  exact ⟨c, k', i, f, a, cell, by rw [hvm.findClass]; exact h1, hi', h3, by rw [he]; exact h4, h5, h6, h7, h8, by rw [he]; exact h9, h10⟩
theorem vx_L.kept {C n d : String} {A : Nat → Prop} {U : State} {H H1 : Heap} (h : vx_L C n d A U H) (hq : ∀ a : Nat, a < H.size → ¬ A a → H1[a]? = H[a]?) : vx_L C n d A U H1 := by
  obtain ⟨c, k, i, f, a, cell, h1, h2, h3, h4, h5, h6, h7, h8, h9, h10⟩ := h
  exact ⟨c, k, i, f, a, cell, h1, h2, h3, h4, by rw [hq a (Array.getElem?_eq_some_iff.mp h5).1 h10]; exact h5, h6, h7, h8, h9, h10⟩
theorem vx_L.narrow {C n d : String} {A B : Nat → Prop} {U : State} {H : Heap} (h : vx_L C n d A U H) (hAB : ∀ q, B q → A q) : vx_L C n d B U H := by
  obtain ⟨c, k, i, f, a, cell, h1, h2, h3, h4, h5, h6, h7, h8, h9, h10⟩ := h
  exact ⟨c, k, i, f, a, cell, h1, h2, h3, h4, h5, h6, h7, h8, h9, fun z => h10 (hAB _ z)⟩
theorem vx_L.word {C n d : String} {A : Nat → Prop} {s : State} {args : Array Value} (h : vx_L C n d A s s.heap) : (Cond.laysStatic C n d).before args s = true := by
  obtain ⟨c, k, i, f, a, cell, h1, h2, h3, h4, h5, h6, h7, h8, h9, -⟩ := h
  show (Cond.laysStatic C n d).holds args s none s [] = true
  exact Cond.laysStatic_of h1 h2 h3 h4 h5 h6 h7 h8 h9
/-- .. and what it holds: null or some reference -/
def vx_Zq (C n d : String) (A : Nat → Prop) (U : State) (H : Heap) : Prop := va_Zq C n d A U H ∧ vx_L C n d A U H
theorem vx_Zq.moved {C n d : String} {A : Nat → Prop} {u U : State} {H : Heap} (hvm : u.vm.Alike U.vm) (h : vx_Zq C n d A u H) : vx_Zq C n d A U H := ⟨va_Zq.moved hvm h.1, vx_L.moved hvm h.2⟩
theorem vx_Zq.kept {C n d : String} {A : Nat → Prop} {U : State} {H H1 : Heap} (h : vx_Zq C n d A U H) (hq : ∀ a : Nat, a < H.size → ¬ A a → H1[a]? = H[a]?) : vx_Zq C n d A U H1 := ⟨va_Zq.kept h.1 hq, vx_L.kept h.2 hq⟩
theorem vx_Zq.narrow {C n d : String} {A B : Nat → Prop} {U : State} {H : Heap} (h : vx_Zq C n d A U H) (hAB : ∀ q, B q → A q) : vx_Zq C n d B U H := ⟨va_Zq.narrow h.1 hAB, vx_L.narrow h.2 hAB⟩
theorem vx_Zqof {args : Array Value} {s : State} {C n d : String} {A : Nat → Prop} (hl : (Cond.laysStatic C n d).before args s = true) (hini : (Cond.initialized C).before args s = true) (h : (Cond.isRef (.static C n d)).before args s = true) (hA : ∀ a : Nat, a < s.heap.size → ¬ A a) : vx_Zq C n d A s s.heap := by
  refine ⟨va_Zqof hl hini h hA, ?_⟩
  obtain ⟨c, k, i, f, a, cell, h1, h2, h3, h4, h5, h6, h7, h8, h9⟩ := Cond.laysStatic_spec hl
  exact ⟨c, k, i, f, a, cell, h1, h2, h3, h4, h5, h6, h7, h8, h9, hA a (Array.getElem?_eq_some_iff.mp h5).1⟩
theorem vx_isRef {C n d : String} {v : Value} {A : Nat → Prop} {s : State} {args : Array Value} (h : va_Z C n d v A s s.heap) (hv : v.isRef = true) : (Cond.isRef (.static C n d)).before args s = true := by
  obtain ⟨cf, kf, fi, f, a, cell, h1, h2, h3, h4, h5, h6, h7, -⟩ := h
  have he : (Term.static C n d).eval args s none [] s = some v := by
    simp [Term.eval, State.fieldNamed?, h1, h2, h4, h5, h6, h7]
  simp only [Cond.before, Cond.holds, Cond.value, he]
  cases v <;> simp_all [Value.isRef]
theorem vx_isRefq {C n d : String} {A : Nat → Prop} {s : State} {args : Array Value} (h : va_Zq C n d A s s.heap) : (Cond.isRef (.static C n d)).before args s = true := by
  rcases h with h | ⟨t, h⟩
  · exact vx_isRef h rfl
  · exact vx_isRef h rfl
/-- the same frame, seen from here: as if the method were called anew in this heap -/
theorem vx_rebase {T : State} (X : Stand p l e R s m args below meth c T locs cells slots) {R' : Room} (hf : R'.frames ≤ R.frames) (hl : R'.locals ≤ R.locals) (hc : cells + R'.cells ≤ R.cells) (hs : slots + R'.slots ≤ R.slots) :
    Stand p l e R' ((T.setVm s.vm).setFrames (.invoking m args :: below)) m args below meth c T [] 0 0 := by
  have htop : (T.setVm s.vm).topJava?.isSome := X.here.top
  have hF : ((T.setVm s.vm).setFrames (.invoking m args :: below)).frames = .invoking m args :: below := State.frames_setFrames _ (State.cur_lt_of_top htop)
  obtain ⟨g₀, hg0⟩ := Option.isSome_iff_exists.mp htop
  obtain ⟨r, hr⟩ := State.topJava?_eq_some.mp hg0
  have hl9 : e.platform.stackLimits (T.setVm s.vm).me = e.platform.stackLimits s.me := X.limits
  have hb9 : (T.setVm s.vm).me.stackBytes = s.me.stackBytes := X.bytes
  refine ⟨X.admits, X.cas, X.clock, hF, ?_, X.hears, X.method, X.code, X.here, X.tail, X.warmed, ?_, ?_, ?_⟩
  · have h := X.room
    have hU : ((T.setVm s.vm).setFrames (.invoking m args :: below)).localsInUse = s.localsInUse := by
      rw [State.localsInUse_invoking hF (meth := meth) (c := c) X.method X.code, State.localsInUse_invoking X.frames X.method X.code]
    simp only [State.hasRoom, Bool.and_eq_true, decide_eq_true_eq] at h ⊢
    obtain ⟨⟨⟨⟨h1, h2, h3, h4, h5, h6⟩, h7⟩, h8⟩, h9⟩ := h
    rw [X.frames, List.length_cons] at h2 h3
    have q1 := X.heapSize
    have q2 := X.used
    simp only [hF, hU, List.length_cons, State.stackLimits_setFrames, State.stackBytes_setFrames, hl9, hb9]
    refine ⟨⟨⟨⟨by omega, by omega, by omega, by omega, by omega, h6⟩, ?_⟩, ?_⟩, X.book⟩
    · show T.heap.size + R'.cells ≤ e.platform.maxCells
      omega
    · show T.slotsUsed + R'.slots ≤ e.platform.maxSlots
      omega
  · rw [State.stackLimits_setFrames]; rfl
  · rw [State.stackBytes_setFrames]; rfl
  · refine ⟨?_, Nat.le_refl _, Nat.le_refl _, ?_, ?_, fun a c9 h9 => ⟨c9, h9, rfl, rfl, fun _ _ => rfl⟩⟩
    · obtain ⟨t, ht, -⟩ := State.frames_cons hr
      show T.setVm s.vm = { ((T.setVm s.vm).setFrames (.invoking m args :: below)).setFrames (T.setVm s.vm).frames with heap := T.heap, slotsUsed := T.slotsUsed }
      rw [State.setFrames_setFrames, State.setFrames_self ht]
      rfl
    · show T.slotsUsed = T.slotsUsed + ((T.heap.toList.drop T.heap.size).map (·.slots.size)).sum
      rw [List.drop_eq_nil_of_le (Nat.le_of_eq Array.length_toList)]
      rfl
    · show ((T.heap.toList.drop T.heap.size).map (·.slots.size)).sum ≤ 0
      rw [List.drop_eq_nil_of_le (Nat.le_of_eq Array.length_toList)]
      exact Nat.le_refl _
/-- 'throw new E()': new; dup; invokespecial; athrow -/
theorem vx_throw0 {cc : ByteArray} {pc : Nat} (hexec : p.tables.exec = Jvm.exec) (hb : c.code = cc) (hl : l.stackTraces = false) {own cls : String} {names : List String} {ik ic mc ms : Nat} {A : Nat → Prop}
    (hown : s.vm.findClass own = some m.cls) (hcls : Bundle.fit cls = true) (hnames : ∀ n ∈ names, Bundle.fit n = true)
    (hk : (Cond.classLink own ik cls).before args s = true) (hini : (Cond.initialized cls).before args s = true) (hat : ∀ w ∈ vx_at0 own ic cls names, w.before args s = true)
    (hgood : ∀ w ∈ Cond.classLink own ik cls :: Cond.initialized cls :: vx_at0 own ic cls names, vx_ot w = true)
    (hU : vx_Zq Bundle.tN "UNASSIGNED_STACK" Bundle.steD A s s.heap) (hN : vx_Zq Bundle.tN "SUPPRESSED_SENTINEL" Bundle.listD A s s.heap) (hS : va_S A s.heap H locs) (hsize : ls.size = c.maxLocals)
    (d0 : decode cc pc = .ok (.new ik, 3)) (d3 : decode cc (pc + 3) = .ok (.dup, 1)) (d4 : decode cc (pc + 4) = .ok (.invokespecial ic, 3)) (d7 : decode cc (pc + 7) = .ok (.athrow, 1))
    (hout : ∀ x ∈ c.exceptionTable.toList, covers x (pc + 7) = false)
    (hRframes : names.length + 3 < R.frames) (hRlocals : (rest.map fun v => v.category).sum + (13 * (names.length + 1) + 42) ≤ R.locals) (hRcells : cells + 1 ≤ R.cells) (hRslots : slots + 6 ≤ R.slots) (hlocks : meth.locks = false)
    (hx : ∀ t : State, s.vm.Alike t.vm → H.size ≤ t.heap.size → (∀ q : Nat, q < H.size → t.heap[q]? = H[q]?) → XC cls s t)
    (hf : ∀ z ∈ locs, free z.base) (hc : cells + 1 ≤ mc) (hs : slots + 6 ≤ ms) :
    W p l e R s m args below meth c H locs cells slots (vx_MQ below Qc XC args s mc ms free) (F0 m pc ls rest) := by
  intro T hT X
  have htr : e.platform.stackTraces = false := (show e.platform.stackTraces = l.stackTraces by rw [X.admits.platform]).trans hl
  have Y := vx_rebase X (R' := { frames := R.frames, locals := R.locals, cells := 1, slots := 6 }) (Nat.le_refl _) (Nat.le_refl _) hRcells hRslots
  obtain ⟨s', hA⟩ : ∃ z, z = (T.setVm s.vm).setFrames (.invoking m args :: below) := ⟨_, rfl⟩
  rw [← hA] at Y
  have hvm : s'.vm = s.vm := by rw [hA]; rfl
  have hhp : s'.heap = H := by rw [hA]; exact hT
  have hW0 : s.WarmedH s'.vm := by rw [hvm]; exact State.WarmedH.refl s
  have hat' : ∀ w ∈ vx_at0 own ic cls names, w.before args s' = true := fun w hw => vx_ot_at hW0 hvm.symm (hgood w (List.mem_cons_of_mem _ (List.mem_cons_of_mem _ hw))) (hat w hw)
  have hk' : (Cond.classLink own ik cls).before args s' = true := vx_ot_at hW0 hvm.symm (hgood _ List.mem_cons_self) hk
  have hini' : (Cond.initialized cls).before args s' = true := vx_ot_at hW0 hvm.symm (hgood _ (List.mem_cons_of_mem _ List.mem_cons_self)) hini
  have hU' : vx_Zq Bundle.tN "UNASSIGNED_STACK" Bundle.steD A s' s'.heap := by rw [hhp]; exact vx_Zq.moved hW0.alike (hU.kept hS.2.1)
  have hN' : vx_Zq Bundle.tN "SUPPRESSED_SENTINEL" Bundle.listD A s' s'.heap := by rw [hhp]; exact vx_Zq.moved hW0.alike (hN.kept hS.2.1)
  have h : ∀ w ∈ Bundle.ownAtoms0 own ic cls names, w.before args s' = true := vx_own hat' (vx_isRefq hU'.1) (vx_isRefq hN'.1) hU'.2.word hN'.2.word
  have hown' : s'.vm.findClass own = some m.cls := by rw [hvm]; exact hown
  have hins : (Cond.instantiable cls 6).before args s' = true := h _ (by simp [Bundle.ownAtoms0])
  obtain ⟨vm₁, cX, kX, hfX, hkX, -, -, X₁, st1⟩ := Y.newCold hexec (own := own) (C := cls) (index := ik) (n := 6) hown' hk' hins hini'
    (g := F0 m pc ls rest) rfl (by rw [hb]; exact d0) (Nat.le_refl _) (Nat.le_refl _)
  generalize hT1 : (T.setVm vm₁).pushCell { cls := cX, slots := kX.instanceTypes.map defaultValue, vm := .none } = T1 at X₁ st1
  have hcat : (Value.ref T.heap.size).category = 1 := rfl
  have hcellA : T1.heap[T.heap.size]? = some (freshCell cX kX) := by rw [← hT1]; exact State.heap_pushCell_size _ _
  have d3' : decode c.code (pc + 3) = .ok (.dup, 1) := by rw [hb]; exact d3
  obtain ⟨U, hsteps, hrun, hend, hW, hsame, ce, hce, hO⟩ := X₁.ctorThrow0 hexec htr (own := own) (cls := cls) (names := names) (ic := ic) hown' hcls hnames h (fun x hx => nomatch hx) hfX hkX hcellA (by rw [hhp, hT]; exact Nat.le_refl _)
    (g := { method := m, pc := pc + 4, locals := ls, stack := .ref T.heap.size :: .ref T.heap.size :: rest, locked := none }) rfl hsize rfl rfl (rest := rest) rfl
    (by rw [hb]; exact d4) (by rw [hb]; exact d7) hout hRframes (by simp only [List.map_cons, List.sum_cons, hcat]; omega) hlocks
  obtain ⟨f1, f2⟩ := vx_frame hsame
  rw [hhp] at f1 f2
  have hWs : s.WarmedH U.vm := State.WarmedH.trans hW0 hW
  have hcl : s.vm.findClass cls = some ce.cls := by
    have h9 := hO.cls
    rw [hvm] at h9
    exact h9
  have hall : s.sameButNew ({ U with vm := s.vm } : State) locs mc ms := by
    subst hA
    obtain ⟨e1, e2⟩ := hsame
    rw [State.setFrames_setFrames] at e1
    have h2 : (T.setVm s.vm).sameButNew ({ U with vm := s.vm } : State) [] (0 + 1) (0 + 6) := ⟨e1, e2⟩
    have h3 := X.same.trans h2
    rw [List.append_nil] at h3
    exact h3.mono hc hs
  refine ⟨U, ?_, .threw T.heap.size, hrun, hend, Or.inr ⟨T.heap.size, rfl, cls, ce, locs, hx U hWs.alike f1 (fun q hq => f2 q hq (fun z hz => nomatch hz)), hce, hO.vm, hcl, hWs, hall, hf⟩⟩
  refine st1 _ ?_
  show Steps p.tables e below (T1.setTop { method := m, pc := pc + 3, locals := ls, stack := .ref T.heap.size :: rest, locked := none }) _
  jvm_step X₁.here [X₁.here.top, hexec, d3', Value.category]
  exact hsteps
/-- 'throw new E("text")': new; dup; ldc; invokespecial; athrow -/
theorem vx_throwS {cc : ByteArray} {pc : Nat} (hexec : p.tables.exec = Jvm.exec) (hb : c.code = cc) (hl : l.stackTraces = false) {own cls text : String} {names : List String} {ik is ic mc ms sa : Nat} {A : Nat → Prop}
    (hown : s.vm.findClass own = some m.cls) (hcls : Bundle.fit cls = true) (hnames : ∀ n ∈ names, Bundle.fit n = true)
    (hk : (Cond.classLink own ik cls).before args s = true) (hini : (Cond.initialized cls).before args s = true) (hstr : vk_R own is text sa s) (hat : ∀ w ∈ vx_atS own ic cls names, w.before args s = true)
    (hgood : ∀ w ∈ Cond.classLink own ik cls :: Cond.initialized cls :: vx_atS own ic cls names, vx_ot w = true)
    (hU : vx_Zq Bundle.tN "UNASSIGNED_STACK" Bundle.steD A s s.heap) (hN : vx_Zq Bundle.tN "SUPPRESSED_SENTINEL" Bundle.listD A s s.heap) (hS : va_S A s.heap H locs) (hsize : ls.size = c.maxLocals)
    (d0 : decode cc pc = .ok (.new ik, 3)) (d3 : decode cc (pc + 3) = .ok (.dup, 1)) (d4 : decode cc (pc + 4) = .ok (.ldc is, 2)) (d6 : decode cc (pc + 6) = .ok (.invokespecial ic, 3)) (d9 : decode cc (pc + 9) = .ok (.athrow, 1))
    (hout : ∀ x ∈ c.exceptionTable.toList, covers x (pc + 9) = false)
    (hRframes : names.length + 3 < R.frames) (hRlocals : (rest.map fun v => v.category).sum + (13 * (names.length + 1) + 43) ≤ R.locals) (hRcells : cells + 1 ≤ R.cells) (hRslots : slots + 6 ≤ R.slots) (hlocks : meth.locks = false)
    (hx : ∀ t : State, s.vm.Alike t.vm → H.size ≤ t.heap.size → (∀ q : Nat, q < H.size → t.heap[q]? = H[q]?) → XC cls s t)
    (hf : ∀ z ∈ locs, free z.base) (hc : cells + 1 ≤ mc) (hs : slots + 6 ≤ ms) :
    W p l e R s m args below meth c H locs cells slots (vx_MQ below Qc XC args s mc ms free) (F0 m pc ls rest) := by
  intro T hT X
  have htr : e.platform.stackTraces = false := (show e.platform.stackTraces = l.stackTraces by rw [X.admits.platform]).trans hl
  have Y := vx_rebase X (R' := { frames := R.frames, locals := R.locals, cells := 1, slots := 6 }) (Nat.le_refl _) (Nat.le_refl _) hRcells hRslots
  obtain ⟨s', hA⟩ : ∃ z, z = (T.setVm s.vm).setFrames (.invoking m args :: below) := ⟨_, rfl⟩
  rw [← hA] at Y
  have hvm : s'.vm = s.vm := by rw [hA]; rfl
  have hhp : s'.heap = H := by rw [hA]; exact hT
  have hW0 : s.WarmedH s'.vm := by rw [hvm]; exact State.WarmedH.refl s
  have hat' : ∀ w ∈ vx_atS own ic cls names, w.before args s' = true := fun w hw => vx_ot_at hW0 hvm.symm (hgood w (List.mem_cons_of_mem _ (List.mem_cons_of_mem _ hw))) (hat w hw)
  have hk' : (Cond.classLink own ik cls).before args s' = true := vx_ot_at hW0 hvm.symm (hgood _ List.mem_cons_self) hk
  have hini' : (Cond.initialized cls).before args s' = true := vx_ot_at hW0 hvm.symm (hgood _ (List.mem_cons_of_mem _ List.mem_cons_self)) hini
  have hU' : vx_Zq Bundle.tN "UNASSIGNED_STACK" Bundle.steD A s' s'.heap := by rw [hhp]; exact vx_Zq.moved hW0.alike (hU.kept hS.2.1)
  have hN' : vx_Zq Bundle.tN "SUPPRESSED_SENTINEL" Bundle.listD A s' s'.heap := by rw [hhp]; exact vx_Zq.moved hW0.alike (hN.kept hS.2.1)
  have h : ∀ w ∈ Bundle.ownAtoms own ic cls names, w.before args s' = true := vx_own hat' (vx_isRefq hU'.1) (vx_isRefq hN'.1) hU'.2.word hN'.2.word
  have hown' : s'.vm.findClass own = some m.cls := by rw [hvm]; exact hown
  have hins : (Cond.instantiable cls 6).before args s' = true := h _ (by simp [Bundle.ownAtoms])
  obtain ⟨vm₁, cX, kX, hfX, hkX, -, -, X₁, st1⟩ := Y.newCold hexec (own := own) (C := cls) (index := ik) (n := 6) hown' hk' hins hini'
    (g := F0 m pc ls rest) rfl (by rw [hb]; exact d0) (Nat.le_refl _) (Nat.le_refl _)
  generalize hT1 : (T.setVm vm₁).pushCell { cls := cX, slots := kX.instanceTypes.map defaultValue, vm := .none } = T1 at X₁ st1
  have hcat : (Value.ref T.heap.size).category = 1 := rfl
  have hcellA : T1.heap[T.heap.size]? = some (freshCell cX kX) := by rw [← hT1]; exact State.heap_pushCell_size _ _
  have d3' : decode c.code (pc + 3) = .ok (.dup, 1) := by rw [hb]; exact d3
  have d4' : decode c.code (pc + 4) = .ok (.ldc is, 2) := by rw [hb]; exact d4
  have hstr' : vk_R own is text sa s' := vk_R.warm hW0 hstr
  obtain ⟨U, hsteps, hrun, hend, hW, hsame, ce, hce, hO⟩ := X₁.ctorThrowS hexec htr (own := own) (cls := cls) (names := names) (ic := ic) hown' hcls hnames h (fun x hx => nomatch hx) hfX hkX hcellA (by rw [hhp, hT]; exact Nat.le_refl _) (msg := .ref sa) rfl
    (g := { method := m, pc := pc + 6, locals := ls, stack := .ref sa :: .ref T.heap.size :: .ref T.heap.size :: rest, locked := none }) rfl hsize rfl rfl (rest := rest) rfl
    (by rw [hb]; exact d6) (by rw [hb]; exact d9) hout hRframes (by simp only [List.map_cons, List.sum_cons, hcat]; omega) hlocks
  obtain ⟨f1, f2⟩ := vx_frame hsame
  rw [hhp] at f1 f2
  have hWs : s.WarmedH U.vm := State.WarmedH.trans hW0 hW
  have hcl : s.vm.findClass cls = some ce.cls := by
    have h9 := hO.cls
    rw [hvm] at h9
    exact h9
  have hall : s.sameButNew ({ U with vm := s.vm } : State) locs mc ms := by
    subst hA
    obtain ⟨e1, e2⟩ := hsame
    rw [State.setFrames_setFrames] at e1
    have h2 : (T.setVm s.vm).sameButNew ({ U with vm := s.vm } : State) [] (0 + 1) (0 + 6) := ⟨e1, e2⟩
    have h3 := X.same.trans h2
    rw [List.append_nil] at h3
    exact h3.mono hc hs
  refine ⟨U, ?_, .threw T.heap.size, hrun, hend, Or.inr ⟨T.heap.size, rfl, cls, ce, locs, hx U hWs.alike f1 (fun q hq => f2 q hq (fun z hz => nomatch hz)), hce, hO.vm, hcl, hWs, hall, hf⟩⟩
  refine st1 _ ?_
  show Steps p.tables e below (T1.setTop { method := m, pc := pc + 3, locals := ls, stack := .ref T.heap.size :: rest, locked := none }) _
  jvm_step X₁.here [X₁.here.top, hexec, d3', Value.category]
  exact X₁.ldcString hexec (own := own) (text := text) (index := is) (a := sa) hown' hstr'.1 hstr'.2
    (g := { method := m, pc := pc + 4, locals := ls, stack := .ref T.heap.size :: .ref T.heap.size :: rest, locked := none }) rfl d4' _ hsteps
/-- 'throw new E("text")', the text by a wide index -/
theorem vx_throwSW {cc : ByteArray} {pc : Nat} (hexec : p.tables.exec = Jvm.exec) (hb : c.code = cc) (hl : l.stackTraces = false) {own cls text : String} {names : List String} {ik is ic mc ms sa : Nat} {A : Nat → Prop}
    (hown : s.vm.findClass own = some m.cls) (hcls : Bundle.fit cls = true) (hnames : ∀ n ∈ names, Bundle.fit n = true)
    (hk : (Cond.classLink own ik cls).before args s = true) (hini : (Cond.initialized cls).before args s = true) (hstr : vk_R own is text sa s) (hat : ∀ w ∈ vx_atS own ic cls names, w.before args s = true)
    (hgood : ∀ w ∈ Cond.classLink own ik cls :: Cond.initialized cls :: vx_atS own ic cls names, vx_ot w = true)
    (hU : vx_Zq Bundle.tN "UNASSIGNED_STACK" Bundle.steD A s s.heap) (hN : vx_Zq Bundle.tN "SUPPRESSED_SENTINEL" Bundle.listD A s s.heap) (hS : va_S A s.heap H locs) (hsize : ls.size = c.maxLocals)
    (d0 : decode cc pc = .ok (.new ik, 3)) (d3 : decode cc (pc + 3) = .ok (.dup, 1)) (d4 : decode cc (pc + 4) = .ok (.ldc_w is, 3)) (d7 : decode cc (pc + 7) = .ok (.invokespecial ic, 3)) (d10 : decode cc (pc + 10) = .ok (.athrow, 1))
    (hout : ∀ x ∈ c.exceptionTable.toList, covers x (pc + 10) = false)
    (hRframes : names.length + 3 < R.frames) (hRlocals : (rest.map fun v => v.category).sum + (13 * (names.length + 1) + 43) ≤ R.locals) (hRcells : cells + 1 ≤ R.cells) (hRslots : slots + 6 ≤ R.slots) (hlocks : meth.locks = false)
    (hx : ∀ t : State, s.vm.Alike t.vm → H.size ≤ t.heap.size → (∀ q : Nat, q < H.size → t.heap[q]? = H[q]?) → XC cls s t)
    (hf : ∀ z ∈ locs, free z.base) (hc : cells + 1 ≤ mc) (hs : slots + 6 ≤ ms) :
    W p l e R s m args below meth c H locs cells slots (vx_MQ below Qc XC args s mc ms free) (F0 m pc ls rest) := by
  intro T hT X
  have htr : e.platform.stackTraces = false := (show e.platform.stackTraces = l.stackTraces by rw [X.admits.platform]).trans hl
  have Y := vx_rebase X (R' := { frames := R.frames, locals := R.locals, cells := 1, slots := 6 }) (Nat.le_refl _) (Nat.le_refl _) hRcells hRslots
  obtain ⟨s', hA⟩ : ∃ z, z = (T.setVm s.vm).setFrames (.invoking m args :: below) := ⟨_, rfl⟩
  rw [← hA] at Y
  have hvm : s'.vm = s.vm := by rw [hA]; rfl
  have hhp : s'.heap = H := by rw [hA]; exact hT
  have hW0 : s.WarmedH s'.vm := by rw [hvm]; exact State.WarmedH.refl s
  have hat' : ∀ w ∈ vx_atS own ic cls names, w.before args s' = true := fun w hw => vx_ot_at hW0 hvm.symm (hgood w (List.mem_cons_of_mem _ (List.mem_cons_of_mem _ hw))) (hat w hw)
  have hk' : (Cond.classLink own ik cls).before args s' = true := vx_ot_at hW0 hvm.symm (hgood _ List.mem_cons_self) hk
  have hini' : (Cond.initialized cls).before args s' = true := vx_ot_at hW0 hvm.symm (hgood _ (List.mem_cons_of_mem _ List.mem_cons_self)) hini
  have hU' : vx_Zq Bundle.tN "UNASSIGNED_STACK" Bundle.steD A s' s'.heap := by rw [hhp]; exact vx_Zq.moved hW0.alike (hU.kept hS.2.1)
  have hN' : vx_Zq Bundle.tN "SUPPRESSED_SENTINEL" Bundle.listD A s' s'.heap := by rw [hhp]; exact vx_Zq.moved hW0.alike (hN.kept hS.2.1)
  have h : ∀ w ∈ Bundle.ownAtoms own ic cls names, w.before args s' = true := vx_own hat' (vx_isRefq hU'.1) (vx_isRefq hN'.1) hU'.2.word hN'.2.word
  have hown' : s'.vm.findClass own = some m.cls := by rw [hvm]; exact hown
  have hins : (Cond.instantiable cls 6).before args s' = true := h _ (by simp [Bundle.ownAtoms])
  obtain ⟨vm₁, cX, kX, hfX, hkX, -, -, X₁, st1⟩ := Y.newCold hexec (own := own) (C := cls) (index := ik) (n := 6) hown' hk' hins hini'
    (g := F0 m pc ls rest) rfl (by rw [hb]; exact d0) (Nat.le_refl _) (Nat.le_refl _)
  generalize hT1 : (T.setVm vm₁).pushCell { cls := cX, slots := kX.instanceTypes.map defaultValue, vm := .none } = T1 at X₁ st1
  have hcat : (Value.ref T.heap.size).category = 1 := rfl
  have hcellA : T1.heap[T.heap.size]? = some (freshCell cX kX) := by rw [← hT1]; exact State.heap_pushCell_size _ _
  have d3' : decode c.code (pc + 3) = .ok (.dup, 1) := by rw [hb]; exact d3
  have d4' : decode c.code (pc + 4) = .ok (.ldc_w is, 3) := by rw [hb]; exact d4
  have hstr' : vk_R own is text sa s' := vk_R.warm hW0 hstr
  obtain ⟨U, hsteps, hrun, hend, hW, hsame, ce, hce, hO⟩ := X₁.ctorThrowS hexec htr (own := own) (cls := cls) (names := names) (ic := ic) hown' hcls hnames h (fun x hx => nomatch hx) hfX hkX hcellA (by rw [hhp, hT]; exact Nat.le_refl _) (msg := .ref sa) rfl
    (g := { method := m, pc := pc + 7, locals := ls, stack := .ref sa :: .ref T.heap.size :: .ref T.heap.size :: rest, locked := none }) rfl hsize rfl rfl (rest := rest) rfl
    (by rw [hb]; exact d7) (by rw [hb]; exact d10) hout hRframes (by simp only [List.map_cons, List.sum_cons, hcat]; omega) hlocks
  obtain ⟨f1, f2⟩ := vx_frame hsame
  rw [hhp] at f1 f2
  have hWs : s.WarmedH U.vm := State.WarmedH.trans hW0 hW
  have hcl : s.vm.findClass cls = some ce.cls := by
    have h9 := hO.cls
    rw [hvm] at h9
    exact h9
  have hall : s.sameButNew ({ U with vm := s.vm } : State) locs mc ms := by
    subst hA
    obtain ⟨e1, e2⟩ := hsame
    rw [State.setFrames_setFrames] at e1
    have h2 : (T.setVm s.vm).sameButNew ({ U with vm := s.vm } : State) [] (0 + 1) (0 + 6) := ⟨e1, e2⟩
    have h3 := X.same.trans h2
    rw [List.append_nil] at h3
    exact h3.mono hc hs
  refine ⟨U, ?_, .threw T.heap.size, hrun, hend, Or.inr ⟨T.heap.size, rfl, cls, ce, locs, hx U hWs.alike f1 (fun q hq => f2 q hq (fun z hz => nomatch hz)), hce, hO.vm, hcl, hWs, hall, hf⟩⟩
  refine st1 _ ?_
  show Steps p.tables e below (T1.setTop { method := m, pc := pc + 3, locals := ls, stack := .ref T.heap.size :: rest, locked := none }) _
  jvm_step X₁.here [X₁.here.top, hexec, d3', Value.category]
  exact X₁.ldcStringW hexec (own := own) (text := text) (index := is) (a := sa) hown' hstr'.1 hstr'.2
    (g := { method := m, pc := pc + 4, locals := ls, stack := .ref T.heap.size :: .ref T.heap.size :: rest, locked := none }) rfl d4' _ hsteps
end Ends
section Bodies
variable {l : Launch}
theorem vx_ofW {y : MethodName} {ws ws' : List Cond} {rm : Room} {Pc : Array Value → State → Prop} {Qc : Array Value → State → Outcome → State → Prop} {XC : String → State → State → Prop} {mc ms : Nat} {free : Addr → Prop} {cc : ByteArray} {maxL : Nat} {ret : Option FieldType}
    (hy : plainName y.cls = true) (hw : ws = Cond.code y cc maxL ret :: ws')
    (body : ∀ p e s m args below meth c s₁, BodyLoose p l y (headSpec ws rm) cc maxL ret e s m args below meth c s₁ → c.maxLocals = maxL → (∀ x ∈ c.exceptionTable.toList, False) → Pc args s →
      W p l e (headSpec ws rm).room s m args below meth c s.heap [] 0 0 (vx_MQ below Qc XC args s mc ms free) (entryFrame m args maxL)) : vx_Met l y ws rm Pc Qc XC mc ms free := by
  refine MetFree.of_bodyS (code := cc) (maxLocals := maxL) (ret := ret) hy ?_ ?_
  · intro args s m h hn
    obtain ⟨meth, c, h1, h2, h3, h4, h5, h6, -, -⟩ := Cond.code_spec hn (atoms_spec (ws := ws) h _ (by rw [hw]; exact List.mem_cons_self))
    exact ⟨meth, c, h1, h2, h3, h4, h5, h6⟩
  · intro p e s m args below meth c s₁ B hml hP _
    have hh0 : s₁.heap = s.heap := by rw [B.state]; rfl
    have ht : ∀ x ∈ c.exceptionTable.toList, False := by
      obtain ⟨meth9, c9, h1, h2, -, -, -, -, h7, -⟩ := Cond.code_spec B.named (atoms_spec (ws := ws) B.pre _ (by rw [hw]; exact List.mem_cons_self))
      cases Option.some.inj (h1.symm.trans B.method)
      cases Option.some.inj (h2.symm.trans (Stand.of_body B).code)
      intro x hx
      rw [Array.isEmpty_iff.mp h7] at hx
      cases hx
    obtain ⟨t, a1, o, b1, b2, b3⟩ := body p e s m args below meth c s₁ B hml ht hP s₁ hh0 (Stand.of_body B)
    exact ⟨t, o, a1, b1, b2, b3⟩
/-- the table of a body with handlers -/
theorem vx_table {p : Program} {x y : MethodName} {S : Spec} {cc bytes : ByteArray} {maxL maxL' : Nat} {ret ret' : Option FieldType} {e : Env} {s s₁ : State} {m : MethodId} {args : Array Value} {below : List Frame} {meth : Method} {c : Code} {hh : List (Nat × Nat × Nat × Nat)}
    (B : BodyLoose p l y S cc maxL ret e s m args below meth c s₁) (h : (Cond.codeWith y bytes maxL' ret' hh).before args s = true) : c.exceptionTable.toList = tableOf hh := by
  obtain ⟨m9, meth9, c9, hn9, h1, h2, -, -, h6, -⟩ := Cond.codeWith_spec h
  cases Option.some.inj (hn9.symm.trans B.named)
  cases Option.some.inj (h1.symm.trans B.method)
  cases Option.some.inj (h2.symm.trans (Stand.of_body B).code)
  rw [← h6, table_eq]
end Bodies
end VXA
/-! ===== END ===== -/
/-! ===== BEGIN a static call of a method with an exception table ===== -/
section VXS
variable {p : Program} {l : Launch} {e : Env} {R : Room} {s : State} {m : MethodId} {args : Array Value} {below : List Frame} {meth : Method} {c : Code} {T : State} {H : Heap} {locs : List Loc} {cells slots : Nat}
abbrev vx_CSW (R : Room) (s : State) (args : Array Value) (own : String) (index : Nat) (y : MethodName) (bytes : ByteArray) (maxL : Nat) (ret : Option FieldType) (hh : List (Nat × Nat × Nat × Nat)) (ws : List Cond) (rm : Room) (mc ms n : Nat) : Prop :=
  (rm.cells = mc ∧ rm.slots = ms ∧ rm.frames + 1 ≤ R.frames ∧ 8 + (maxL + 11) + rm.locals ≤ R.locals ∧ (∀ w ∈ ws, ∀ (a' : Array Value) (U : State), s.WarmedH U.vm → w.before a' U = true) ∧ Cond.codeWith y bytes maxL ret hh ∈ ws) ∧
  (Cond.codeWith y bytes maxL ret hh).before args s = true ∧ (Cond.initialized y.cls).before args s = true ∧ (y.cls ≠ "java/lang/invoke/MethodHandle" ∧ y.cls ≠ "java/lang/invoke/VarHandle") ∧
  (∀ sig, parseMethodDescriptor y.desc = some sig → n = sig.parameters.length) ∧ (Cond.methodLink own index y).before args s = true ∧ (Cond.static y).before args s = true
theorem vx_cwSW {own : String} {index maxL mc ms : Nat} {y : MethodName} {bytes : ByteArray} {ret : Option FieldType} {hh : List (Nat × Nat × Nat × Nat)} {Ts ws ws' : List Cond} {rm : Room} (n : Nat) (ht : ∀ w ∈ Ts, w.before args s = true) (hT : GoodIn Ts (va_wsS own index y ws)) (hw : ws = Cond.codeWith y bytes maxL ret hh :: ws') (hrc : rm.cells = mc) (hrs : rm.slots = ms)
    (hd : y.cls ≠ "java/lang/invoke/MethodHandle" ∧ y.cls ≠ "java/lang/invoke/VarHandle" ∧ (parseMethodDescriptor y.desc).map (fun d => d.parameters.length) = some n) (hR : rm.frames + 1 ≤ R.frames ∧ 8 + (maxL + 11) + rm.locals ≤ R.locals) :
    vx_CSW R s args own index y bytes maxL ret hh ws rm mc ms n := by
  have ok : ∀ w ∈ va_wsS own index y ws, w.before args s = true := fun w h => ht w (hT w h).1
  have hG : GoodIn Ts ws := fun w h => hT w (by unfold va_wsS; exact List.mem_append_right _ h)
  have hc : Cond.codeWith y bytes maxL ret hh ∈ ws := by rw [hw]; exact List.mem_cons_self
  refine ⟨⟨hrc, hrs, hR.1, hR.2, pay_in ht hG, hc⟩, ht _ (hG _ hc).1, ok _ (by simp [va_wsS]), ⟨hd.1, hd.2.1⟩, fun sig h => ?_, ok _ (by simp [va_wsS]), ok _ (by simp [va_wsS])⟩
  have h2 := hd.2.2
  rw [h] at h2
  exact (Option.some.inj h2).symm
theorem vx_callSW (X : Stand p l e R s m args below meth c T locs cells slots) (hexec : p.tables.exec = Jvm.exec) {own : String} {index : Nat} {y : MethodName} {bytes : ByteArray} {maxL : Nat} {ret : Option FieldType} {hh : List (Nat × Nat × Nat × Nat)}
    (hown : s.vm.findClass own = some m.cls) (hlink : (Cond.methodLink own index y).before args s = true) (hstat : (Cond.static y).before args s = true) (hinit : (Cond.initialized y.cls).before args s = true)
    (hcode : (Cond.codeWith y bytes maxL ret hh).before args s = true) (hy : y.cls ≠ "java/lang/invoke/MethodHandle" ∧ y.cls ≠ "java/lang/invoke/VarHandle")
    {W9 : Nat} {Pre : Pt → Array Value → Prop} {Post : Pt → Array Value → Option Value → Pt → Prop} (hK : Back l R p e below s args y 3 W9 Pre Post)
    {g : JFrame} (hg : g.method = m) (hsize : g.locals.size = c.maxLocals) {argsL rest : List Value} (hlen : ∀ sig, parseMethodDescriptor y.desc = some sig → argsL.length = sig.parameters.length)
    (hstack : g.stack = argsL.reverse ++ rest) (hW : 2 * g.monitorRoom + (rest.map fun v => v.category).sum ≤ W9) (hdg : decode c.code g.pc = .ok (.invokestatic index, 3))
    (hpre : ∀ vm₁, s.WarmedH vm₁ → Pre ⟨T.setVm vm₁, locs, cells, slots⟩ argsL.toArray) :
    ∃ (v : Option Value) (vm₁ : Vm) (B : Pt), s.WarmedH vm₁ ∧ Stand p l e R s m args below meth c B.U B.locs B.cells B.slots ∧ Post ⟨T.setVm vm₁, locs, cells, slots⟩ argsL.toArray v B ∧
      ∀ target, Steps p.tables e below (B.U.setTop { g with pc := g.pc + 3, stack := v.toList ++ rest }) target → Steps p.tables e below (T.setTop g) target := by
  obtain ⟨mk, methM, cM, hnamed, hmethM, -, -, -, -, -, -, hsigM⟩ := Cond.codeWith_spec hcode
  have hstatic : methM.isStatic = true := Cond.static_spec hnamed hmethM hstat
  obtain ⟨kP, hkP, -⟩ := className_of_methodNamed hnamed
  have hinitP : kP.init = .initialized := Cond.initialized_spec (findClass_of_methodNamed hnamed) hkP hinit
  obtain ⟨vm₁, X₁, hstep₁⟩ := X.invokestatic hexec hown hlink hnamed hmethM hstatic hkP hinitP hy (g := g) hg (argsL := argsL) (rest := rest) (hlen _ hsigM) hstack hdg
  obtain ⟨v, B, X', hpost, hsteps⟩ := hK m meth c ⟨T.setVm vm₁, locs, cells, slots⟩ { g with stack := rest } (.invokestatic index) mk argsL.toArray X₁ hg hsize hdg hW (X₁.named hnamed) (hpre vm₁ X₁.warmed)
  exact ⟨v, vm₁, B, X₁.warmed, X', hpost, fun target h => hstep₁ _ fun acts => by rw [doInvoke_state]; exact hsteps.trans h⟩
theorem vx_runSW {y : MethodName} {bytes cc : ByteArray} {maxL nL mc ms n index : Nat} {ret : Option FieldType} {hh : List (Nat × Nat × Nat × Nat)} {ws : List Cond} {rm : Room} {Pc : Array Value → State → Prop} {Qc : Array Value → State → Outcome → State → Prop} {free : Addr → Prop} {Ts : List Cond} {own : String} {As rest : List Value} {g : JFrame}
    (S : CallFix p m c cc nL s args Ts own) (hM : Met l y ws rm Pc Qc mc ms free) (cw : vx_CSW R s args own index y bytes maxL ret hh ws rm mc ms n) (hp : PreS s H Pc As)
    (hg : g.method = m) (hn : As.length = n) (hsize : g.locals.size = nL) (hstack : g.stack = As.reverse ++ rest) (hW : 2 * g.monitorRoom + (rest.map fun v => v.category).sum ≤ 8) (hdg : decode cc g.pc = .ok (.invokestatic index, 3)) (hf : cells + mc ≤ R.cells ∧ slots + ms ≤ R.slots) :
    va_Run p l e R s m args below meth c H locs cells slots mc ms g rest (Qc As.toArray) (free) := by
  obtain ⟨⟨hrc, hrs, hfr, hlo, hws, hcw⟩, hcode, hini, hy, hlen, hl, hstt⟩ := cw
  have hK : Back l R p e below s args y 3 8 (PreOf R mc ms Pc) (PostOf Qc mc ms free) := va_backW (hh := hh) (bytes := bytes) (maxL := maxL) (ret := ret) hM hp.1 hrc hrs hfr hlo hws hcw (fun a' U hW => word_at hW (Or.inl (by first | rfl | simp [Cond.onTables, Cond.keeps, Cond.steady])) hini)
  obtain ⟨hx, hb, hml, ho, -⟩ := S
  intro T hT X
  obtain ⟨v, vm₁, ⟨U', l2, c2, s2⟩, hW₁, X', ⟨g', mk, t, L, e1, e2, hq, h1, hL, h2, h3⟩, st⟩ := vx_callSW X hx (hh := hh) (bytes := bytes) (maxL := maxL) (ret := ret) ho hl hstt hini hcode hy hK hg (hsize.trans hml.symm) (argsL := As) (rest := rest) (fun sig h => hn.trans (hlen sig h)) hstack hW (by rw [hb]; exact hdg)
    (fun vm₁ hW₁ => ⟨hf.1, hf.2, hp.2 (T.setVm vm₁) hT hW₁⟩)
  dsimp only [Pt.U, Pt.locs, Pt.cells, Pt.slots] at X' e1 e2 h1 h2 h3 st
  subst h1; subst h2; subst h3
  exact ⟨v, (T.setVm vm₁).calling g' mk As.toArray, t, U', L, hT, X', hL, e1, e2, hq, st⟩
/-- not caught here, past rows that name other classes: it goes on to the caller -/
theorem vx_outP {p : Program} {l : Launch} {e : Env} {R : Room} {s : State} {m : MethodId} {args : Array Value} {below : List Frame} {meth : Method} {c : Code} {H : Heap} {locs : List Loc} {cells slots : Nat} {free : Addr → Prop} {ls : Array Slot} {rest : List Value} {Qc : Array Value → State → Outcome → State → Prop} {XC : String → State → State → Prop}
    {pc : Nat} {own E : String} {ce : Cell} {q : Addr} {mc ms : Nat} (hown : s.vm.findClass own = some m.cls) (hlocks : meth.locks = false)
    (hpass : ∀ z ∈ c.exceptionTable.toList, covers z pc = false ∨ (z.catchType ≠ 0 ∧ ∃ nm : String, (Cond.classLink own z.catchType nm).before args s = true ∧ va_Nc E nm s)) (hcell : H[q]? = some ce) (hv : ce.vm = .none) (hcl : s.vm.findClass E = some ce.cls)
    (hx : ∀ t : State, t.heap = H → s.vm.Alike t.vm → XC E s t) (hf : ∀ z ∈ locs, free z.base) (hc : cells ≤ mc) (hs : slots ≤ ms) :
    vx_W p l e R s m args below meth c H locs cells slots (vx_MQ below Qc XC args s mc ms free) (F0 m pc ls rest) q := by
  intro T hT X
  have hpl : e.platform.magicAccessors = ({} : Platform).magicAccessors := by rw [X.admits.platform]
  obtain ⟨vm', hW', X', st⟩ := X.outThrough hlocks q (g := F0 m pc ls rest) rfl rfl rfl (cell := ce) (by rw [hT]; exact hcell) (by rw [hv]; rfl)
    (by obtain ⟨k9, h9, -⟩ := Vm.findClass_spec hcl; exact ⟨k9, h9⟩) (fun z hz => by
      rcases hpass z hz with h | ⟨hz0, nm, hl1, hn1⟩
      · exact Or.inl h
      · obtain ⟨c6, hc6, hcl6⟩ := Cond.classLink_spec hown hl1 e.platform hpl
        obtain ⟨a8, b8, h1, h2, h3⟩ := hn1
        cases Option.some.inj (h1.symm.trans hcl)
        cases Option.some.inj (h2.symm.trans hc6)
        exact Or.inr ⟨hz0, _, hcl6, h3⟩)
  obtain ⟨g₀, hfr⟩ := X'.frames_eq
  have hcell9 : ((T.setVm vm').setFrames (.throwing q :: below)).heap[q]? = some ce := by
    show T.heap[q]? = some ce
    rw [hT]; exact hcell
  have hend : Ended ((T.setVm vm').setFrames (.throwing q :: below)) below (.threw q) := State.frames_setFrames _ (State.cur_lt_of_frames hfr)
  refine ⟨(T.setVm vm').setFrames (.throwing q :: below), ?_, .threw q, X'.here.running, hend, Or.inr ⟨q, rfl, E, ce, locs, hx _ hT (X'.ends _).1.alike, hcell9, hv, hcl, (X'.ends _).1, (X'.ends _).2.mono hc hs, hf⟩⟩
  rw [X.pushThrowing_eq]
  exact st
/-- a thing of a world lies in the heap -/
theorem vx_lt {D : va_G} {cl : List vw_C} {ws : va_W} {H1 : Heap} (h : va_P D cl ws H1) {k : Nat} {q : Nat × va_E} (hk : ws[k]? = some q) : q.1 < H1.size := (h k q hk).lt
end VXS
/-! ===== END ===== -/
/-! ===== BEGIN methods with a table of their own: called by a name, returning or throwing ===== -/
section VXH
/-! vx_backW, vx_callVX, vx_callSX, vx_callVW, vx_runVW, vx_runVX, vx_runSX, vx_ofWH follow the same proofs as their sisters above (Free/Laws.lean, Shelf42/LK1.lean); vx_outP calls Shelf42/NT130.lean (outThrough). -/
section
variable {l : Launch} {R : Room} {p : Program} {e : Env} {below : List Frame} {s : State} {sargs : Array Value} {y : MethodName} {len W9 : Nat}
theorem vx_backW {ws : List Cond} {rm : Room} {Pc : Array Value → State → Prop} {Qc : Array Value → State → Outcome → State → Prop} {XC : String → State → State → Prop} {mc ms : Nat} {free : Addr → Prop} {bytes : ByteArray} {maxL : Nat} {ret : Option FieldType} {hh : List (Nat × Nat × Nat × Nat)}
    (hM : vx_Met l y ws rm Pc Qc XC mc ms free) (hblind : FrameBlind Pc) (hrc : rm.cells = mc) (hrs : rm.slots = ms)
    (hframes : rm.frames + 1 ≤ R.frames) (hlocals : W9 + (maxL + 11) + rm.locals ≤ R.locals)
    (hws : ∀ w ∈ ws, ∀ a' U, s.WarmedH U.vm → w.before a' U = true) (hcode : Cond.codeWith y bytes maxL ret hh ∈ ws) (hinit : ∀ a' U, s.WarmedH U.vm → (Cond.initialized y.cls).before a' U = true) :
    vx_Back l R p e below s sargs y len W9 (PreOf R mc ms Pc) (PostOf Qc mc ms free) (vx_Post XC mc ms free) := by
  intro m meth c A g ig mk a X hg hsize hdg hW hn hp
  have h1 : (headSpec ws rm).pre.before a A.U = true := atoms_intro fun w hw => hws w hw _ _ X.warmed
  have h2 : (Cond.codeWith y bytes maxL ret hh).before a A.U = true := hws _ hcode _ _ X.warmed
  have h3 : (Cond.initialized y.cls).before a A.U = true := hinit _ _ X.warmed
  have h4 : A.cells + (headSpec ws rm).room.cells ≤ R.cells := by rw [show (headSpec ws rm).room.cells = mc from hrc]; exact hp.1
  have h5 : A.slots + (headSpec ws rm).room.slots ≤ R.slots := by rw [show (headSpec ws rm).room.slots = ms from hrs]; exact hp.2.1
  have hPc : Pc a (A.U.calling g mk a) := hblind _ _ _ _ hp.2.2
  obtain ⟨U, Ls, c0, s0⟩ := A
  dsimp only [Pt.U, Pt.locs, Pt.cells, Pt.slots] at h1 h2 h3 h4 h5 X hn hPc ⊢
  obtain ⟨m9, methY, cY, hn9, hmY, hcY, -, hlY, -⟩ := Cond.codeWith_spec h2
  cases Option.some.inj (hn9.symm.trans hn)
  obtain ⟨kY, hkY, -⟩ := className_of_methodNamed hn
  have hinitY : kY.init = .initialized := Cond.initialized_spec (findClass_of_methodNamed hn) hkY h3
  have h : At U g.method c below := by rw [hg]; exact X.here
  have hlocals9 : W9 + (maxL + 11) + (headSpec ws rm).room.locals ≤ R.locals := hlocals
  have happ : (headSpec ws rm).appliesLoose y e.platform (U.calling g mk a) = true :=
    Spec.appliesLoose_calling (g := g) h hdg hn hkY hinitY
      (X.room_calling (g := g) (R' := (headSpec ws rm).room) hsize hmY hcY hframes (by rw [hlY]; omega) h4 h5) h1
  obtain ⟨mid, hmid⟩ := h.above
  have hfr : (U.setTop g).frames = (.java g :: mid) ++ below := by rw [State.frames_setTop' g h.top, hmid]; rfl
  obtain ⟨o, s₂, hsteps, -, hend, hq⟩ := Steps.callFree hM p X.admits X.cas X.clock (acts := []) hfr happ hPc trivial
  have hq' : vx_Q Qc XC mc ms free a (U.calling g mk a) o s₂ := hq
  rw [State.frames_setTop' g h.top] at hend
  obtain ⟨g₀, hg0⟩ := Option.isSome_iff_exists.mp h.top
  obtain ⟨r, hr⟩ := State.topJava?_eq_some.mp hg0
  have hr' : (({ U with heap := s₂.heap, slotsUsed := s₂.slotsUsed } : State).setVm s₂.vm).frames = .java g₀ :: r := hr
  rcases hq' with ⟨hqc, L, hfe, hL⟩ | ⟨q, rfl, E, ce, L, hx, hce, hcv, hcl, hW₂, hsm, hL⟩
  · obtain ⟨⟨v, rfl⟩, hW₂, e2, q2, q3, q4, q5, q6⟩ := id hfe
    have e3 : s₂ = ({ (U.calling g mk a).setFrames s₂.frames with heap := s₂.heap, slotsUsed := s₂.slotsUsed } : State).setVm s₂.vm := by
      have : s₂ = ({ s₂ with vm := (U.calling g mk a).vm } : State).setVm s₂.vm := rfl
      rw [e2] at this
      exact this
    obtain ⟨c₂, i₂, len₂, hc₂, hd₂, hf₂⟩ := hend
    have hW' : U.WarmedH s₂.vm := hW₂
    have hcc : c₂ = c := by
      have h1 : s₂.code? g.method = U.code? g.method := by
        rw [State.code?_eq, State.code?_eq, hW'.alike.method?]
      exact Option.some.inj (hc₂.symm.trans (h1.trans h.code))
    subst hcc
    have hlen : len₂ = len := by rw [hdg] at hd₂; cases hd₂; rfl
    subst hlen
    have hs₂ : s₂ = (({ U with heap := s₂.heap, slotsUsed := s₂.slotsUsed } : State).setVm s₂.vm).setTop { g with pc := g.pc + len₂, stack := v.toList ++ g.stack } := by
      refine e3.trans ?_
      rw [hf₂, State.calling_eq h.top, State.setFrames_setFrames, State.setTop_of_frames _ hr', hr]
      rfl
    have hsame : U.sameButNew ({ U with heap := s₂.heap, slotsUsed := s₂.slotsUsed } : State) L mc ms := by
      refine ⟨?_, q2, q3, q4, q5, q6⟩
      obtain ⟨t, ht, -⟩ := State.frames_cons hr
      show ({ U with heap := s₂.heap, slotsUsed := s₂.slotsUsed } : State) = { U.setFrames U.frames with heap := s₂.heap, slotsUsed := s₂.slotsUsed }
      rw [State.setFrames_self ht]
    subst hg
    refine Or.inl ⟨v, ⟨(({ U with heap := s₂.heap, slotsUsed := s₂.slotsUsed } : State).setVm s₂.vm), Ls ++ L, c0 + mc, s0 + ms⟩,
      ⟨X.admits, X.cas, X.clock, X.frames, X.room, X.hears, X.method, X.code, (X.here.setHeapUsed s₂.heap s₂.slotsUsed).setVm hW'.alike, X.tail, State.WarmedH.trans X.warmed hW', X.limits, X.bytes, X.same.trans (hsame.setVm s.vm)⟩,
      ⟨g, mk, s₂, L, rfl, rfl, hqc, rfl, hL, rfl, rfl⟩, ?_⟩
    show Steps p.tables e below _ ((({ U with heap := s₂.heap, slotsUsed := s₂.slotsUsed } : State).setVm s₂.vm).setTop { g with pc := g.pc + len₂, stack := v.toList ++ g.stack })
    rw [← hs₂]
    exact hsteps
  · obtain ⟨e2, q2, q3, q4, q5, q6⟩ := id hsm
    have e3 : s₂ = ({ (U.calling g mk a).setFrames s₂.frames with heap := s₂.heap, slotsUsed := s₂.slotsUsed } : State).setVm s₂.vm := by
      have : s₂ = ({ s₂ with vm := (U.calling g mk a).vm } : State).setVm s₂.vm := rfl
      rw [e2] at this
      exact this
    have hf₂ : s₂.frames = .throwing q :: .java g :: U.frames.tail := hend
    have hW' : U.WarmedH s₂.vm := hW₂
    have hs₂ : s₂ = ((({ U with heap := s₂.heap, slotsUsed := s₂.slotsUsed } : State).setVm s₂.vm).setTop g).pushFrame (.throwing q) := by
      refine e3.trans ?_
      rw [hf₂, State.calling_eq h.top, State.setFrames_setFrames, State.pushFrame, State.frames_setTop _ hr', State.setTop_of_frames _ hr', State.setFrames_setFrames, hr]
      rfl
    have hsame : U.sameButNew ({ U with heap := s₂.heap, slotsUsed := s₂.slotsUsed } : State) L mc ms := by
      refine ⟨?_, q2, q3, q4, q5, q6⟩
      obtain ⟨t, ht, -⟩ := State.frames_cons hr
      show ({ U with heap := s₂.heap, slotsUsed := s₂.slotsUsed } : State) = { U.setFrames U.frames with heap := s₂.heap, slotsUsed := s₂.slotsUsed }
      rw [State.setFrames_self ht]
    subst hg
    refine Or.inr ⟨q, ⟨(({ U with heap := s₂.heap, slotsUsed := s₂.slotsUsed } : State).setVm s₂.vm), Ls ++ L, c0 + mc, s0 + ms⟩,
      ⟨X.admits, X.cas, X.clock, X.frames, X.room, X.hears, X.method, X.code, (X.here.setHeapUsed s₂.heap s₂.slotsUsed).setVm hW'.alike, X.tail, State.WarmedH.trans X.warmed hW', X.limits, X.bytes, X.same.trans (hsame.setVm s.vm)⟩,
      ⟨g, mk, s₂, L, E, ce, rfl, rfl, hx, hce, hcv, hcl, rfl, hL, rfl, rfl⟩, ?_⟩
    show Steps p.tables e below _ (((({ U with heap := s₂.heap, slotsUsed := s₂.slotsUsed } : State).setVm s₂.vm).setTop g).pushFrame (.throwing q))
    rw [← hs₂]
    exact hsteps
end
variable {p : Program} {l : Launch} {e : Env} {R : Room} {s : State} {m : MethodId} {args : Array Value} {below : List Frame} {meth : Method} {c : Code} {T : State} {H : Heap} {locs : List Loc} {cells slots : Nat}
theorem vx_callVX (X : Stand p l e R s m args below meth c T locs cells slots) (hexec : p.tables.exec = Jvm.exec) {own C : String} {index : Nat} {y : MethodName} {bytes : ByteArray} {maxL : Nat} {ret : Option FieldType} {hh : List (Nat × Nat × Nat × Nat)}
    (hown : s.vm.findClass own = some m.cls) (hlink : (Cond.methodLink own index y).before args s = true) (hinst : (Cond.instanceMethod y).before args s = true) (hsel : (Cond.selects C y y).before args s = true)
    (hcode : (Cond.codeWith y bytes maxL ret hh).before args s = true) (hy : y.cls ≠ "java/lang/invoke/MethodHandle" ∧ y.cls ≠ "java/lang/invoke/VarHandle")
    {W9 : Nat} {Pre : Pt → Array Value → Prop} {Post : Pt → Array Value → Option Value → Pt → Prop} {PostX : Pt → Array Value → Addr → Pt → Prop} (hK : vx_Back l R p e below s args y 3 W9 Pre Post PostX)
    {b : Addr} {cellB : Cell} (hcell : T.heap[b]? = some cellB) (hobj : cellB.vm.isStatics = false) (hcls : s.vm.findClass C = some cellB.cls)
    {g : JFrame} (hg : g.method = m) (hsize : g.locals.size = c.maxLocals) {argsL rest : List Value} (hlen : ∀ sig, parseMethodDescriptor y.desc = some sig → argsL.length = sig.parameters.length)
    (hstack : g.stack = argsL.reverse ++ .ref b :: rest) (hW : 2 * g.monitorRoom + (rest.map fun v => v.category).sum ≤ W9) (hdg : decode c.code g.pc = .ok (.invokevirtual index, 3))
    (hpre : ∀ vm₁, s.WarmedH vm₁ → Pre ⟨T.setVm vm₁, locs, cells, slots⟩ (Value.ref b :: argsL).toArray) :
    (∃ (v : Option Value) (vm₁ : Vm) (B : Pt), s.WarmedH vm₁ ∧ Stand p l e R s m args below meth c B.U B.locs B.cells B.slots ∧ Post ⟨T.setVm vm₁, locs, cells, slots⟩ (Value.ref b :: argsL).toArray v B ∧
      ∀ target, Steps p.tables e below (B.U.setTop { g with pc := g.pc + 3, stack := v.toList ++ rest }) target → Steps p.tables e below (T.setTop g) target) ∨
    (∃ (q : Addr) (vm₁ : Vm) (B : Pt), s.WarmedH vm₁ ∧ Stand p l e R s m args below meth c B.U B.locs B.cells B.slots ∧ PostX ⟨T.setVm vm₁, locs, cells, slots⟩ (Value.ref b :: argsL).toArray q B ∧
      Steps p.tables e below (T.setTop g) ((B.U.setTop { g with stack := rest }).pushFrame (.throwing q))) := by
  obtain ⟨mk, methM, hnamed, hmethM, hstM, habM⟩ := Cond.instanceMethod_spec hinst
  obtain ⟨m8, methM', cM, hn8, hmethM', -, -, -, -, -, -, hsigM⟩ := Cond.codeWith_spec hcode
  cases Option.some.inj (hn8.symm.trans hnamed)
  cases hmethM.symm.trans hmethM'
  obtain ⟨c2, r2, m2, q1, q2, q3, q4, kP, hkP, hkPi⟩ := Cond.selects_spec hsel
  cases hcls.symm.trans q1
  cases (State.methodFound?_of_named hnamed hy).symm.trans q2
  cases hnamed.symm.trans q3
  have hselP : selectMethod e.platform s.vm cellB.cls mk = .method mk := by rw [Launch.admits_selectMethod X.admits]; exact q4
  obtain ⟨vm₁, X₁, hstep₁⟩ := X.invokevirtual hexec hown hlink hnamed hmethM hstM hkP hkPi hy (a := b) (cell := cellB) hcell
    (fun z h => by rw [h] at hobj; cases hobj) hselP hmethM habM hkP hkPi (g := g) hg (argsL := argsL) (rest := rest) (hlen _ hsigM) hstack hdg
  rcases hK m meth c ⟨T.setVm vm₁, locs, cells, slots⟩ { g with stack := rest } (.invokevirtual index) mk (Value.ref b :: argsL).toArray X₁ hg hsize hdg hW (X₁.named hnamed) (hpre vm₁ X₁.warmed) with ⟨v, B, X', hpost, hsteps⟩ | ⟨q, B, X', hpost, hsteps⟩
  · exact Or.inl ⟨v, vm₁, B, X₁.warmed, X', hpost, fun target h => hstep₁ _ fun acts => by rw [doInvoke_state]; exact hsteps.trans h⟩
  · exact Or.inr ⟨q, vm₁, B, X₁.warmed, X', hpost, hstep₁ _ fun acts => by rw [doInvoke_state]; exact hsteps⟩
theorem vx_callSX (X : Stand p l e R s m args below meth c T locs cells slots) (hexec : p.tables.exec = Jvm.exec) {own : String} {index : Nat} {y : MethodName} {bytes : ByteArray} {maxL : Nat} {ret : Option FieldType} {hh : List (Nat × Nat × Nat × Nat)}
    (hown : s.vm.findClass own = some m.cls) (hlink : (Cond.methodLink own index y).before args s = true) (hstat : (Cond.static y).before args s = true) (hinit : (Cond.initialized y.cls).before args s = true)
    (hcode : (Cond.codeWith y bytes maxL ret hh).before args s = true) (hy : y.cls ≠ "java/lang/invoke/MethodHandle" ∧ y.cls ≠ "java/lang/invoke/VarHandle")
    {W9 : Nat} {Pre : Pt → Array Value → Prop} {Post : Pt → Array Value → Option Value → Pt → Prop} {PostX : Pt → Array Value → Addr → Pt → Prop} (hK : vx_Back l R p e below s args y 3 W9 Pre Post PostX)
    {g : JFrame} (hg : g.method = m) (hsize : g.locals.size = c.maxLocals) {argsL rest : List Value} (hlen : ∀ sig, parseMethodDescriptor y.desc = some sig → argsL.length = sig.parameters.length)
    (hstack : g.stack = argsL.reverse ++ rest) (hW : 2 * g.monitorRoom + (rest.map fun v => v.category).sum ≤ W9) (hdg : decode c.code g.pc = .ok (.invokestatic index, 3))
    (hpre : ∀ vm₁, s.WarmedH vm₁ → Pre ⟨T.setVm vm₁, locs, cells, slots⟩ argsL.toArray) :
    (∃ (v : Option Value) (vm₁ : Vm) (B : Pt), s.WarmedH vm₁ ∧ Stand p l e R s m args below meth c B.U B.locs B.cells B.slots ∧ Post ⟨T.setVm vm₁, locs, cells, slots⟩ argsL.toArray v B ∧
      ∀ target, Steps p.tables e below (B.U.setTop { g with pc := g.pc + 3, stack := v.toList ++ rest }) target → Steps p.tables e below (T.setTop g) target) ∨
    (∃ (q : Addr) (vm₁ : Vm) (B : Pt), s.WarmedH vm₁ ∧ Stand p l e R s m args below meth c B.U B.locs B.cells B.slots ∧ PostX ⟨T.setVm vm₁, locs, cells, slots⟩ argsL.toArray q B ∧
      Steps p.tables e below (T.setTop g) ((B.U.setTop { g with stack := rest }).pushFrame (.throwing q))) := by
  obtain ⟨mk, methM, cM, hnamed, hmethM, -, -, -, -, -, -, hsigM⟩ := Cond.codeWith_spec hcode
  have hstatic : methM.isStatic = true := Cond.static_spec hnamed hmethM hstat
  obtain ⟨kP, hkP, -⟩ := className_of_methodNamed hnamed
  have hinitP : kP.init = .initialized := Cond.initialized_spec (findClass_of_methodNamed hnamed) hkP hinit
  obtain ⟨vm₁, X₁, hstep₁⟩ := X.invokestatic hexec hown hlink hnamed hmethM hstatic hkP hinitP hy (g := g) hg (argsL := argsL) (rest := rest) (hlen _ hsigM) hstack hdg
  rcases hK m meth c ⟨T.setVm vm₁, locs, cells, slots⟩ { g with stack := rest } (.invokestatic index) mk argsL.toArray X₁ hg hsize hdg hW (X₁.named hnamed) (hpre vm₁ X₁.warmed) with ⟨v, B, X', hpost, hsteps⟩ | ⟨q, B, X', hpost, hsteps⟩
  · exact Or.inl ⟨v, vm₁, B, X₁.warmed, X', hpost, fun target h => hstep₁ _ fun acts => by rw [doInvoke_state]; exact hsteps.trans h⟩
  · exact Or.inr ⟨q, vm₁, B, X₁.warmed, X', hpost, hstep₁ _ fun acts => by rw [doInvoke_state]; exact hsteps⟩
theorem vx_callVW (X : Stand p l e R s m args below meth c T locs cells slots) (hexec : p.tables.exec = Jvm.exec) {own C : String} {index : Nat} {y : MethodName} {bytes : ByteArray} {maxL : Nat} {ret : Option FieldType} {hh : List (Nat × Nat × Nat × Nat)}
    (hown : s.vm.findClass own = some m.cls) (hlink : (Cond.methodLink own index y).before args s = true) (hinst : (Cond.instanceMethod y).before args s = true) (hsel : (Cond.selects C y y).before args s = true)
    (hcode : (Cond.codeWith y bytes maxL ret hh).before args s = true) (hy : y.cls ≠ "java/lang/invoke/MethodHandle" ∧ y.cls ≠ "java/lang/invoke/VarHandle")
    {W9 : Nat} {Pre : Pt → Array Value → Prop} {Post : Pt → Array Value → Option Value → Pt → Prop} (hK : Back l R p e below s args y 3 W9 Pre Post)
    {b : Addr} {cellB : Cell} (hcell : T.heap[b]? = some cellB) (hobj : cellB.vm.isStatics = false) (hcls : s.vm.findClass C = some cellB.cls)
    {g : JFrame} (hg : g.method = m) (hsize : g.locals.size = c.maxLocals) {argsL rest : List Value} (hlen : ∀ sig, parseMethodDescriptor y.desc = some sig → argsL.length = sig.parameters.length)
    (hstack : g.stack = argsL.reverse ++ .ref b :: rest) (hW : 2 * g.monitorRoom + (rest.map fun v => v.category).sum ≤ W9) (hdg : decode c.code g.pc = .ok (.invokevirtual index, 3))
    (hpre : ∀ vm₁, s.WarmedH vm₁ → Pre ⟨T.setVm vm₁, locs, cells, slots⟩ (Value.ref b :: argsL).toArray) :
    ∃ (v : Option Value) (vm₁ : Vm) (B : Pt), s.WarmedH vm₁ ∧ Stand p l e R s m args below meth c B.U B.locs B.cells B.slots ∧ Post ⟨T.setVm vm₁, locs, cells, slots⟩ (Value.ref b :: argsL).toArray v B ∧
      ∀ target, Steps p.tables e below (B.U.setTop { g with pc := g.pc + 3, stack := v.toList ++ rest }) target → Steps p.tables e below (T.setTop g) target := by
  obtain ⟨mk, methM, hnamed, hmethM, hstM, habM⟩ := Cond.instanceMethod_spec hinst
  obtain ⟨m8, methM', cM, hn8, hmethM', -, -, -, -, -, -, hsigM⟩ := Cond.codeWith_spec hcode
  cases Option.some.inj (hn8.symm.trans hnamed)
  cases hmethM.symm.trans hmethM'
  obtain ⟨c2, r2, m2, q1, q2, q3, q4, kP, hkP, hkPi⟩ := Cond.selects_spec hsel
  cases hcls.symm.trans q1
  cases (State.methodFound?_of_named hnamed hy).symm.trans q2
  cases hnamed.symm.trans q3
  have hselP : selectMethod e.platform s.vm cellB.cls mk = .method mk := by rw [Launch.admits_selectMethod X.admits]; exact q4
  obtain ⟨vm₁, X₁, hstep₁⟩ := X.invokevirtual hexec hown hlink hnamed hmethM hstM hkP hkPi hy (a := b) (cell := cellB) hcell
    (fun z h => by rw [h] at hobj; cases hobj) hselP hmethM habM hkP hkPi (g := g) hg (argsL := argsL) (rest := rest) (hlen _ hsigM) hstack hdg
  obtain ⟨v, B, X', hpost, hsteps⟩ := hK m meth c ⟨T.setVm vm₁, locs, cells, slots⟩ { g with stack := rest } (.invokevirtual index) mk (Value.ref b :: argsL).toArray X₁ hg hsize hdg hW (X₁.named hnamed) (hpre vm₁ X₁.warmed)
  exact ⟨v, vm₁, B, X₁.warmed, X', hpost, fun target h => hstep₁ _ fun acts => by rw [doInvoke_state]; exact hsteps.trans h⟩
abbrev vx_CVW (R : Room) (s : State) (args : Array Value) (own C : String) (index : Nat) (y : MethodName) (bytes : ByteArray) (maxL : Nat) (ret : Option FieldType) (hh : List (Nat × Nat × Nat × Nat)) (ws : List Cond) (rm : Room) (mc ms n : Nat) : Prop :=
  (rm.cells = mc ∧ rm.slots = ms ∧ rm.frames + 1 ≤ R.frames ∧ 8 + (maxL + 11) + rm.locals ≤ R.locals ∧ (∀ w ∈ ws, ∀ (a' : Array Value) (U : State), s.WarmedH U.vm → w.before a' U = true) ∧ Cond.codeWith y bytes maxL ret hh ∈ ws) ∧
  (Cond.codeWith y bytes maxL ret hh).before args s = true ∧ (Cond.initialized y.cls).before args s = true ∧ (y.cls ≠ "java/lang/invoke/MethodHandle" ∧ y.cls ≠ "java/lang/invoke/VarHandle") ∧
  (∀ sig, parseMethodDescriptor y.desc = some sig → n = sig.parameters.length) ∧ (Cond.methodLink own index y).before args s = true ∧ (Cond.instanceMethod y).before args s = true ∧ (Cond.selects C y y).before args s = true
theorem vx_cwVW {own C : String} {index maxL mc ms : Nat} {y : MethodName} {bytes : ByteArray} {ret : Option FieldType} {hh : List (Nat × Nat × Nat × Nat)} {Ts ws ws' : List Cond} {rm : Room} (n : Nat) (ht : ∀ w ∈ Ts, w.before args s = true) (hT : GoodIn Ts (wsV own index C y ws)) (hw : ws = Cond.codeWith y bytes maxL ret hh :: ws') (hrc : rm.cells = mc) (hrs : rm.slots = ms)
    (hd : y.cls = C ∧ y.cls ≠ "java/lang/invoke/MethodHandle" ∧ y.cls ≠ "java/lang/invoke/VarHandle" ∧ (parseMethodDescriptor y.desc).map (fun d => d.parameters.length) = some n) (hR : rm.frames + 1 ≤ R.frames ∧ 8 + (maxL + 11) + rm.locals ≤ R.locals) :
    vx_CVW R s args own C index y bytes maxL ret hh ws rm mc ms n := by
  obtain ⟨hC, hd⟩ := hd
  subst hC
  have ok : ∀ w ∈ wsV own index y.cls y ws, w.before args s = true := fun w h => ht w (hT w h).1
  have hG : GoodIn Ts ws := fun w h => hT w (by unfold wsV; exact List.mem_append_right _ h)
  have hc : Cond.codeWith y bytes maxL ret hh ∈ ws := by rw [hw]; exact List.mem_cons_self
  refine ⟨⟨hrc, hrs, hR.1, hR.2, pay_in ht hG, hc⟩, ht _ (hG _ hc).1, ok _ (by simp [wsV]), ⟨hd.1, hd.2.1⟩, fun sig h => ?_, ok _ (by simp [wsV]), ok _ (by simp [wsV]), ok _ (by simp [wsV])⟩
  have h2 := hd.2.2
  rw [h] at h2
  exact (Option.some.inj h2).symm
theorem vx_runVW {y : MethodName} {bytes cc : ByteArray} {maxL nL mc ms n index : Nat} {ret : Option FieldType} {hh : List (Nat × Nat × Nat × Nat)} {ws : List Cond} {rm : Room} {Pc : Array Value → State → Prop} {Qc : Array Value → State → Outcome → State → Prop} {free : Addr → Prop} {Ts : List Cond} {own C : String} {b : Addr} {As rest : List Value} {g : JFrame}
    (S : CallFix p m c cc nL s args Ts own) (hM : Met l y ws rm Pc Qc mc ms free) (cw : vx_CVW R s args own C index y bytes maxL ret hh ws rm mc ms n) (hp : PreV s H C b Pc As)
    (hg : g.method = m) (hn : As.length = n) (hsize : g.locals.size = nL) (hstack : g.stack = As.reverse ++ .ref b :: rest) (hW : 2 * g.monitorRoom + (rest.map fun v => v.category).sum ≤ 8) (hdg : decode cc g.pc = .ok (.invokevirtual index, 3)) (hf : cells + mc ≤ R.cells ∧ slots + ms ≤ R.slots) :
    va_Run p l e R s m args below meth c H locs cells slots mc ms g rest (Qc (Value.ref b :: As).toArray) free := by
  obtain ⟨⟨hrc, hrs, hfr, hlo, hws, hcw⟩, hcode, hini, hy, hlen, hl, hin, hse⟩ := cw
  have hK : Back l R p e below s args y 3 8 (PreOf R mc ms Pc) (PostOf Qc mc ms free) := va_backW (hh := hh) (bytes := bytes) (maxL := maxL) (ret := ret) hM hp.1 hrc hrs hfr hlo hws hcw (fun a' U hW => word_at hW (Or.inl (by first | rfl | simp [Cond.onTables, Cond.keeps, Cond.steady])) hini)
  obtain ⟨hx, hb, hml, ho, -⟩ := S
  obtain ⟨-, ⟨cellB, hcB, hoB, hclB⟩, hPc⟩ := hp
  intro T hT X
  obtain ⟨v, vm₁, ⟨U', l2, c2, s2⟩, hW₁, X', ⟨g', mk, t, L, e1, e2, hq, h1, hL, h2, h3⟩, st⟩ := vx_callVW X hx (C := C) (hh := hh) (bytes := bytes) (maxL := maxL) (ret := ret) ho hl hin hse hcode hy hK (by rw [hT]; exact hcB) hoB hclB hg (hsize.trans hml.symm) (argsL := As) (rest := rest) (fun sig h => hn.trans (hlen sig h)) hstack hW (by rw [hb]; exact hdg)
    (fun vm₁ hW₁ => ⟨hf.1, hf.2, hPc (T.setVm vm₁) hT hW₁⟩)
  dsimp only [Pt.U, Pt.locs, Pt.cells, Pt.slots] at X' e1 e2 h1 h2 h3 st
  subst h1; subst h2; subst h3
  exact ⟨v, (T.setVm vm₁).calling g' mk (Value.ref b :: As).toArray, t, U', L, hT, X', hL, e1, e2, hq, st⟩
section
variable {y : MethodName} {bytes cc : ByteArray} {maxL nL mc ms n index : Nat} {ret : Option FieldType} {ws : List Cond} {rm : Room} {Pc : Array Value → State → Prop} {Qc : Array Value → State → Outcome → State → Prop} {XC : String → State → State → Prop} {free : Addr → Prop} {Ts : List Cond} {own C : String} {b : Addr} {As rest : List Value} {g : JFrame}
theorem vx_runVX {hh : List (Nat × Nat × Nat × Nat)} (S : CallFix p m c cc nL s args Ts own) (hM : vx_Met l y ws rm Pc Qc XC mc ms free) (cw : vx_CVW R s args own C index y bytes maxL ret hh ws rm mc ms n) (hp : PreV s H C b Pc As)
    (hg : g.method = m) (hn : As.length = n) (hsize : g.locals.size = nL) (hstack : g.stack = As.reverse ++ .ref b :: rest) (hW : 2 * g.monitorRoom + (rest.map fun v => v.category).sum ≤ 8) (hdg : decode cc g.pc = .ok (.invokevirtual index, 3)) (hf : cells + mc ≤ R.cells ∧ slots + ms ≤ R.slots) :
    vx_Run p l e R s m args below meth c H locs cells slots mc ms g rest (Qc (Value.ref b :: As).toArray) XC free := by
  obtain ⟨⟨hrc, hrs, hfr, hlo, hws, hcw⟩, hcode, hini, hy, hlen, hl, hin, hse⟩ := cw
  have hK : vx_Back l R p e below s args y 3 8 (PreOf R mc ms Pc) (PostOf Qc mc ms free) (vx_Post XC mc ms free) := vx_backW (hh := hh) (bytes := bytes) (maxL := maxL) (ret := ret) hM hp.1 hrc hrs hfr hlo hws hcw (fun a' U hW => word_at hW (Or.inl (by first | rfl | simp [Cond.onTables, Cond.keeps, Cond.steady])) hini)
  obtain ⟨hx, hb, hml, ho, -⟩ := S
  obtain ⟨-, ⟨cellB, hcB, hoB, hclB⟩, hPc⟩ := hp
  intro T hT X
  rcases vx_callVX X hx (C := C) (hh := hh) (bytes := bytes) (maxL := maxL) (ret := ret) ho hl hin hse hcode hy hK (by rw [hT]; exact hcB) hoB hclB hg (hsize.trans hml.symm) (argsL := As) (rest := rest) (fun sig h => hn.trans (hlen sig h)) hstack hW (by rw [hb]; exact hdg)
    (fun vm₁ hW₁ => ⟨hf.1, hf.2, hPc (T.setVm vm₁) hT hW₁⟩) with ⟨v, vm₁, ⟨U', l2, c2, s2⟩, hW₁, X', ⟨g', mk, t, L, e1, e2, hq, h1, hL, h2, h3⟩, st⟩ | ⟨q, vm₁, ⟨U', l2, c2, s2⟩, hW₁, X', ⟨g', mk, t, L, E, ce, e1, e2, hq, hce, hcv, hcl, h1, hL, h2, h3⟩, st⟩
  · dsimp only [Pt.U, Pt.locs, Pt.cells, Pt.slots] at X' e1 e2 h1 h2 h3 st
    subst h1; subst h2; subst h3
    exact Or.inl ⟨v, (T.setVm vm₁).calling g' mk (Value.ref b :: As).toArray, t, U', L, hT, X', hL, e1, e2, hq, st⟩
  · dsimp only [Pt.U, Pt.locs, Pt.cells, Pt.slots] at X' e1 e2 h1 h2 h3 st hcl
    subst h1; subst h2; subst h3
    exact Or.inr ⟨q, (T.setVm vm₁).calling g' mk (Value.ref b :: As).toArray, t, U', L, E, ce, hT, X', hL, e1, e2, hq, hce, hcv, vx_cls hW₁ hcl, st⟩
theorem vx_runSX {hh : List (Nat × Nat × Nat × Nat)} (S : CallFix p m c cc nL s args Ts own) (hM : vx_Met l y ws rm Pc Qc XC mc ms free) (cw : vx_CSW R s args own index y bytes maxL ret hh ws rm mc ms n) (hp : PreS s H Pc As)
    (hg : g.method = m) (hn : As.length = n) (hsize : g.locals.size = nL) (hstack : g.stack = As.reverse ++ rest) (hW : 2 * g.monitorRoom + (rest.map fun v => v.category).sum ≤ 8) (hdg : decode cc g.pc = .ok (.invokestatic index, 3)) (hf : cells + mc ≤ R.cells ∧ slots + ms ≤ R.slots) :
    vx_Run p l e R s m args below meth c H locs cells slots mc ms g rest (Qc As.toArray) XC free := by
  obtain ⟨⟨hrc, hrs, hfr, hlo, hws, hcw⟩, hcode, hini, hy, hlen, hl, hstt⟩ := cw
  have hK : vx_Back l R p e below s args y 3 8 (PreOf R mc ms Pc) (PostOf Qc mc ms free) (vx_Post XC mc ms free) := vx_backW (hh := hh) (bytes := bytes) (maxL := maxL) (ret := ret) hM hp.1 hrc hrs hfr hlo hws hcw (fun a' U hW => word_at hW (Or.inl (by first | rfl | simp [Cond.onTables, Cond.keeps, Cond.steady])) hini)
  obtain ⟨hx, hb, hml, ho, -⟩ := S
  intro T hT X
  rcases vx_callSX X hx (hh := hh) (bytes := bytes) (maxL := maxL) (ret := ret) ho hl hstt hini hcode hy hK hg (hsize.trans hml.symm) (argsL := As) (rest := rest) (fun sig h => hn.trans (hlen sig h)) hstack hW (by rw [hb]; exact hdg)
    (fun vm₁ hW₁ => ⟨hf.1, hf.2, hp.2 (T.setVm vm₁) hT hW₁⟩) with ⟨v, vm₁, ⟨U', l2, c2, s2⟩, hW₁, X', ⟨g', mk, t, L, e1, e2, hq, h1, hL, h2, h3⟩, st⟩ | ⟨q, vm₁, ⟨U', l2, c2, s2⟩, hW₁, X', ⟨g', mk, t, L, E, ce, e1, e2, hq, hce, hcv, hcl, h1, hL, h2, h3⟩, st⟩
  · dsimp only [Pt.U, Pt.locs, Pt.cells, Pt.slots] at X' e1 e2 h1 h2 h3 st
    subst h1; subst h2; subst h3
    exact Or.inl ⟨v, (T.setVm vm₁).calling g' mk As.toArray, t, U', L, hT, X', hL, e1, e2, hq, st⟩
  · dsimp only [Pt.U, Pt.locs, Pt.cells, Pt.slots] at X' e1 e2 h1 h2 h3 st hcl
    subst h1; subst h2; subst h3
    exact Or.inr ⟨q, (T.setVm vm₁).calling g' mk As.toArray, t, U', L, E, ce, hT, X', hL, e1, e2, hq, hce, hcv, vx_cls hW₁ hcl, st⟩
end
end VXH
theorem vx_ofWH {l : Launch} {y : MethodName} {ws ws' : List Cond} {rm : Room} {Pc : Array Value → State → Prop} {Qc : Array Value → State → Outcome → State → Prop} {XC : String → State → State → Prop} {mc ms : Nat} {free : Addr → Prop} {cc : ByteArray} {maxL : Nat} {ret : Option FieldType} {hh : List (Nat × Nat × Nat × Nat)}
    (hy : plainName y.cls = true) (hw : ws = Cond.codeWith y cc maxL ret hh :: ws')
    (body : ∀ p e s m args below meth c s₁, BodyLoose p l y (headSpec ws rm) cc maxL ret e s m args below meth c s₁ → c.maxLocals = maxL → Pc args s →
      W p l e (headSpec ws rm).room s m args below meth c s.heap [] 0 0 (vx_MQ below Qc XC args s mc ms free) (entryFrame m args maxL)) : vx_Met l y ws rm Pc Qc XC mc ms free := by
  refine MetFree.of_bodyS (code := cc) (maxLocals := maxL) (ret := ret) hy ?_ ?_
  · intro args s m h hn
    obtain ⟨m9, meth, c, hn9, h1, h2, h3, h4, -, h5, h6, -⟩ := Cond.codeWith_spec (atoms_spec (ws := ws) h _ (by rw [hw]; exact List.mem_cons_self))
    cases hn.symm.trans hn9
    exact ⟨meth, c, h1, h2, h3, h4, h5, h6⟩
  · intro p e s m args below meth c s₁ B hml hP _
    have hh0 : s₁.heap = s.heap := by rw [B.state]; rfl
    obtain ⟨t, a1, o, b1, b2, b3⟩ := body p e s m args below meth c s₁ B hml hP s₁ hh0 (Stand.of_body B)
    exact ⟨t, o, a1, b1, b2, b3⟩
/-! ===== END ===== -/
end
section
def RX0 : String := "ZipCanopy$Layout"
def TX0 : u_T := fun k => match k with
  | 0 => ("ZipCanopy$Layout", "platforms", "[LZipCanopy$Platform;", true)
  | 1 => ("ZipCanopy$Layout", "lines", "[LZipCanopy$Line;", true)
  | 2 => ("ZipCanopy$Layout", "riders", "[LZipCanopy$Rider;", true)
  | 3 => ("ZipCanopy$Layout", "winds", "[I", true)
  | 4 => ("ZipCanopy$Layout", "platformCount", "I", false)
  | 5 => ("ZipCanopy$Layout", "lineCount", "I", false)
  | _ => ("ZipCanopy$Layout", "riderCount", "I", false)
def tyX0 : Nat → FieldType := fun k => match k with
  | 0 => .array (.object "ZipCanopy$Platform")
  | 1 => .array (.object "ZipCanopy$Line")
  | 2 => .array (.object "ZipCanopy$Rider")
  | 3 => .array .int
  | 4 => .int
  | 5 => .int
  | _ => .int
abbrev wsX00 : List Cond := u_ws RX0 TX0 7
theorem nmX0 : ∀ a, a < 7 → ∀ b, b < 7 → a ≠ b → (TX0 a).2.1 ≠ (TX0 b).2.1 := by decide +kernel
theorem tyX0_ok : ∀ k, k < 7 → parseFieldDescriptor (TX0 k).2.2.1 = some (tyX0 k) := by decide +kernel
abbrev cX0_init : ByteArray := prog_2_method_1_code
def yX0_init : MethodName := ⟨RX0, "<init>", "()V"⟩
abbrev cX0_hasPlatformAt : ByteArray := prog_2_method_2_code
def yX0_hasPlatformAt : MethodName := ⟨RX0, "hasPlatformAt", "(II)Z"⟩
abbrev cX0_isLower : ByteArray := prog_2_method_3_code
def yX0_isLower : MethodName := ⟨RX0, "isLower", "(II)Z"⟩
abbrev cX0_addPlatform : ByteArray := prog_2_method_4_code
def yX0_addPlatform : MethodName := ⟨RX0, "addPlatform", "(III)I"⟩
abbrev cX0_addLine : ByteArray := prog_2_method_5_code
def yX0_addLine : MethodName := ⟨RX0, "addLine", "(III)I"⟩
abbrev cX0_addRider : ByteArray := prog_2_method_6_code
def yX0_addRider : MethodName := ⟨RX0, "addRider", "(III)I"⟩
abbrev cX0_linesWithTop : ByteArray := prog_2_method_7_code
def yX0_linesWithTop : MethodName := ⟨RX0, "linesWithTop", "(I)I"⟩
abbrev cX0_linesWithBottom : ByteArray := prog_2_method_8_code
def yX0_linesWithBottom : MethodName := ⟨RX0, "linesWithBottom", "(I)I"⟩
abbrev cX0_isClosed : ByteArray := prog_2_method_9_code
def yX0_isClosed : MethodName := ⟨RX0, "isClosed", "(LZipCanopy$Line;I)Z"⟩
def RX1 : String := "ZipCanopy$Line"
def TX1 : u_T := fun k => match k with
  | 0 => ("ZipCanopy$Line", "top", "I", false)
  | 1 => ("ZipCanopy$Line", "bottom", "I", false)
  | 2 => ("ZipCanopy$Line", "most", "I", false)
  | 3 => ("ZipCanopy$Line", "length", "I", false)
  | _ => ("ZipCanopy$Line", "drop", "I", false)
def tyX1 : Nat → FieldType := fun k => match k with
  | 0 => .int
  | 1 => .int
  | 2 => .int
  | 3 => .int
  | _ => .int
abbrev wsX10 : List Cond := u_ws RX1 TX1 5
theorem nmX1 : ∀ a, a < 5 → ∀ b, b < 5 → a ≠ b → (TX1 a).2.1 ≠ (TX1 b).2.1 := by decide +kernel
theorem tyX1_ok : ∀ k, k < 5 → parseFieldDescriptor (TX1 k).2.2.1 = some (tyX1 k) := by decide +kernel
abbrev cX1_init : ByteArray := prog_3_method_1_code
def yX1_init : MethodName := ⟨RX1, "<init>", "()V"⟩
abbrev cX1_carries : ByteArray := prog_3_method_2_code
def yX1_carries : MethodName := ⟨RX1, "carries", "(I)Z"⟩
abbrev cX1_getsStuck : ByteArray := prog_3_method_3_code
def yX1_getsStuck : MethodName := ⟨RX1, "getsStuck", "(I)Z"⟩
abbrev cX1_rideMinutes : ByteArray := prog_3_method_4_code
def yX1_rideMinutes : MethodName := ⟨RX1, "rideMinutes", "(I)I"⟩
abbrev cX1_pullMinutes : ByteArray := prog_3_method_5_code
def yX1_pullMinutes : MethodName := ⟨RX1, "pullMinutes", "()I"⟩
def RX2 : String := "ZipCanopy$Platform"
def TX2 : u_T := fun k => match k with
  | 0 => ("ZipCanopy$Platform", "x", "I", false)
  | 1 => ("ZipCanopy$Platform", "y", "I", false)
  | _ => ("ZipCanopy$Platform", "height", "I", false)
def tyX2 : Nat → FieldType := fun k => match k with
  | 0 => .int
  | 1 => .int
  | _ => .int
abbrev wsX20 : List Cond := u_ws RX2 TX2 3
theorem nmX2 : ∀ a, a < 3 → ∀ b, b < 3 → a ≠ b → (TX2 a).2.1 ≠ (TX2 b).2.1 := by decide +kernel
theorem tyX2_ok : ∀ k, k < 3 → parseFieldDescriptor (TX2 k).2.2.1 = some (tyX2 k) := by decide +kernel
abbrev cX2_init : ByteArray := prog_4_method_1_code
def yX2_init : MethodName := ⟨RX2, "<init>", "()V"⟩
abbrev cX2_distanceTo : ByteArray := prog_4_method_2_code
def yX2_distanceTo : MethodName := ⟨RX2, "distanceTo", "(LZipCanopy$Platform;)I"⟩
def RX3 : String := "ZipCanopy$Rider"
def TX3 : u_T := fun k => match k with
  | 0 => ("ZipCanopy$Rider", "route", "LZipCanopy$Route;", true)
  | 1 => ("ZipCanopy$Rider", "goal", "I", false)
  | 2 => ("ZipCanopy$Rider", "weight", "I", false)
  | _ => ("ZipCanopy$Rider", "patience", "I", false)
def tyX3 : Nat → FieldType := fun k => match k with
  | 0 => .object "ZipCanopy$Route"
  | 1 => .int
  | 2 => .int
  | _ => .int
abbrev wsX30 : List Cond := u_ws RX3 TX3 4
theorem nmX3 : ∀ a, a < 4 → ∀ b, b < 4 → a ≠ b → (TX3 a).2.1 ≠ (TX3 b).2.1 := by decide +kernel
theorem tyX3_ok : ∀ k, k < 4 → parseFieldDescriptor (TX3 k).2.2.1 = some (tyX3 k) := by decide +kernel
abbrev cX3_init : ByteArray := prog_5_method_1_code
def yX3_init : MethodName := ⟨RX3, "<init>", "()V"⟩
abbrev cX3_planRoute : ByteArray := prog_5_method_2_code
def yX3_planRoute : MethodName := ⟨RX3, "planRoute", "(LZipCanopy$Layout;)V"⟩
def RX4 : String := "ZipCanopy$Route"
def TX4 : u_T := fun k => match k with
  | 0 => ("ZipCanopy$Route", "lines", "[I", true)
  | _ => ("ZipCanopy$Route", "first", "[I", true)
def tyX4 : Nat → FieldType := fun k => match k with
  | 0 => .array .int
  | _ => .array .int
abbrev wsX40 : List Cond := u_ws RX4 TX4 2
theorem nmX4 : ∀ a, a < 2 → ∀ b, b < 2 → a ≠ b → (TX4 a).2.1 ≠ (TX4 b).2.1 := by decide +kernel
theorem tyX4_ok : ∀ k, k < 2 → parseFieldDescriptor (TX4 k).2.2.1 = some (tyX4 k) := by decide +kernel
abbrev cX4_init : ByteArray := prog_6_method_1_code
def yX4_init : MethodName := ⟨RX4, "<init>", "()V"⟩
abbrev cX4_plan : ByteArray := prog_6_method_2_code
def yX4_plan : MethodName := ⟨RX4, "plan", "(LZipCanopy$Layout;II)V"⟩
abbrev cX4_extend : ByteArray := prog_6_method_3_code
def yX4_extend : MethodName := ⟨RX4, "extend", "(LZipCanopy$Line;III)V"⟩
abbrev cX4_linesFrom : ByteArray := prog_6_method_4_code
def yX4_linesFrom : MethodName := ⟨RX4, "linesFrom", "(I)I"⟩
abbrev cX4_firstFrom : ByteArray := prog_6_method_5_code
def yX4_firstFrom : MethodName := ⟨RX4, "firstFrom", "(I)I"⟩
def RX5 : String := "ZipCanopy$Traffic"
def TX5 : u_T := fun k => match k with
  | 0 => ("ZipCanopy$Traffic", "layout", "LZipCanopy$Layout;", true)
  | 1 => ("ZipCanopy$Traffic", "trips", "[LZipCanopy$Trip;", true)
  | 2 => ("ZipCanopy$Traffic", "trolleys", "[LZipCanopy$Trolleys;", true)
  | 3 => ("ZipCanopy$Traffic", "waiting", "[I", true)
  | 4 => ("ZipCanopy$Traffic", "waitingCount", "I", false)
  | _ => ("ZipCanopy$Traffic", "minute", "I", false)
def tyX5 : Nat → FieldType := fun k => match k with
  | 0 => .object "ZipCanopy$Layout"
  | 1 => .array (.object "ZipCanopy$Trip")
  | 2 => .array (.object "ZipCanopy$Trolleys")
  | 3 => .array .int
  | 4 => .int
  | _ => .int
abbrev wsX50 : List Cond := u_ws RX5 TX5 6
theorem nmX5 : ∀ a, a < 6 → ∀ b, b < 6 → a ≠ b → (TX5 a).2.1 ≠ (TX5 b).2.1 := by decide +kernel
theorem tyX5_ok : ∀ k, k < 6 → parseFieldDescriptor (TX5 k).2.2.1 = some (tyX5 k) := by decide +kernel
abbrev cX5_init : ByteArray := prog_7_method_1_code
def yX5_init : MethodName := ⟨RX5, "<init>", "(LZipCanopy$Layout;)V"⟩
abbrev cX5_copyFrom : ByteArray := prog_7_method_2_code
def yX5_copyFrom : MethodName := ⟨RX5, "copyFrom", "(LZipCanopy$Traffic;)V"⟩
abbrev cX5_addTrolleys : ByteArray := prog_7_method_3_code
def yX5_addTrolleys : MethodName := ⟨RX5, "addTrolleys", "(II)V"⟩
abbrev cX5_reach : ByteArray := prog_7_method_4_code
def yX5_reach : MethodName := ⟨RX5, "reach", "(II)V"⟩
abbrev cX5_goOn : ByteArray := prog_7_method_5_code
def yX5_goOn : MethodName := ⟨RX5, "goOn", "(I)I"⟩
abbrev cX5_passMinute : ByteArray := prog_7_method_6_code
def yX5_passMinute : MethodName := ⟨RX5, "passMinute", "()V"⟩
abbrev cX5_moveTrolleys : ByteArray := prog_7_method_7_code
def yX5_moveTrolleys : MethodName := ⟨RX5, "moveTrolleys", "(LZipCanopy$Line;LZipCanopy$Trolleys;)V"⟩
abbrev cX5_beginRide : ByteArray := prog_7_method_8_code
def yX5_beginRide : MethodName := ⟨RX5, "beginRide", "(LZipCanopy$Line;I)V"⟩
abbrev cX5_firstWaitingFor : ByteArray := prog_7_method_9_code
def yX5_firstWaitingFor : MethodName := ⟨RX5, "firstWaitingFor", "(I)I"⟩
abbrev cX5_leaveWaiting : ByteArray := prog_7_method_10_code
def yX5_leaveWaiting : MethodName := ⟨RX5, "leaveWaiting", "(I)V"⟩
abbrev cX5_tireWaiting : ByteArray := prog_7_method_11_code
def yX5_tireWaiting : MethodName := ⟨RX5, "tireWaiting", "()V"⟩
abbrev cX5_givesUp : ByteArray := prog_7_method_12_code
def yX5_givesUp : MethodName := ⟨RX5, "givesUp", "(LZipCanopy$Rider;LZipCanopy$Trip;)Z"⟩
abbrev cX5_queueLength : ByteArray := prog_7_method_13_code
def yX5_queueLength : MethodName := ⟨RX5, "queueLength", "(I)I"⟩
abbrev cX5_inQueue : ByteArray := prog_7_method_14_code
def yX5_inQueue : MethodName := ⟨RX5, "inQueue", "(II)I"⟩
abbrev cX5_arrivedAt : ByteArray := prog_7_method_15_code
def yX5_arrivedAt : MethodName := ⟨RX5, "arrivedAt", "(I)I"⟩
abbrev cX5_ridersIn : ByteArray := prog_7_method_16_code
def yX5_ridersIn : MethodName := ⟨RX5, "ridersIn", "(I)I"⟩
abbrev cX5_trolleysInAll : ByteArray := prog_7_method_17_code
def yX5_trolleysInAll : MethodName := ⟨RX5, "trolleysInAll", "()I"⟩
abbrev cX5_ridesInAll : ByteArray := prog_7_method_18_code
def yX5_ridesInAll : MethodName := ⟨RX5, "ridesInAll", "()I"⟩
def RX6 : String := "ZipCanopy$Trip"
def TX6 : u_T := fun k => match k with
  | 0 => ("ZipCanopy$Trip", "state", "I", false)
  | 1 => ("ZipCanopy$Trip", "platform", "I", false)
  | 2 => ("ZipCanopy$Trip", "line", "I", false)
  | 3 => ("ZipCanopy$Trip", "minutes", "I", false)
  | 4 => ("ZipCanopy$Trip", "taken", "I", false)
  | _ => ("ZipCanopy$Trip", "arrival", "I", false)
def tyX6 : Nat → FieldType := fun k => match k with
  | 0 => .int
  | 1 => .int
  | 2 => .int
  | 3 => .int
  | 4 => .int
  | _ => .int
abbrev wsX60 : List Cond := u_ws RX6 TX6 6
theorem nmX6 : ∀ a, a < 6 → ∀ b, b < 6 → a ≠ b → (TX6 a).2.1 ≠ (TX6 b).2.1 := by decide +kernel
theorem tyX6_ok : ∀ k, k < 6 → parseFieldDescriptor (TX6 k).2.2.1 = some (tyX6 k) := by decide +kernel
abbrev cX6_init : ByteArray := prog_8_method_1_code
def yX6_init : MethodName := ⟨RX6, "<init>", "()V"⟩
abbrev cX6_copyFrom : ByteArray := prog_8_method_2_code
def yX6_copyFrom : MethodName := ⟨RX6, "copyFrom", "(LZipCanopy$Trip;)V"⟩
abbrev cX6_isUnderWay : ByteArray := prog_8_method_3_code
def yX6_isUnderWay : MethodName := ⟨RX6, "isUnderWay", "()Z"⟩
abbrev cX6_beginWait : ByteArray := prog_8_method_4_code
def yX6_beginWait : MethodName := ⟨RX6, "beginWait", "(I)V"⟩
abbrev cX6_beginRide : ByteArray := prog_8_method_5_code
def yX6_beginRide : MethodName := ⟨RX6, "beginRide", "(II)V"⟩
abbrev cX6_arrive : ByteArray := prog_8_method_6_code
def yX6_arrive : MethodName := ⟨RX6, "arrive", "(II)V"⟩
abbrev cX6_giveUp : ByteArray := prog_8_method_7_code
def yX6_giveUp : MethodName := ⟨RX6, "giveUp", "()V"⟩
def RX7 : String := "ZipCanopy$Trolleys"
def TX7 : u_T := fun k => match k with
  | 0 => ("ZipCanopy$Trolleys", "atTop", "I", false)
  | 1 => ("ZipCanopy$Trolleys", "away", "I", false)
  | 2 => ("ZipCanopy$Trolleys", "riders", "[I", true)
  | 3 => ("ZipCanopy$Trolleys", "minutesLeft", "[I", true)
  | 4 => ("ZipCanopy$Trolleys", "rides", "I", false)
  | _ => ("ZipCanopy$Trolleys", "stuck", "I", false)
def tyX7 : Nat → FieldType := fun k => match k with
  | 0 => .int
  | 1 => .int
  | 2 => .array .int
  | 3 => .array .int
  | 4 => .int
  | _ => .int
abbrev wsX70 : List Cond := u_ws RX7 TX7 6
theorem nmX7 : ∀ a, a < 6 → ∀ b, b < 6 → a ≠ b → (TX7 a).2.1 ≠ (TX7 b).2.1 := by decide +kernel
theorem tyX7_ok : ∀ k, k < 6 → parseFieldDescriptor (TX7 k).2.2.1 = some (tyX7 k) := by decide +kernel
abbrev cX7_init : ByteArray := prog_9_method_1_code
def yX7_init : MethodName := ⟨RX7, "<init>", "()V"⟩
abbrev cX7_copyFrom : ByteArray := prog_9_method_2_code
def yX7_copyFrom : MethodName := ⟨RX7, "copyFrom", "(LZipCanopy$Trolleys;)V"⟩
abbrev cX7_inAll : ByteArray := prog_9_method_3_code
def yX7_inAll : MethodName := ⟨RX7, "inAll", "()I"⟩
abbrev cX7_ridden : ByteArray := prog_9_method_4_code
def yX7_ridden : MethodName := ⟨RX7, "ridden", "()I"⟩
abbrev cX7_canLeaveTop : ByteArray := prog_9_method_5_code
def yX7_canLeaveTop : MethodName := ⟨RX7, "canLeaveTop", "()Z"⟩
abbrev cX7_leaveTop : ByteArray := prog_9_method_6_code
def yX7_leaveTop : MethodName := ⟨RX7, "leaveTop", "(II)V"⟩
abbrev cX7_beginPull : ByteArray := prog_9_method_7_code
def yX7_beginPull : MethodName := ⟨RX7, "beginPull", "(II)V"⟩
abbrev cX7_dropPulled : ByteArray := prog_9_method_8_code
def yX7_dropPulled : MethodName := ⟨RX7, "dropPulled", "()V"⟩
def RX8 : String := "ZipCanopy"
def TX8 : u_T := fun k => match k with
  | 0 => ("ZipCanopy", "layout", "LZipCanopy$Layout;", true)
  | 1 => ("ZipCanopy", "now", "LZipCanopy$Traffic;", true)
  | 2 => ("ZipCanopy", "ahead", "LZipCanopy$Traffic;", true)
  | _ => ("ZipCanopy", "asked", "LZipCanopy$Route;", true)
def tyX8 : Nat → FieldType := fun k => match k with
  | 0 => .object "ZipCanopy$Layout"
  | 1 => .object "ZipCanopy$Traffic"
  | 2 => .object "ZipCanopy$Traffic"
  | _ => .object "ZipCanopy$Route"
abbrev wsX80 : List Cond := u_ws RX8 TX8 4
theorem nmX8 : ∀ a, a < 4 → ∀ b, b < 4 → a ≠ b → (TX8 a).2.1 ≠ (TX8 b).2.1 := by decide +kernel
theorem tyX8_ok : ∀ k, k < 4 → parseFieldDescriptor (TX8 k).2.2.1 = some (tyX8 k) := by decide +kernel
abbrev cX8_init : ByteArray := prog_1_method_1_code
def yX8_init : MethodName := ⟨RX8, "<init>", "()V"⟩
abbrev cX8_build : ByteArray := prog_1_method_2_code
def yX8_build : MethodName := ⟨RX8, "build", "(III)I"⟩
abbrev cX8_span : ByteArray := prog_1_method_3_code
def yX8_span : MethodName := ⟨RX8, "span", "(IIII)I"⟩
abbrev cX8_add : ByteArray := prog_1_method_4_code
def yX8_add : MethodName := ⟨RX8, "add", "(I)I"⟩
abbrev cX8_setWind : ByteArray := prog_1_method_5_code
def yX8_setWind : MethodName := ⟨RX8, "setWind", "(II)I"⟩
abbrev cX8_platform : ByteArray := prog_1_method_6_code
def yX8_platform : MethodName := ⟨RX8, "platform", "(II)I"⟩
abbrev cX8_line : ByteArray := prog_1_method_7_code
def yX8_line : MethodName := ⟨RX8, "line", "(II)I"⟩
abbrev cX8_ride : ByteArray := prog_1_method_8_code
def yX8_ride : MethodName := ⟨RX8, "ride", "(II)I"⟩
abbrev cX8_come : ByteArray := prog_1_method_9_code
def yX8_come : MethodName := ⟨RX8, "come", "(IIII)I"⟩
abbrev cX8_rider : ByteArray := prog_1_method_10_code
def yX8_rider : MethodName := ⟨RX8, "rider", "(II)I"⟩
abbrev cX8_queue : ByteArray := prog_1_method_11_code
def yX8_queue : MethodName := ⟨RX8, "queue", "(II)I"⟩
abbrev cX8_pass : ByteArray := prog_1_method_12_code
def yX8_pass : MethodName := ⟨RX8, "pass", "(I)I"⟩
abbrev cX8_count : ByteArray := prog_1_method_13_code
def yX8_count : MethodName := ⟨RX8, "count", "(I)I"⟩
abbrev cX8_way : ByteArray := prog_1_method_14_code
def yX8_way : MethodName := ⟨RX8, "way", "(III)I"⟩
abbrev cX8_arrives : ByteArray := prog_1_method_15_code
def yX8_arrives : MethodName := ⟨RX8, "arrives", "(I)I"⟩
abbrev cX8_advise : ByteArray := prog_1_method_16_code
def yX8_advise : MethodName := ⟨RX8, "advise", "(I)I"⟩
abbrev cX8_mean : ByteArray := prog_1_method_17_code
def yX8_mean : MethodName := ⟨RX8, "mean", "()D"⟩
abbrev cX8_digest : ByteArray := prog_1_method_18_code
def yX8_digest : MethodName := ⟨RX8, "digest", "()J"⟩
abbrev cX8_within : ByteArray := prog_1_method_19_code
def yX8_within : MethodName := ⟨RX8, "within", "(III)Z"⟩
abbrev cX8_isWeight : ByteArray := prog_1_method_20_code
def yX8_isWeight : MethodName := ⟨RX8, "isWeight", "(I)Z"⟩
abbrev cX8_isPlatform : ByteArray := prog_1_method_21_code
def yX8_isPlatform : MethodName := ⟨RX8, "isPlatform", "(I)Z"⟩
abbrev cX8_isLine : ByteArray := prog_1_method_22_code
def yX8_isLine : MethodName := ⟨RX8, "isLine", "(I)Z"⟩
abbrev cX8_isRider : ByteArray := prog_1_method_23_code
def yX8_isRider : MethodName := ⟨RX8, "isRider", "(I)Z"⟩
abbrev cX8_arrivalsWithOneMore : ByteArray := prog_1_method_24_code
def yX8_arrivalsWithOneMore : MethodName := ⟨RX8, "arrivalsWithOneMore", "(II)I"⟩
abbrev cX8_digestPlatform : ByteArray := prog_1_method_25_code
def yX8_digestPlatform : MethodName := ⟨RX8, "digestPlatform", "(JI)J"⟩
abbrev cX8_platformFact : ByteArray := prog_1_method_26_code
def yX8_platformFact : MethodName := ⟨RX8, "platformFact", "(II)I"⟩
abbrev cX8_lineFact : ByteArray := prog_1_method_27_code
def yX8_lineFact : MethodName := ⟨RX8, "lineFact", "(II)I"⟩
abbrev cX8_riderFact : ByteArray := prog_1_method_28_code
def yX8_riderFact : MethodName := ⟨RX8, "riderFact", "(II)I"⟩
abbrev cX8_countFact : ByteArray := prog_1_method_29_code
def yX8_countFact : MethodName := ⟨RX8, "countFact", "(I)I"⟩
def RX9 : String := "ZipCanopyModel$State"
def TX9 : u_T := fun k => match k with
  | 0 => ("ZipCanopyModel$State", "minute", "I", false)
  | 1 => ("ZipCanopyModel$State", "trolleys", "[I", true)
  | 2 => ("ZipCanopyModel$State", "out", "[I", true)
  | 3 => ("ZipCanopyModel$State", "with", "[I", true)
  | 4 => ("ZipCanopyModel$State", "left", "[I", true)
  | 5 => ("ZipCanopyModel$State", "rides", "[I", true)
  | 6 => ("ZipCanopyModel$State", "stuck", "[I", true)
  | 7 => ("ZipCanopyModel$State", "size", "[I", true)
  | 8 => ("ZipCanopyModel$State", "queue", "[I", true)
  | 9 => ("ZipCanopyModel$State", "is", "[I", true)
  | 10 => ("ZipCanopyModel$State", "at", "[I", true)
  | 11 => ("ZipCanopyModel$State", "waited", "[I", true)
  | 12 => ("ZipCanopyModel$State", "taken", "[I", true)
  | 13 => ("ZipCanopyModel$State", "arrival", "[I", true)
  | _ => ("ZipCanopyModel$State", "this$0", "LZipCanopyModel;", true)
def tyX9 : Nat → FieldType := fun k => match k with
  | 0 => .int
  | 1 => .array .int
  | 2 => .array .int
  | 3 => .array .int
  | 4 => .array .int
  | 5 => .array .int
  | 6 => .array .int
  | 7 => .array .int
  | 8 => .array .int
  | 9 => .array .int
  | 10 => .array .int
  | 11 => .array .int
  | 12 => .array .int
  | 13 => .array .int
  | _ => .object "ZipCanopyModel"
abbrev wsX90 : List Cond := u_ws RX9 TX9 15
theorem nmX9 : ∀ a, a < 15 → ∀ b, b < 15 → a ≠ b → (TX9 a).2.1 ≠ (TX9 b).2.1 := by decide +kernel
theorem tyX9_ok : ∀ k, k < 15 → parseFieldDescriptor (TX9 k).2.2.1 = some (tyX9 k) := by decide +kernel
abbrev cX9_init : ByteArray := prog_12_method_1_code
def yX9_init : MethodName := ⟨RX9, "<init>", "(LZipCanopyModel;)V"⟩
abbrev cX9_copy : ByteArray := prog_12_method_2_code
def yX9_copy : MethodName := ⟨RX9, "copy", "([I[I)V"⟩
abbrev cX9_become : ByteArray := prog_12_method_3_code
def yX9_become : MethodName := ⟨RX9, "become", "(LZipCanopyModel$State;)V"⟩
abbrev cX9_many : ByteArray := prog_12_method_4_code
def yX9_many : MethodName := ⟨RX9, "many", "(I)I"⟩
abbrev cX9_come : ByteArray := prog_12_method_5_code
def yX9_come : MethodName := ⟨RX9, "come", "(II)V"⟩
abbrev cX9_strike : ByteArray := prog_12_method_6_code
def yX9_strike : MethodName := ⟨RX9, "strike", "(I)V"⟩
abbrev cX9_pass : ByteArray := prog_12_method_7_code
def yX9_pass : MethodName := ⟨RX9, "pass", "()I"⟩
abbrev cX9_roll : ByteArray := prog_12_method_8_code
def yX9_roll : MethodName := ⟨RX9, "roll", "(I)V"⟩
abbrev cX9_begin : ByteArray := prog_12_method_9_code
def yX9_begin : MethodName := ⟨RX9, "begin", "(I)V"⟩
abbrev cX9_leftOf : ByteArray := prog_12_method_10_code
def yX9_leftOf : MethodName := ⟨RX9, "leftOf", "(I)I"⟩
abbrev cX9_riding : ByteArray := prog_12_method_11_code
def yX9_riding : MethodName := ⟨RX9, "riding", "(I)I"⟩
def RX10 : String := "ZipCanopyModel"
def TX10 : u_T := fun k => match k with
  | 0 => ("ZipCanopyModel", "thrown", "I", false)
  | 1 => ("ZipCanopyModel", "platforms", "I", false)
  | 2 => ("ZipCanopyModel", "x", "[I", true)
  | 3 => ("ZipCanopyModel", "y", "[I", true)
  | 4 => ("ZipCanopyModel", "height", "[I", true)
  | 5 => ("ZipCanopyModel", "lines", "I", false)
  | 6 => ("ZipCanopyModel", "top", "[I", true)
  | 7 => ("ZipCanopyModel", "bottom", "[I", true)
  | 8 => ("ZipCanopyModel", "most", "[I", true)
  | 9 => ("ZipCanopyModel", "wind", "[I", true)
  | 10 => ("ZipCanopyModel", "riders", "I", false)
  | 11 => ("ZipCanopyModel", "weight", "[I", true)
  | 12 => ("ZipCanopyModel", "patience", "[I", true)
  | 13 => ("ZipCanopyModel", "goal", "[I", true)
  | 14 => ("ZipCanopyModel", "s", "LZipCanopyModel$State;", true)
  | _ => ("ZipCanopyModel", "ahead", "LZipCanopyModel$State;", true)
def tyX10 : Nat → FieldType := fun k => match k with
  | 0 => .int
  | 1 => .int
  | 2 => .array .int
  | 3 => .array .int
  | 4 => .array .int
  | 5 => .int
  | 6 => .array .int
  | 7 => .array .int
  | 8 => .array .int
  | 9 => .array .int
  | 10 => .int
  | 11 => .array .int
  | 12 => .array .int
  | 13 => .array .int
  | 14 => .object "ZipCanopyModel$State"
  | _ => .object "ZipCanopyModel$State"
abbrev wsX100 : List Cond := u_ws RX10 TX10 16
theorem nmX10 : ∀ a, a < 16 → ∀ b, b < 16 → a ≠ b → (TX10 a).2.1 ≠ (TX10 b).2.1 := by decide +kernel
theorem tyX10_ok : ∀ k, k < 16 → parseFieldDescriptor (TX10 k).2.2.1 = some (tyX10 k) := by decide +kernel
abbrev cX10_init : ByteArray := prog_11_method_1_code
def yX10_init : MethodName := ⟨RX10, "<init>", "()V"⟩
abbrev cX10_thrown : ByteArray := prog_11_method_2_code
def yX10_thrown : MethodName := ⟨RX10, "thrown", "()I"⟩
abbrev cX10_no : ByteArray := prog_11_method_3_code
def yX10_no : MethodName := ⟨RX10, "no", "(I)I"⟩
abbrev cX10_isIn : ByteArray := prog_11_method_4_code
def yX10_isIn : MethodName := ⟨RX10, "isIn", "(III)Z"⟩
abbrev cX10_isPlatform : ByteArray := prog_11_method_5_code
def yX10_isPlatform : MethodName := ⟨RX10, "isPlatform", "(I)Z"⟩
abbrev cX10_isLine : ByteArray := prog_11_method_6_code
def yX10_isLine : MethodName := ⟨RX10, "isLine", "(I)Z"⟩
abbrev cX10_lengthOf : ByteArray := prog_11_method_7_code
def yX10_lengthOf : MethodName := ⟨RX10, "lengthOf", "(I)I"⟩
abbrev cX10_dropOf : ByteArray := prog_11_method_8_code
def yX10_dropOf : MethodName := ⟨RX10, "dropOf", "(I)I"⟩
abbrev cX10_isClosed : ByteArray := prog_11_method_9_code
def yX10_isClosed : MethodName := ⟨RX10, "isClosed", "(II)Z"⟩
abbrev cX10_rideOf : ByteArray := prog_11_method_10_code
def yX10_rideOf : MethodName := ⟨RX10, "rideOf", "(II)I"⟩
abbrev cX10_fewest : ByteArray := prog_11_method_11_code
def yX10_fewest : MethodName := ⟨RX10, "fewest", "(III)I"⟩
abbrev cX10_first : ByteArray := prog_11_method_12_code
def yX10_first : MethodName := ⟨RX10, "first", "(III)I"⟩
abbrev cX10_build : ByteArray := prog_11_method_13_code
def yX10_build : MethodName := ⟨RX10, "build", "(III)I"⟩
abbrev cX10_span : ByteArray := prog_11_method_14_code
def yX10_span : MethodName := ⟨RX10, "span", "(IIII)I"⟩
abbrev cX10_add : ByteArray := prog_11_method_15_code
def yX10_add : MethodName := ⟨RX10, "add", "(I)I"⟩
abbrev cX10_setWind : ByteArray := prog_11_method_16_code
def yX10_setWind : MethodName := ⟨RX10, "setWind", "(II)I"⟩
abbrev cX10_platformTold : ByteArray := prog_11_method_17_code
def yX10_platformTold : MethodName := ⟨RX10, "platformTold", "(II)I"⟩
abbrev cX10_platform : ByteArray := prog_11_method_18_code
def yX10_platform : MethodName := ⟨RX10, "platform", "(II)I"⟩
abbrev cX10_lineTold : ByteArray := prog_11_method_19_code
def yX10_lineTold : MethodName := ⟨RX10, "lineTold", "(II)I"⟩
abbrev cX10_line : ByteArray := prog_11_method_20_code
def yX10_line : MethodName := ⟨RX10, "line", "(II)I"⟩
abbrev cX10_ride : ByteArray := prog_11_method_21_code
def yX10_ride : MethodName := ⟨RX10, "ride", "(II)I"⟩
abbrev cX10_come : ByteArray := prog_11_method_22_code
def yX10_come : MethodName := ⟨RX10, "come", "(IIII)I"⟩
abbrev cX10_riderTold : ByteArray := prog_11_method_23_code
def yX10_riderTold : MethodName := ⟨RX10, "riderTold", "(II)I"⟩
abbrev cX10_rider : ByteArray := prog_11_method_24_code
def yX10_rider : MethodName := ⟨RX10, "rider", "(II)I"⟩
abbrev cX10_queue : ByteArray := prog_11_method_25_code
def yX10_queue : MethodName := ⟨RX10, "queue", "(II)I"⟩
abbrev cX10_pass : ByteArray := prog_11_method_26_code
def yX10_pass : MethodName := ⟨RX10, "pass", "(I)I"⟩
abbrev cX10_counted : ByteArray := prog_11_method_27_code
def yX10_counted : MethodName := ⟨RX10, "counted", "(I)I"⟩
abbrev cX10_count : ByteArray := prog_11_method_28_code
def yX10_count : MethodName := ⟨RX10, "count", "(I)I"⟩
abbrev cX10_way : ByteArray := prog_11_method_29_code
def yX10_way : MethodName := ⟨RX10, "way", "(III)I"⟩
abbrev cX10_arrives : ByteArray := prog_11_method_30_code
def yX10_arrives : MethodName := ⟨RX10, "arrives", "(I)I"⟩
abbrev cX10_arrivedIn : ByteArray := prog_11_method_31_code
def yX10_arrivedIn : MethodName := ⟨RX10, "arrivedIn", "(I)I"⟩
abbrev cX10_advise : ByteArray := prog_11_method_32_code
def yX10_advise : MethodName := ⟨RX10, "advise", "(I)I"⟩
abbrev cX10_mean : ByteArray := prog_11_method_33_code
def yX10_mean : MethodName := ⟨RX10, "mean", "()D"⟩
abbrev cX10_digest : ByteArray := prog_11_method_34_code
def yX10_digest : MethodName := ⟨RX10, "digest", "()J"⟩
def RJ9 : String := "java/lang/Math"
def TJ9 : u_T := fun k => match k with
  | _ => ("", "", "", false)
def tyJ9 : Nat → FieldType := fun k => match k with
  | _ => .int
abbrev wsJ90 : List Cond := u_ws RJ9 TJ9 0
theorem nmJ9 : ∀ a, a < 0 → ∀ b, b < 0 → a ≠ b → (TJ9 a).2.1 ≠ (TJ9 b).2.1 := by decide +kernel
theorem tyJ9_ok : ∀ k, k < 0 → parseFieldDescriptor (TJ9 k).2.2.1 = some (tyJ9 k) := by decide +kernel
abbrev cJ9_floorMod_7cf53 : ByteArray := prog_17_method_50_code
def yJ9_floorMod_7cf53 : MethodName := ⟨RJ9, "floorMod", "(II)I"⟩
abbrev cJ9_abs_0f7a4 : ByteArray := prog_17_method_59_code
def yJ9_abs_0f7a4 : MethodName := ⟨RJ9, "abs", "(I)I"⟩
abbrev cJ9_max_7cf53 : ByteArray := prog_17_method_65_code
def yJ9_max_7cf53 : MethodName := ⟨RJ9, "max", "(II)I"⟩
def RJ0 : String := "java/lang/String"
def TJ0 : u_T := fun k => match k with
  | _ => ("", "", "", false)
def tyJ0 : Nat → FieldType := fun k => match k with
  | _ => .int
abbrev wsJ00 : List Cond := u_ws RJ0 TJ0 0
theorem nmJ0 : ∀ a, a < 0 → ∀ b, b < 0 → a ≠ b → (TJ0 a).2.1 ≠ (TJ0 b).2.1 := by decide +kernel
theorem tyJ0_ok : ∀ k, k < 0 → parseFieldDescriptor (TJ0 k).2.2.1 = some (tyJ0 k) := by decide +kernel
def RJ10 : String := "java/lang/System"
def TJ10 : u_T := fun k => match k with
  | _ => ("", "", "", false)
def tyJ10 : Nat → FieldType := fun k => match k with
  | _ => .int
abbrev wsJ100 : List Cond := u_ws RJ10 TJ10 0
theorem nmJ10 : ∀ a, a < 0 → ∀ b, b < 0 → a ≠ b → (TJ10 a).2.1 ≠ (TJ10 b).2.1 := by decide +kernel
theorem tyJ10_ok : ∀ k, k < 0 → parseFieldDescriptor (TJ10 k).2.2.1 = some (tyJ10 k) := by decide +kernel
def RL : String := "ZipCanopyLaw"
abbrev cL_build : ByteArray := method_3_code
def yL_build : MethodName := ⟨RL, "build", "(LZipCanopy;III[J)I"⟩
abbrev cL_span : ByteArray := method_4_code
def yL_span : MethodName := ⟨RL, "span", "(LZipCanopy;IIII[J)I"⟩
abbrev cL_add : ByteArray := method_5_code
def yL_add : MethodName := ⟨RL, "add", "(LZipCanopy;I[J)I"⟩
abbrev cL_setWind : ByteArray := method_6_code
def yL_setWind : MethodName := ⟨RL, "setWind", "(LZipCanopy;II[J)I"⟩
abbrev cL_platform : ByteArray := method_7_code
def yL_platform : MethodName := ⟨RL, "platform", "(LZipCanopy;II[J)I"⟩
abbrev cL_line : ByteArray := method_8_code
def yL_line : MethodName := ⟨RL, "line", "(LZipCanopy;II[J)I"⟩
abbrev cL_ride : ByteArray := method_9_code
def yL_ride : MethodName := ⟨RL, "ride", "(LZipCanopy;II[J)I"⟩
abbrev cL_come : ByteArray := method_10_code
def yL_come : MethodName := ⟨RL, "come", "(LZipCanopy;IIII[J)I"⟩
abbrev cL_rider : ByteArray := method_11_code
def yL_rider : MethodName := ⟨RL, "rider", "(LZipCanopy;II[J)I"⟩
abbrev cL_queue : ByteArray := method_12_code
def yL_queue : MethodName := ⟨RL, "queue", "(LZipCanopy;II[J)I"⟩
abbrev cL_pass : ByteArray := method_13_code
def yL_pass : MethodName := ⟨RL, "pass", "(LZipCanopy;I[J)I"⟩
abbrev cL_count : ByteArray := method_14_code
def yL_count : MethodName := ⟨RL, "count", "(LZipCanopy;I[J)I"⟩
abbrev cL_way : ByteArray := method_15_code
def yL_way : MethodName := ⟨RL, "way", "(LZipCanopy;III[J)I"⟩
abbrev cL_arrives : ByteArray := method_16_code
def yL_arrives : MethodName := ⟨RL, "arrives", "(LZipCanopy;I[J)I"⟩
abbrev cL_advise : ByteArray := method_17_code
def yL_advise : MethodName := ⟨RL, "advise", "(LZipCanopy;I[J)I"⟩
abbrev cL_law : ByteArray := code
def yL_law : MethodName := ⟨RL, "law", "([I)Z"⟩
abbrev vwCl : List vw_C := [(RX0, TX0, 7), (RX1, TX1, 5), (RX2, TX2, 3), (RX3, TX3, 4), (RX4, TX4, 2), (RX5, TX5, 6), (RX6, TX6, 6), (RX7, TX7, 6), (RX8, TX8, 4), (RX9, TX9, 15), (RX10, TX10, 16)]
end
section
/-! the words that every method of this claim is given: the good ones of the tables; the nest mates' words beside them -/
def zbig : List Cond := lw_tbl.filter goodWord
theorem zgood : ∀ w ∈ zbig, goodWord w = true := fun w h => (List.mem_filter.mp h).2
theorem zbig_in : ∀ w ∈ zbig, w ∈ lw_tbl := fun w h => (List.mem_filter.mp h).1
theorem zin {w : Cond} (i : Nat) (h : lw_tbl[i]? = some w) (hg : goodWord w = true) : w ∈ zbig := List.mem_filter.mpr ⟨List.mem_of_getElem? h, hg⟩
theorem zbig_good {ws : List Cond} (h : ∀ w ∈ ws, w ∈ zbig) : GoodIn zbig ws := fun w hw => ⟨h w hw, good_of_word (zgood w (h w hw))⟩
def zisN : Cond → Bool
  | .fieldLinkNest _ _ _ _ _ _ => true
  | .methodLinkNest _ _ _ _ => true
  | _ => false
def znl : List Cond := lw_tbl.filter zisN
theorem znin {w : Cond} (i : Nat) (h : lw_tbl[i]? = some w) (hg : zisN w = true) : w ∈ znl := List.mem_filter.mpr ⟨List.mem_of_getElem? h, hg⟩
theorem znl_moved {s U : State} (hW : s.WarmedH U.vm) (h : ∀ w ∈ znl, va_Nw w s) : ∀ w ∈ znl, va_Nw w U := by
  intro w hw
  have h1 := (List.mem_filter.mp hw).2
  have h2 := h w hw
  cases w <;> first | exact va_Nw.warmF hW h2 | exact va_Nw.warmM hW h2 | exact absurd h1 (by decide) | (simp [zisN] at h1)
theorem znl_same {u U : State} (hv : u.vm = U.vm) (h : ∀ w ∈ znl, va_Nw w u) : ∀ w ∈ znl, va_Nw w U := by
  intro w hw
  have h1 := (List.mem_filter.mp hw).2
  have h2 := h w hw
  cases w <;> first | exact va_Nw.same rfl hv h2 | (simp [zisN] at h1)
theorem znl_start {s : State} {args : Array Value} (h : ∀ w ∈ lw_tbl, w.before args s = true) : ∀ w ∈ znl, va_Nw w s := by
  intro w hw
  have h1 := (List.mem_filter.mp hw).2
  have h2 := h w (List.mem_filter.mp hw).1
  cases w <;> first | exact va_Nw.of rfl h2 | (simp [zisN] at h1)
/-! a field, by its link word: to be read, to be written (an int); the same over a nest mate's word -/
def zF (own : String) (index ci k : Nat) : Prop := ∃ (C : String) (T : u_T) (N : Nat), vwCl[ci]? = some (C, T, N) ∧ k < N ∧ (∀ w ∈ u_ws C T N, w ∈ zbig) ∧ Cond.fieldLink own index (T k).1 (T k).2.1 (T k).2.2.1 ∈ zbig
def zFN (own : String) (index ci k : Nat) : Prop := ∃ (C : String) (T : u_T) (N : Nat) (host : String), vwCl[ci]? = some (C, T, N) ∧ k < N ∧ (∀ w ∈ u_ws C T N, w ∈ zbig) ∧ Cond.fieldLinkNest own index (T k).1 (T k).2.1 (T k).2.2.1 host ∈ znl
def zFw (own : String) (index ci k : Nat) : Prop := ∃ (C : String) (T : u_T) (N : Nat) (ty : Nat → FieldType), vwCl[ci]? = some (C, T, N) ∧ k < N ∧ (∀ w ∈ u_ws C T N, w ∈ zbig) ∧ Cond.fieldLink own index (T k).1 (T k).2.1 (T k).2.2.1 ∈ zbig ∧ (∀ k, k < N → parseFieldDescriptor (T k).2.2.1 = some (ty k)) ∧ (∀ a, a < N → ∀ b, b < N → a ≠ b → (T a).2.1 ≠ (T b).2.1) ∧ (T k).2.2.2 = false ∧ parseFieldDescriptor (T k).2.2.1 = some .int
def zLV (own : String) (index : Nat) (y : MethodName) (bytes : ByteArray) (maxL : Nat) (ret : Option FieldType) (n : Nat) : Prop :=
  (∀ w ∈ ([.methodLink own index y, .instanceMethod y, .selects y.cls y y, .initialized y.cls, .code y bytes maxL ret] : List Cond), w ∈ zbig) ∧ y.cls ≠ "java/lang/invoke/MethodHandle" ∧ y.cls ≠ "java/lang/invoke/VarHandle" ∧ (parseMethodDescriptor y.desc).map (fun d => d.parameters.length) = some n
def zLVN (own : String) (index : Nat) (y : MethodName) (bytes : ByteArray) (maxL : Nat) (ret : Option FieldType) (n : Nat) : Prop :=
  (∃ host : String, Cond.methodLinkNest own index y host ∈ znl) ∧ (∀ w ∈ ([.instanceMethod y, .selects y.cls y y, .initialized y.cls, .code y bytes maxL ret] : List Cond), w ∈ zbig) ∧ y.cls ≠ "java/lang/invoke/MethodHandle" ∧ y.cls ≠ "java/lang/invoke/VarHandle" ∧ (parseMethodDescriptor y.desc).map (fun d => d.parameters.length) = some n
def zLS (own : String) (index : Nat) (y : MethodName) (bytes : ByteArray) (maxL : Nat) (ret : Option FieldType) (n : Nat) : Prop :=
  (∀ w ∈ ([.methodLink own index y, .static y, .initialized y.cls, .code y bytes maxL ret] : List Cond), w ∈ zbig) ∧ y.cls ≠ "java/lang/invoke/MethodHandle" ∧ y.cls ≠ "java/lang/invoke/VarHandle" ∧ (parseMethodDescriptor y.desc).map (fun d => d.parameters.length) = some n
def zLSN (own : String) (index : Nat) (y : MethodName) (bytes : ByteArray) (maxL : Nat) (ret : Option FieldType) (n : Nat) : Prop :=
  (∃ host : String, Cond.methodLinkNest own index y host ∈ znl) ∧ (∀ w ∈ ([.static y, .initialized y.cls, .code y bytes maxL ret] : List Cond), w ∈ zbig) ∧ y.cls ≠ "java/lang/invoke/MethodHandle" ∧ y.cls ≠ "java/lang/invoke/VarHandle" ∧ (parseMethodDescriptor y.desc).map (fun d => d.parameters.length) = some n
def zLI (own : String) (index : Nat) (y : MethodName) (bytes : ByteArray) (maxL : Nat) (n : Nat) : Prop :=
  (∀ w ∈ ([.methodLink own index y, .instanceMethod y, .initialized y.cls, .code y bytes maxL none] : List Cond), w ∈ zbig) ∧ y.name = "<init>" ∧ y.cls ≠ "java/lang/invoke/MethodHandle" ∧ y.cls ≠ "java/lang/invoke/VarHandle" ∧ (parseMethodDescriptor y.desc).map (fun d => d.parameters.length) = some n
def zLIN (own : String) (index : Nat) (y : MethodName) (bytes : ByteArray) (maxL : Nat) (n : Nat) : Prop :=
  (∃ host : String, Cond.methodLinkNest own index y host ∈ znl) ∧ (∀ w ∈ ([.instanceMethod y, .initialized y.cls, .code y bytes maxL none] : List Cond), w ∈ zbig) ∧ y.name = "<init>" ∧ y.cls ≠ "java/lang/invoke/MethodHandle" ∧ y.cls ≠ "java/lang/invoke/VarHandle" ∧ (parseMethodDescriptor y.desc).map (fun d => d.parameters.length) = some n
theorem zc1 {P : Cond → Prop} {a : Cond} {l : List Cond} (h : P a) (t : ∀ w ∈ l, P w) : ∀ w ∈ a :: l, P w := List.forall_mem_cons.mpr ⟨h, t⟩
theorem zc0 {P : Cond → Prop} : ∀ w ∈ ([] : List Cond), P w := fun _ h => absurd h List.not_mem_nil
theorem zwX0 : ∀ w ∈ u_ws RX0 TX0 7, w ∈ zbig := by
  show ∀ w ∈ [u_lay RX0 TX0 0, u_lay RX0 TX0 1, u_lay RX0 TX0 2, u_lay RX0 TX0 3, u_lay RX0 TX0 4, u_lay RX0 TX0 5, u_lay RX0 TX0 6], w ∈ zbig
  exact zc1 (zin 189 (by decide +kernel) rfl) (zc1 (zin 191 (by decide +kernel) rfl) (zc1 (zin 193 (by decide +kernel) rfl) (zc1 (zin 195 (by decide +kernel) rfl) (zc1 (zin 197 (by decide +kernel) rfl) (zc1 (zin 199 (by decide +kernel) rfl) (zc1 (zin 201 (by decide +kernel) rfl) zc0))))))
theorem zwX1 : ∀ w ∈ u_ws RX1 TX1 5, w ∈ zbig := by
  show ∀ w ∈ [u_lay RX1 TX1 0, u_lay RX1 TX1 1, u_lay RX1 TX1 2, u_lay RX1 TX1 3, u_lay RX1 TX1 4], w ∈ zbig
  exact zc1 (zin 116 (by decide +kernel) rfl) (zc1 (zin 118 (by decide +kernel) rfl) (zc1 (zin 120 (by decide +kernel) rfl) (zc1 (zin 122 (by decide +kernel) rfl) (zc1 (zin 124 (by decide +kernel) rfl) zc0))))
theorem zwX2 : ∀ w ∈ u_ws RX2 TX2 3, w ∈ zbig := by
  show ∀ w ∈ [u_lay RX2 TX2 0, u_lay RX2 TX2 1, u_lay RX2 TX2 2], w ∈ zbig
  exact zc1 (zin 87 (by decide +kernel) rfl) (zc1 (zin 89 (by decide +kernel) rfl) (zc1 (zin 91 (by decide +kernel) rfl) zc0))
theorem zwX3 : ∀ w ∈ u_ws RX3 TX3 4, w ∈ zbig := by
  show ∀ w ∈ [u_lay RX3 TX3 0, u_lay RX3 TX3 1, u_lay RX3 TX3 2, u_lay RX3 TX3 3], w ∈ zbig
  exact zc1 (zin 159 (by decide +kernel) rfl) (zc1 (zin 161 (by decide +kernel) rfl) (zc1 (zin 163 (by decide +kernel) rfl) (zc1 (zin 165 (by decide +kernel) rfl) zc0)))
theorem zwX4 : ∀ w ∈ u_ws RX4 TX4 2, w ∈ zbig := by
  show ∀ w ∈ [u_lay RX4 TX4 0, u_lay RX4 TX4 1], w ∈ zbig
  exact zc1 (zin 140 (by decide +kernel) rfl) (zc1 (zin 142 (by decide +kernel) rfl) zc0)
theorem zwX5 : ∀ w ∈ u_ws RX5 TX5 6, w ∈ zbig := by
  show ∀ w ∈ [u_lay RX5 TX5 0, u_lay RX5 TX5 1, u_lay RX5 TX5 2, u_lay RX5 TX5 3, u_lay RX5 TX5 4, u_lay RX5 TX5 5], w ∈ zbig
  exact zc1 (zin 289 (by decide +kernel) rfl) (zc1 (zin 291 (by decide +kernel) rfl) (zc1 (zin 293 (by decide +kernel) rfl) (zc1 (zin 295 (by decide +kernel) rfl) (zc1 (zin 297 (by decide +kernel) rfl) (zc1 (zin 299 (by decide +kernel) rfl) zc0)))))
theorem zwX6 : ∀ w ∈ u_ws RX6 TX6 6, w ∈ zbig := by
  show ∀ w ∈ [u_lay RX6 TX6 0, u_lay RX6 TX6 1, u_lay RX6 TX6 2, u_lay RX6 TX6 3, u_lay RX6 TX6 4, u_lay RX6 TX6 5], w ∈ zbig
  exact zc1 (zin 234 (by decide +kernel) rfl) (zc1 (zin 236 (by decide +kernel) rfl) (zc1 (zin 238 (by decide +kernel) rfl) (zc1 (zin 240 (by decide +kernel) rfl) (zc1 (zin 242 (by decide +kernel) rfl) (zc1 (zin 244 (by decide +kernel) rfl) zc0)))))
theorem zwX7 : ∀ w ∈ u_ws RX7 TX7 6, w ∈ zbig := by
  show ∀ w ∈ [u_lay RX7 TX7 0, u_lay RX7 TX7 1, u_lay RX7 TX7 2, u_lay RX7 TX7 3, u_lay RX7 TX7 4, u_lay RX7 TX7 5], w ∈ zbig
  exact zc1 (zin 267 (by decide +kernel) rfl) (zc1 (zin 269 (by decide +kernel) rfl) (zc1 (zin 271 (by decide +kernel) rfl) (zc1 (zin 273 (by decide +kernel) rfl) (zc1 (zin 275 (by decide +kernel) rfl) (zc1 (zin 277 (by decide +kernel) rfl) zc0)))))
theorem zwX8 : ∀ w ∈ u_ws RX8 TX8 4, w ∈ zbig := by
  show ∀ w ∈ [u_lay RX8 TX8 0, u_lay RX8 TX8 1, u_lay RX8 TX8 2, u_lay RX8 TX8 3], w ∈ zbig
  exact zc1 (zin 308 (by decide +kernel) rfl) (zc1 (zin 310 (by decide +kernel) rfl) (zc1 (zin 312 (by decide +kernel) rfl) (zc1 (zin 314 (by decide +kernel) rfl) zc0)))
theorem zwX9 : ∀ w ∈ u_ws RX9 TX9 15, w ∈ zbig := by
  show ∀ w ∈ [u_lay RX9 TX9 0, u_lay RX9 TX9 1, u_lay RX9 TX9 2, u_lay RX9 TX9 3, u_lay RX9 TX9 4, u_lay RX9 TX9 5, u_lay RX9 TX9 6, u_lay RX9 TX9 7, u_lay RX9 TX9 8, u_lay RX9 TX9 9, u_lay RX9 TX9 10, u_lay RX9 TX9 11, u_lay RX9 TX9 12, u_lay RX9 TX9 13, u_lay RX9 TX9 14], w ∈ zbig
  exact zc1 (zin 848 (by decide +kernel) rfl) (zc1 (zin 850 (by decide +kernel) rfl) (zc1 (zin 852 (by decide +kernel) rfl) (zc1 (zin 854 (by decide +kernel) rfl) (zc1 (zin 856 (by decide +kernel) rfl) (zc1 (zin 858 (by decide +kernel) rfl) (zc1 (zin 860 (by decide +kernel) rfl) (zc1 (zin 862 (by decide +kernel) rfl) (zc1 (zin 864 (by decide +kernel) rfl) (zc1 (zin 866 (by decide +kernel) rfl) (zc1 (zin 868 (by decide +kernel) rfl) (zc1 (zin 870 (by decide +kernel) rfl) (zc1 (zin 872 (by decide +kernel) rfl) (zc1 (zin 874 (by decide +kernel) rfl) (zc1 (zin 876 (by decide +kernel) rfl) zc0))))))))))))))
theorem zwX10 : ∀ w ∈ u_ws RX10 TX10 16, w ∈ zbig := by
  show ∀ w ∈ [u_lay RX10 TX10 0, u_lay RX10 TX10 1, u_lay RX10 TX10 2, u_lay RX10 TX10 3, u_lay RX10 TX10 4, u_lay RX10 TX10 5, u_lay RX10 TX10 6, u_lay RX10 TX10 7, u_lay RX10 TX10 8, u_lay RX10 TX10 9, u_lay RX10 TX10 10, u_lay RX10 TX10 11, u_lay RX10 TX10 12, u_lay RX10 TX10 13, u_lay RX10 TX10 14, u_lay RX10 TX10 15], w ∈ zbig
  exact zc1 (zin 902 (by decide +kernel) rfl) (zc1 (zin 904 (by decide +kernel) rfl) (zc1 (zin 906 (by decide +kernel) rfl) (zc1 (zin 908 (by decide +kernel) rfl) (zc1 (zin 910 (by decide +kernel) rfl) (zc1 (zin 912 (by decide +kernel) rfl) (zc1 (zin 914 (by decide +kernel) rfl) (zc1 (zin 916 (by decide +kernel) rfl) (zc1 (zin 918 (by decide +kernel) rfl) (zc1 (zin 920 (by decide +kernel) rfl) (zc1 (zin 922 (by decide +kernel) rfl) (zc1 (zin 924 (by decide +kernel) rfl) (zc1 (zin 926 (by decide +kernel) rfl) (zc1 (zin 928 (by decide +kernel) rfl) (zc1 (zin 930 (by decide +kernel) rfl) (zc1 (zin 932 (by decide +kernel) rfl) zc0)))))))))))))))
theorem zfX8_10 : zF RX8 10 8 0 := ⟨_, _, _, rfl, by decide, zwX8, zin 304 (by decide +kernel) rfl⟩
theorem zfX8_21 : zF RX8 21 8 1 := ⟨_, _, _, rfl, by decide, zwX8, zin 305 (by decide +kernel) rfl⟩
theorem zfX8_25 : zF RX8 25 8 2 := ⟨_, _, _, rfl, by decide, zwX8, zin 306 (by decide +kernel) rfl⟩
theorem zfX8_31 : zF RX8 31 8 3 := ⟨_, _, _, rfl, by decide, zwX8, zin 307 (by decide +kernel) rfl⟩
theorem zfX8_50 : zF RX8 50 0 4 := ⟨_, _, _, rfl, by decide, zwX0, zin 181 (by decide +kernel) rfl⟩
theorem zgX8_50 : zFw RX8 50 0 4 := ⟨_, _, _, tyX0, rfl, by decide, zwX0, zin 181 (by decide +kernel) rfl, tyX0_ok, nmX0, rfl, by decide +kernel⟩
theorem zfX8_77 : zF RX8 77 0 5 := ⟨_, _, _, rfl, by decide, zwX0, zin 184 (by decide +kernel) rfl⟩
theorem zgX8_77 : zFw RX8 77 0 5 := ⟨_, _, _, tyX0, rfl, by decide, zwX0, zin 184 (by decide +kernel) rfl, tyX0_ok, nmX0, rfl, by decide +kernel⟩
theorem zfX8_94 : zF RX8 94 5 2 := ⟨_, _, _, rfl, by decide, zwX5, zin 284 (by decide +kernel) rfl⟩
theorem zfX8_110 : zF RX8 110 0 3 := ⟨_, _, _, rfl, by decide, zwX0, zin 178 (by decide +kernel) rfl⟩
theorem zfX8_130 : zF RX8 130 0 1 := ⟨_, _, _, rfl, by decide, zwX0, zin 173 (by decide +kernel) rfl⟩
theorem zfX8_150 : zF RX8 150 0 6 := ⟨_, _, _, rfl, by decide, zwX0, zin 188 (by decide +kernel) rfl⟩
theorem zgX8_150 : zFw RX8 150 0 6 := ⟨_, _, _, tyX0, rfl, by decide, zwX0, zin 188 (by decide +kernel) rfl, tyX0_ok, nmX0, rfl, by decide +kernel⟩
theorem zfX8_200 : zF RX8 200 5 1 := ⟨_, _, _, rfl, by decide, zwX5, zin 282 (by decide +kernel) rfl⟩
theorem zfX8_213 : zF RX8 213 6 5 := ⟨_, _, _, rfl, by decide, zwX6, zin 233 (by decide +kernel) rfl⟩
theorem zgX8_213 : zFw RX8 213 6 5 := ⟨_, _, _, tyX6, rfl, by decide, zwX6, zin 233 (by decide +kernel) rfl, tyX6_ok, nmX6, rfl, by decide +kernel⟩
theorem zfX8_221 : zF RX8 221 6 0 := ⟨_, _, _, rfl, by decide, zwX6, zin 221 (by decide +kernel) rfl⟩
theorem zgX8_221 : zFw RX8 221 6 0 := ⟨_, _, _, tyX6, rfl, by decide, zwX6, zin 221 (by decide +kernel) rfl, tyX6_ok, nmX6, rfl, by decide +kernel⟩
theorem zfX8_232 : zF RX8 232 0 0 := ⟨_, _, _, rfl, by decide, zwX0, zin 169 (by decide +kernel) rfl⟩
theorem zfX8_236 : zF RX8 236 2 0 := ⟨_, _, _, rfl, by decide, zwX2, zin 81 (by decide +kernel) rfl⟩
theorem zgX8_236 : zFw RX8 236 2 0 := ⟨_, _, _, tyX2, rfl, by decide, zwX2, zin 81 (by decide +kernel) rfl, tyX2_ok, nmX2, rfl, by decide +kernel⟩
theorem zfX8_241 : zF RX8 241 2 1 := ⟨_, _, _, rfl, by decide, zwX2, zin 84 (by decide +kernel) rfl⟩
theorem zgX8_241 : zFw RX8 241 2 1 := ⟨_, _, _, tyX2, rfl, by decide, zwX2, zin 84 (by decide +kernel) rfl, tyX2_ok, nmX2, rfl, by decide +kernel⟩
theorem zfX8_244 : zF RX8 244 2 2 := ⟨_, _, _, rfl, by decide, zwX2, zin 86 (by decide +kernel) rfl⟩
theorem zgX8_244 : zFw RX8 244 2 2 := ⟨_, _, _, tyX2, rfl, by decide, zwX2, zin 86 (by decide +kernel) rfl, tyX2_ok, nmX2, rfl, by decide +kernel⟩
theorem zfX8_256 : zF RX8 256 1 0 := ⟨_, _, _, rfl, by decide, zwX1, zin 102 (by decide +kernel) rfl⟩
theorem zgX8_256 : zFw RX8 256 1 0 := ⟨_, _, _, tyX1, rfl, by decide, zwX1, zin 102 (by decide +kernel) rfl, tyX1_ok, nmX1, rfl, by decide +kernel⟩
theorem zfX8_259 : zF RX8 259 1 1 := ⟨_, _, _, rfl, by decide, zwX1, zin 106 (by decide +kernel) rfl⟩
theorem zgX8_259 : zFw RX8 259 1 1 := ⟨_, _, _, tyX1, rfl, by decide, zwX1, zin 106 (by decide +kernel) rfl, tyX1_ok, nmX1, rfl, by decide +kernel⟩
theorem zfX8_262 : zF RX8 262 1 2 := ⟨_, _, _, rfl, by decide, zwX1, zin 109 (by decide +kernel) rfl⟩
theorem zgX8_262 : zFw RX8 262 1 2 := ⟨_, _, _, tyX1, rfl, by decide, zwX1, zin 109 (by decide +kernel) rfl, tyX1_ok, nmX1, rfl, by decide +kernel⟩
theorem zfX8_265 : zF RX8 265 1 3 := ⟨_, _, _, rfl, by decide, zwX1, zin 112 (by decide +kernel) rfl⟩
theorem zgX8_265 : zFw RX8 265 1 3 := ⟨_, _, _, tyX1, rfl, by decide, zwX1, zin 112 (by decide +kernel) rfl, tyX1_ok, nmX1, rfl, by decide +kernel⟩
theorem zfX8_268 : zF RX8 268 1 4 := ⟨_, _, _, rfl, by decide, zwX1, zin 115 (by decide +kernel) rfl⟩
theorem zgX8_268 : zFw RX8 268 1 4 := ⟨_, _, _, tyX1, rfl, by decide, zwX1, zin 115 (by decide +kernel) rfl, tyX1_ok, nmX1, rfl, by decide +kernel⟩
theorem zfX8_271 : zF RX8 271 7 0 := ⟨_, _, _, rfl, by decide, zwX7, zin 254 (by decide +kernel) rfl⟩
theorem zgX8_271 : zFw RX8 271 7 0 := ⟨_, _, _, tyX7, rfl, by decide, zwX7, zin 254 (by decide +kernel) rfl, tyX7_ok, nmX7, rfl, by decide +kernel⟩
theorem zfX8_277 : zF RX8 277 7 4 := ⟨_, _, _, rfl, by decide, zwX7, zin 263 (by decide +kernel) rfl⟩
theorem zgX8_277 : zFw RX8 277 7 4 := ⟨_, _, _, tyX7, rfl, by decide, zwX7, zin 263 (by decide +kernel) rfl, tyX7_ok, nmX7, rfl, by decide +kernel⟩
theorem zfX8_280 : zF RX8 280 7 5 := ⟨_, _, _, rfl, by decide, zwX7, zin 266 (by decide +kernel) rfl⟩
theorem zgX8_280 : zFw RX8 280 7 5 := ⟨_, _, _, tyX7, rfl, by decide, zwX7, zin 266 (by decide +kernel) rfl, tyX7_ok, nmX7, rfl, by decide +kernel⟩
theorem zfX8_283 : zF RX8 283 5 5 := ⟨_, _, _, rfl, by decide, zwX5, zin 288 (by decide +kernel) rfl⟩
theorem zgX8_283 : zFw RX8 283 5 5 := ⟨_, _, _, tyX5, rfl, by decide, zwX5, zin 288 (by decide +kernel) rfl, tyX5_ok, nmX5, rfl, by decide +kernel⟩
theorem zfX8_290 : zF RX8 290 0 2 := ⟨_, _, _, rfl, by decide, zwX0, zin 176 (by decide +kernel) rfl⟩
theorem zfX8_294 : zF RX8 294 3 2 := ⟨_, _, _, rfl, by decide, zwX3, zin 155 (by decide +kernel) rfl⟩
theorem zgX8_294 : zFw RX8 294 3 2 := ⟨_, _, _, tyX3, rfl, by decide, zwX3, zin 155 (by decide +kernel) rfl, tyX3_ok, nmX3, rfl, by decide +kernel⟩
theorem zfX8_299 : zF RX8 299 3 3 := ⟨_, _, _, rfl, by decide, zwX3, zin 158 (by decide +kernel) rfl⟩
theorem zgX8_299 : zFw RX8 299 3 3 := ⟨_, _, _, tyX3, rfl, by decide, zwX3, zin 158 (by decide +kernel) rfl, tyX3_ok, nmX3, rfl, by decide +kernel⟩
theorem zfX8_302 : zF RX8 302 3 1 := ⟨_, _, _, rfl, by decide, zwX3, zin 151 (by decide +kernel) rfl⟩
theorem zgX8_302 : zFw RX8 302 3 1 := ⟨_, _, _, tyX3, rfl, by decide, zwX3, zin 151 (by decide +kernel) rfl, tyX3_ok, nmX3, rfl, by decide +kernel⟩
theorem zfX8_305 : zF RX8 305 6 1 := ⟨_, _, _, rfl, by decide, zwX6, zin 224 (by decide +kernel) rfl⟩
theorem zgX8_305 : zFw RX8 305 6 1 := ⟨_, _, _, tyX6, rfl, by decide, zwX6, zin 224 (by decide +kernel) rfl, tyX6_ok, nmX6, rfl, by decide +kernel⟩
theorem zfX8_308 : zF RX8 308 6 2 := ⟨_, _, _, rfl, by decide, zwX6, zin 226 (by decide +kernel) rfl⟩
theorem zgX8_308 : zFw RX8 308 6 2 := ⟨_, _, _, tyX6, rfl, by decide, zwX6, zin 226 (by decide +kernel) rfl, tyX6_ok, nmX6, rfl, by decide +kernel⟩
theorem zfX8_311 : zF RX8 311 6 3 := ⟨_, _, _, rfl, by decide, zwX6, zin 229 (by decide +kernel) rfl⟩
theorem zgX8_311 : zFw RX8 311 6 3 := ⟨_, _, _, tyX6, rfl, by decide, zwX6, zin 229 (by decide +kernel) rfl, tyX6_ok, nmX6, rfl, by decide +kernel⟩
theorem zfX8_314 : zF RX8 314 3 0 := ⟨_, _, _, rfl, by decide, zwX3, zin 147 (by decide +kernel) rfl⟩
theorem zfX8_325 : zF RX8 325 6 4 := ⟨_, _, _, rfl, by decide, zwX6, zin 231 (by decide +kernel) rfl⟩
theorem zgX8_325 : zFw RX8 325 6 4 := ⟨_, _, _, tyX6, rfl, by decide, zwX6, zin 231 (by decide +kernel) rfl, tyX6_ok, nmX6, rfl, by decide +kernel⟩
theorem zfX0_11 : zF RX0 11 0 0 := ⟨_, _, _, rfl, by decide, zwX0, zin 168 (by decide +kernel) rfl⟩
theorem zfX0_19 : zF RX0 19 0 1 := ⟨_, _, _, rfl, by decide, zwX0, zin 170 (by decide +kernel) rfl⟩
theorem zfX0_25 : zF RX0 25 0 2 := ⟨_, _, _, rfl, by decide, zwX0, zin 174 (by decide +kernel) rfl⟩
theorem zfX0_29 : zF RX0 29 0 3 := ⟨_, _, _, rfl, by decide, zwX0, zin 177 (by decide +kernel) rfl⟩
theorem zfX0_36 : zF RX0 36 0 4 := ⟨_, _, _, rfl, by decide, zwX0, zin 179 (by decide +kernel) rfl⟩
theorem zgX0_36 : zFw RX0 36 0 4 := ⟨_, _, _, tyX0, rfl, by decide, zwX0, zin 179 (by decide +kernel) rfl, tyX0_ok, nmX0, rfl, by decide +kernel⟩
theorem zfX0_40 : zF RX0 40 2 0 := ⟨_, _, _, rfl, by decide, zwX2, zin 80 (by decide +kernel) rfl⟩
theorem zgX0_40 : zFw RX0 40 2 0 := ⟨_, _, _, tyX2, rfl, by decide, zwX2, zin 80 (by decide +kernel) rfl, tyX2_ok, nmX2, rfl, by decide +kernel⟩
theorem zfX0_43 : zF RX0 43 2 1 := ⟨_, _, _, rfl, by decide, zwX2, zin 83 (by decide +kernel) rfl⟩
theorem zgX0_43 : zFw RX0 43 2 1 := ⟨_, _, _, tyX2, rfl, by decide, zwX2, zin 83 (by decide +kernel) rfl, tyX2_ok, nmX2, rfl, by decide +kernel⟩
theorem zfX0_46 : zF RX0 46 2 2 := ⟨_, _, _, rfl, by decide, zwX2, zin 85 (by decide +kernel) rfl⟩
theorem zgX0_46 : zFw RX0 46 2 2 := ⟨_, _, _, tyX2, rfl, by decide, zwX2, zin 85 (by decide +kernel) rfl, tyX2_ok, nmX2, rfl, by decide +kernel⟩
theorem zfX0_49 : zF RX0 49 0 5 := ⟨_, _, _, rfl, by decide, zwX0, zin 185 (by decide +kernel) rfl⟩
theorem zgX0_49 : zFw RX0 49 0 5 := ⟨_, _, _, tyX0, rfl, by decide, zwX0, zin 185 (by decide +kernel) rfl, tyX0_ok, nmX0, rfl, by decide +kernel⟩
theorem zfX0_52 : zF RX0 52 1 0 := ⟨_, _, _, rfl, by decide, zwX1, zin 101 (by decide +kernel) rfl⟩
theorem zgX0_52 : zFw RX0 52 1 0 := ⟨_, _, _, tyX1, rfl, by decide, zwX1, zin 101 (by decide +kernel) rfl, tyX1_ok, nmX1, rfl, by decide +kernel⟩
theorem zfX0_55 : zF RX0 55 1 1 := ⟨_, _, _, rfl, by decide, zwX1, zin 104 (by decide +kernel) rfl⟩
theorem zgX0_55 : zFw RX0 55 1 1 := ⟨_, _, _, tyX1, rfl, by decide, zwX1, zin 104 (by decide +kernel) rfl, tyX1_ok, nmX1, rfl, by decide +kernel⟩
theorem zfX0_58 : zF RX0 58 1 2 := ⟨_, _, _, rfl, by decide, zwX1, zin 108 (by decide +kernel) rfl⟩
theorem zgX0_58 : zFw RX0 58 1 2 := ⟨_, _, _, tyX1, rfl, by decide, zwX1, zin 108 (by decide +kernel) rfl, tyX1_ok, nmX1, rfl, by decide +kernel⟩
theorem zfX0_65 : zF RX0 65 1 3 := ⟨_, _, _, rfl, by decide, zwX1, zin 111 (by decide +kernel) rfl⟩
theorem zgX0_65 : zFw RX0 65 1 3 := ⟨_, _, _, tyX1, rfl, by decide, zwX1, zin 111 (by decide +kernel) rfl, tyX1_ok, nmX1, rfl, by decide +kernel⟩
theorem zfX0_68 : zF RX0 68 1 4 := ⟨_, _, _, rfl, by decide, zwX1, zin 114 (by decide +kernel) rfl⟩
theorem zgX0_68 : zFw RX0 68 1 4 := ⟨_, _, _, tyX1, rfl, by decide, zwX1, zin 114 (by decide +kernel) rfl, tyX1_ok, nmX1, rfl, by decide +kernel⟩
theorem zfX0_71 : zF RX0 71 0 6 := ⟨_, _, _, rfl, by decide, zwX0, zin 187 (by decide +kernel) rfl⟩
theorem zgX0_71 : zFw RX0 71 0 6 := ⟨_, _, _, tyX0, rfl, by decide, zwX0, zin 187 (by decide +kernel) rfl, tyX0_ok, nmX0, rfl, by decide +kernel⟩
theorem zfX0_78 : zF RX0 78 3 1 := ⟨_, _, _, rfl, by decide, zwX3, zin 150 (by decide +kernel) rfl⟩
theorem zgX0_78 : zFw RX0 78 3 1 := ⟨_, _, _, tyX3, rfl, by decide, zwX3, zin 150 (by decide +kernel) rfl, tyX3_ok, nmX3, rfl, by decide +kernel⟩
theorem zfX0_81 : zF RX0 81 3 2 := ⟨_, _, _, rfl, by decide, zwX3, zin 153 (by decide +kernel) rfl⟩
theorem zgX0_81 : zFw RX0 81 3 2 := ⟨_, _, _, tyX3, rfl, by decide, zwX3, zin 153 (by decide +kernel) rfl, tyX3_ok, nmX3, rfl, by decide +kernel⟩
theorem zfX0_84 : zF RX0 84 3 3 := ⟨_, _, _, rfl, by decide, zwX3, zin 156 (by decide +kernel) rfl⟩
theorem zgX0_84 : zFw RX0 84 3 3 := ⟨_, _, _, tyX3, rfl, by decide, zwX3, zin 156 (by decide +kernel) rfl, tyX3_ok, nmX3, rfl, by decide +kernel⟩
theorem zfX1_7 : zF RX1 7 1 2 := ⟨_, _, _, rfl, by decide, zwX1, zin 107 (by decide +kernel) rfl⟩
theorem zgX1_7 : zFw RX1 7 1 2 := ⟨_, _, _, tyX1, rfl, by decide, zwX1, zin 107 (by decide +kernel) rfl, tyX1_ok, nmX1, rfl, by decide +kernel⟩
theorem zfX1_13 : zF RX1 13 1 4 := ⟨_, _, _, rfl, by decide, zwX1, zin 113 (by decide +kernel) rfl⟩
theorem zgX1_13 : zFw RX1 13 1 4 := ⟨_, _, _, tyX1, rfl, by decide, zwX1, zin 113 (by decide +kernel) rfl, tyX1_ok, nmX1, rfl, by decide +kernel⟩
theorem zfX1_16 : zF RX1 16 1 3 := ⟨_, _, _, rfl, by decide, zwX1, zin 110 (by decide +kernel) rfl⟩
theorem zgX1_16 : zFw RX1 16 1 3 := ⟨_, _, _, tyX1, rfl, by decide, zwX1, zin 110 (by decide +kernel) rfl, tyX1_ok, nmX1, rfl, by decide +kernel⟩
theorem zfX2_7 : zF RX2 7 2 0 := ⟨_, _, _, rfl, by decide, zwX2, zin 79 (by decide +kernel) rfl⟩
theorem zgX2_7 : zFw RX2 7 2 0 := ⟨_, _, _, tyX2, rfl, by decide, zwX2, zin 79 (by decide +kernel) rfl, tyX2_ok, nmX2, rfl, by decide +kernel⟩
theorem zfX2_19 : zF RX2 19 2 1 := ⟨_, _, _, rfl, by decide, zwX2, zin 82 (by decide +kernel) rfl⟩
theorem zgX2_19 : zFw RX2 19 2 1 := ⟨_, _, _, tyX2, rfl, by decide, zwX2, zin 82 (by decide +kernel) rfl, tyX2_ok, nmX2, rfl, by decide +kernel⟩
theorem zfX3_10 : zF RX3 10 3 0 := ⟨_, _, _, rfl, by decide, zwX3, zin 145 (by decide +kernel) rfl⟩
theorem zfX3_16 : zF RX3 16 3 1 := ⟨_, _, _, rfl, by decide, zwX3, zin 148 (by decide +kernel) rfl⟩
theorem zgX3_16 : zFw RX3 16 3 1 := ⟨_, _, _, tyX3, rfl, by decide, zwX3, zin 148 (by decide +kernel) rfl, tyX3_ok, nmX3, rfl, by decide +kernel⟩
theorem zfX3_20 : zF RX3 20 3 2 := ⟨_, _, _, rfl, by decide, zwX3, zin 152 (by decide +kernel) rfl⟩
theorem zgX3_20 : zFw RX3 20 3 2 := ⟨_, _, _, tyX3, rfl, by decide, zwX3, zin 152 (by decide +kernel) rfl, tyX3_ok, nmX3, rfl, by decide +kernel⟩
theorem zfX4_9 : zF RX4 9 4 0 := ⟨_, _, _, rfl, by decide, zwX4, zin 138 (by decide +kernel) rfl⟩
theorem zfX4_15 : zF RX4 15 4 1 := ⟨_, _, _, rfl, by decide, zwX4, zin 139 (by decide +kernel) rfl⟩
theorem zfX4_18 : zF RX4 18 0 4 := ⟨_, _, _, rfl, by decide, zwX0, zin 180 (by decide +kernel) rfl⟩
theorem zgX4_18 : zFw RX4 18 0 4 := ⟨_, _, _, tyX0, rfl, by decide, zwX0, zin 180 (by decide +kernel) rfl, tyX0_ok, nmX0, rfl, by decide +kernel⟩
theorem zfX4_24 : zF RX4 24 0 5 := ⟨_, _, _, rfl, by decide, zwX0, zin 183 (by decide +kernel) rfl⟩
theorem zgX4_24 : zFw RX4 24 0 5 := ⟨_, _, _, tyX0, rfl, by decide, zwX0, zin 183 (by decide +kernel) rfl, tyX0_ok, nmX0, rfl, by decide +kernel⟩
theorem zfX4_27 : zF RX4 27 0 1 := ⟨_, _, _, rfl, by decide, zwX0, zin 171 (by decide +kernel) rfl⟩
theorem zfX4_34 : zF RX4 34 1 0 := ⟨_, _, _, rfl, by decide, zwX1, zin 100 (by decide +kernel) rfl⟩
theorem zgX4_34 : zFw RX4 34 1 0 := ⟨_, _, _, tyX1, rfl, by decide, zwX1, zin 100 (by decide +kernel) rfl, tyX1_ok, nmX1, rfl, by decide +kernel⟩
theorem zfX4_47 : zF RX4 47 1 1 := ⟨_, _, _, rfl, by decide, zwX1, zin 103 (by decide +kernel) rfl⟩
theorem zgX4_47 : zFw RX4 47 1 1 := ⟨_, _, _, tyX1, rfl, by decide, zwX1, zin 103 (by decide +kernel) rfl, tyX1_ok, nmX1, rfl, by decide +kernel⟩
theorem zfX5_11 : zF RX5 11 5 1 := ⟨_, _, _, rfl, by decide, zwX5, zin 281 (by decide +kernel) rfl⟩
theorem zfX5_19 : zF RX5 19 5 2 := ⟨_, _, _, rfl, by decide, zwX5, zin 283 (by decide +kernel) rfl⟩
theorem zfX5_23 : zF RX5 23 5 3 := ⟨_, _, _, rfl, by decide, zwX5, zin 285 (by decide +kernel) rfl⟩
theorem zfX5_27 : zF RX5 27 5 0 := ⟨_, _, _, rfl, by decide, zwX5, zin 280 (by decide +kernel) rfl⟩
theorem zfX5_33 : zF RX5 33 0 6 := ⟨_, _, _, rfl, by decide, zwX0, zin 186 (by decide +kernel) rfl⟩
theorem zgX5_33 : zFw RX5 33 0 6 := ⟨_, _, _, tyX0, rfl, by decide, zwX0, zin 186 (by decide +kernel) rfl, tyX0_ok, nmX0, rfl, by decide +kernel⟩
theorem zfX5_43 : zF RX5 43 0 5 := ⟨_, _, _, rfl, by decide, zwX0, zin 182 (by decide +kernel) rfl⟩
theorem zgX5_43 : zFw RX5 43 0 5 := ⟨_, _, _, tyX0, rfl, by decide, zwX0, zin 182 (by decide +kernel) rfl, tyX0_ok, nmX0, rfl, by decide +kernel⟩
theorem zfX5_49 : zF RX5 49 5 4 := ⟨_, _, _, rfl, by decide, zwX5, zin 286 (by decide +kernel) rfl⟩
theorem zgX5_49 : zFw RX5 49 5 4 := ⟨_, _, _, tyX5, rfl, by decide, zwX5, zin 286 (by decide +kernel) rfl, tyX5_ok, nmX5, rfl, by decide +kernel⟩
theorem zfX5_52 : zF RX5 52 5 5 := ⟨_, _, _, rfl, by decide, zwX5, zin 287 (by decide +kernel) rfl⟩
theorem zgX5_52 : zFw RX5 52 5 5 := ⟨_, _, _, tyX5, rfl, by decide, zwX5, zin 287 (by decide +kernel) rfl, tyX5_ok, nmX5, rfl, by decide +kernel⟩
theorem zfX5_55 : zF RX5 55 7 0 := ⟨_, _, _, rfl, by decide, zwX7, zin 253 (by decide +kernel) rfl⟩
theorem zgX5_55 : zFw RX5 55 7 0 := ⟨_, _, _, tyX7, rfl, by decide, zwX7, zin 253 (by decide +kernel) rfl, tyX7_ok, nmX7, rfl, by decide +kernel⟩
theorem zfX5_58 : zF RX5 58 0 2 := ⟨_, _, _, rfl, by decide, zwX0, zin 175 (by decide +kernel) rfl⟩
theorem zfX5_62 : zF RX5 62 3 1 := ⟨_, _, _, rfl, by decide, zwX3, zin 149 (by decide +kernel) rfl⟩
theorem zgX5_62 : zFw RX5 62 3 1 := ⟨_, _, _, tyX3, rfl, by decide, zwX3, zin 149 (by decide +kernel) rfl, tyX3_ok, nmX3, rfl, by decide +kernel⟩
theorem zfX5_82 : zF RX5 82 0 1 := ⟨_, _, _, rfl, by decide, zwX0, zin 172 (by decide +kernel) rfl⟩
theorem zfX5_101 : zF RX5 101 7 1 := ⟨_, _, _, rfl, by decide, zwX7, zin 256 (by decide +kernel) rfl⟩
theorem zgX5_101 : zFw RX5 101 7 1 := ⟨_, _, _, tyX7, rfl, by decide, zwX7, zin 256 (by decide +kernel) rfl, tyX7_ok, nmX7, rfl, by decide +kernel⟩
theorem zfX5_104 : zF RX5 104 7 3 := ⟨_, _, _, rfl, by decide, zwX7, zin 260 (by decide +kernel) rfl⟩
theorem zfX5_107 : zF RX5 107 7 2 := ⟨_, _, _, rfl, by decide, zwX7, zin 258 (by decide +kernel) rfl⟩
theorem zfX5_109 : zF RX5 109 6 3 := ⟨_, _, _, rfl, by decide, zwX6, zin 228 (by decide +kernel) rfl⟩
theorem zgX5_109 : zFw RX5 109 6 3 := ⟨_, _, _, tyX6, rfl, by decide, zwX6, zin 228 (by decide +kernel) rfl, tyX6_ok, nmX6, rfl, by decide +kernel⟩
theorem zfX5_121 : zF RX5 121 1 1 := ⟨_, _, _, rfl, by decide, zwX1, zin 105 (by decide +kernel) rfl⟩
theorem zgX5_121 : zFw RX5 121 1 1 := ⟨_, _, _, tyX1, rfl, by decide, zwX1, zin 105 (by decide +kernel) rfl, tyX1_ok, nmX1, rfl, by decide +kernel⟩
theorem zfX5_137 : zF RX5 137 3 2 := ⟨_, _, _, rfl, by decide, zwX3, zin 154 (by decide +kernel) rfl⟩
theorem zgX5_137 : zFw RX5 137 3 2 := ⟨_, _, _, tyX3, rfl, by decide, zwX3, zin 154 (by decide +kernel) rfl, tyX3_ok, nmX3, rfl, by decide +kernel⟩
theorem zfX5_151 : zF RX5 151 7 5 := ⟨_, _, _, rfl, by decide, zwX7, zin 265 (by decide +kernel) rfl⟩
theorem zgX5_151 : zFw RX5 151 7 5 := ⟨_, _, _, tyX7, rfl, by decide, zwX7, zin 265 (by decide +kernel) rfl, tyX7_ok, nmX7, rfl, by decide +kernel⟩
theorem zfX5_158 : zF RX5 158 3 0 := ⟨_, _, _, rfl, by decide, zwX3, zin 146 (by decide +kernel) rfl⟩
theorem zfX5_162 : zF RX5 162 6 1 := ⟨_, _, _, rfl, by decide, zwX6, zin 223 (by decide +kernel) rfl⟩
theorem zgX5_162 : zFw RX5 162 6 1 := ⟨_, _, _, tyX6, rfl, by decide, zwX6, zin 223 (by decide +kernel) rfl, tyX6_ok, nmX6, rfl, by decide +kernel⟩
theorem zfX5_180 : zF RX5 180 3 3 := ⟨_, _, _, rfl, by decide, zwX3, zin 157 (by decide +kernel) rfl⟩
theorem zgX5_180 : zFw RX5 180 3 3 := ⟨_, _, _, tyX3, rfl, by decide, zwX3, zin 157 (by decide +kernel) rfl, tyX3_ok, nmX3, rfl, by decide +kernel⟩
theorem zfX5_183 : zF RX5 183 6 0 := ⟨_, _, _, rfl, by decide, zwX6, zin 220 (by decide +kernel) rfl⟩
theorem zgX5_183 : zFw RX5 183 6 0 := ⟨_, _, _, tyX6, rfl, by decide, zwX6, zin 220 (by decide +kernel) rfl, tyX6_ok, nmX6, rfl, by decide +kernel⟩
theorem zfX5_189 : zF RX5 189 7 4 := ⟨_, _, _, rfl, by decide, zwX7, zin 262 (by decide +kernel) rfl⟩
theorem zgX5_189 : zFw RX5 189 7 4 := ⟨_, _, _, tyX7, rfl, by decide, zwX7, zin 262 (by decide +kernel) rfl, tyX7_ok, nmX7, rfl, by decide +kernel⟩
theorem zfX6_9 : zF RX6 9 6 5 := ⟨_, _, _, rfl, by decide, zwX6, zin 232 (by decide +kernel) rfl⟩
theorem zgX6_9 : zFw RX6 9 6 5 := ⟨_, _, _, tyX6, rfl, by decide, zwX6, zin 232 (by decide +kernel) rfl, tyX6_ok, nmX6, rfl, by decide +kernel⟩
theorem zfX6_15 : zF RX6 15 6 0 := ⟨_, _, _, rfl, by decide, zwX6, zin 219 (by decide +kernel) rfl⟩
theorem zgX6_15 : zFw RX6 15 6 0 := ⟨_, _, _, tyX6, rfl, by decide, zwX6, zin 219 (by decide +kernel) rfl, tyX6_ok, nmX6, rfl, by decide +kernel⟩
theorem zfX6_18 : zF RX6 18 6 1 := ⟨_, _, _, rfl, by decide, zwX6, zin 222 (by decide +kernel) rfl⟩
theorem zgX6_18 : zFw RX6 18 6 1 := ⟨_, _, _, tyX6, rfl, by decide, zwX6, zin 222 (by decide +kernel) rfl, tyX6_ok, nmX6, rfl, by decide +kernel⟩
theorem zfX6_21 : zF RX6 21 6 2 := ⟨_, _, _, rfl, by decide, zwX6, zin 225 (by decide +kernel) rfl⟩
theorem zgX6_21 : zFw RX6 21 6 2 := ⟨_, _, _, tyX6, rfl, by decide, zwX6, zin 225 (by decide +kernel) rfl, tyX6_ok, nmX6, rfl, by decide +kernel⟩
theorem zfX6_24 : zF RX6 24 6 3 := ⟨_, _, _, rfl, by decide, zwX6, zin 227 (by decide +kernel) rfl⟩
theorem zgX6_24 : zFw RX6 24 6 3 := ⟨_, _, _, tyX6, rfl, by decide, zwX6, zin 227 (by decide +kernel) rfl, tyX6_ok, nmX6, rfl, by decide +kernel⟩
theorem zfX6_27 : zF RX6 27 6 4 := ⟨_, _, _, rfl, by decide, zwX6, zin 230 (by decide +kernel) rfl⟩
theorem zgX6_27 : zFw RX6 27 6 4 := ⟨_, _, _, tyX6, rfl, by decide, zwX6, zin 230 (by decide +kernel) rfl, tyX6_ok, nmX6, rfl, by decide +kernel⟩
theorem zfX7_9 : zF RX7 9 7 2 := ⟨_, _, _, rfl, by decide, zwX7, zin 257 (by decide +kernel) rfl⟩
theorem zfX7_15 : zF RX7 15 7 3 := ⟨_, _, _, rfl, by decide, zwX7, zin 259 (by decide +kernel) rfl⟩
theorem zfX7_18 : zF RX7 18 7 0 := ⟨_, _, _, rfl, by decide, zwX7, zin 252 (by decide +kernel) rfl⟩
theorem zgX7_18 : zFw RX7 18 7 0 := ⟨_, _, _, tyX7, rfl, by decide, zwX7, zin 252 (by decide +kernel) rfl, tyX7_ok, nmX7, rfl, by decide +kernel⟩
theorem zfX7_22 : zF RX7 22 7 1 := ⟨_, _, _, rfl, by decide, zwX7, zin 255 (by decide +kernel) rfl⟩
theorem zgX7_22 : zFw RX7 22 7 1 := ⟨_, _, _, tyX7, rfl, by decide, zwX7, zin 255 (by decide +kernel) rfl, tyX7_ok, nmX7, rfl, by decide +kernel⟩
theorem zfX7_25 : zF RX7 25 7 4 := ⟨_, _, _, rfl, by decide, zwX7, zin 261 (by decide +kernel) rfl⟩
theorem zgX7_25 : zFw RX7 25 7 4 := ⟨_, _, _, tyX7, rfl, by decide, zwX7, zin 261 (by decide +kernel) rfl, tyX7_ok, nmX7, rfl, by decide +kernel⟩
theorem zfX7_28 : zF RX7 28 7 5 := ⟨_, _, _, rfl, by decide, zwX7, zin 264 (by decide +kernel) rfl⟩
theorem zgX7_28 : zFw RX7 28 7 5 := ⟨_, _, _, tyX7, rfl, by decide, zwX7, zin 264 (by decide +kernel) rfl, tyX7_ok, nmX7, rfl, by decide +kernel⟩
theorem zfX10_9 : zF RX10 9 10 2 := ⟨_, _, _, rfl, by decide, zwX10, zin 881 (by decide +kernel) rfl⟩
theorem zfX10_13 : zF RX10 13 10 3 := ⟨_, _, _, rfl, by decide, zwX10, zin 882 (by decide +kernel) rfl⟩
theorem zfX10_16 : zF RX10 16 10 4 := ⟨_, _, _, rfl, by decide, zwX10, zin 883 (by decide +kernel) rfl⟩
theorem zfX10_19 : zF RX10 19 10 6 := ⟨_, _, _, rfl, by decide, zwX10, zin 886 (by decide +kernel) rfl⟩
theorem zfX10_22 : zF RX10 22 10 7 := ⟨_, _, _, rfl, by decide, zwX10, zin 888 (by decide +kernel) rfl⟩
theorem zfX10_25 : zF RX10 25 10 8 := ⟨_, _, _, rfl, by decide, zwX10, zin 890 (by decide +kernel) rfl⟩
theorem zfX10_28 : zF RX10 28 10 9 := ⟨_, _, _, rfl, by decide, zwX10, zin 891 (by decide +kernel) rfl⟩
theorem zfX10_31 : zF RX10 31 10 11 := ⟨_, _, _, rfl, by decide, zwX10, zin 894 (by decide +kernel) rfl⟩
theorem zfX10_34 : zF RX10 34 10 12 := ⟨_, _, _, rfl, by decide, zwX10, zin 896 (by decide +kernel) rfl⟩
theorem zfX10_37 : zF RX10 37 10 13 := ⟨_, _, _, rfl, by decide, zwX10, zin 898 (by decide +kernel) rfl⟩
theorem zfX10_45 : zF RX10 45 10 14 := ⟨_, _, _, rfl, by decide, zwX10, zin 900 (by decide +kernel) rfl⟩
theorem zfX10_49 : zF RX10 49 10 15 := ⟨_, _, _, rfl, by decide, zwX10, zin 901 (by decide +kernel) rfl⟩
theorem zfX10_52 : zF RX10 52 10 0 := ⟨_, _, _, rfl, by decide, zwX10, zin 879 (by decide +kernel) rfl⟩
theorem zgX10_52 : zFw RX10 52 10 0 := ⟨_, _, _, tyX10, rfl, by decide, zwX10, zin 879 (by decide +kernel) rfl, tyX10_ok, nmX10, rfl, by decide +kernel⟩
theorem zfX10_56 : zF RX10 56 10 1 := ⟨_, _, _, rfl, by decide, zwX10, zin 880 (by decide +kernel) rfl⟩
theorem zgX10_56 : zFw RX10 56 10 1 := ⟨_, _, _, tyX10, rfl, by decide, zwX10, zin 880 (by decide +kernel) rfl, tyX10_ok, nmX10, rfl, by decide +kernel⟩
theorem zfX10_63 : zF RX10 63 10 5 := ⟨_, _, _, rfl, by decide, zwX10, zin 884 (by decide +kernel) rfl⟩
theorem zgX10_63 : zFw RX10 63 10 5 := ⟨_, _, _, tyX10, rfl, by decide, zwX10, zin 884 (by decide +kernel) rfl, tyX10_ok, nmX10, rfl, by decide +kernel⟩
theorem zfX10_95 : zF RX10 95 10 10 := ⟨_, _, _, rfl, by decide, zwX10, zin 893 (by decide +kernel) rfl⟩
theorem zgX10_95 : zFw RX10 95 10 10 := ⟨_, _, _, tyX10, rfl, by decide, zwX10, zin 893 (by decide +kernel) rfl, tyX10_ok, nmX10, rfl, by decide +kernel⟩
theorem zfX9_3 : zF RX9 3 9 14 := ⟨_, _, _, rfl, by decide, zwX9, zin 847 (by decide +kernel) rfl⟩
theorem zfX9_15 : zF RX9 15 9 1 := ⟨_, _, _, rfl, by decide, zwX9, zin 823 (by decide +kernel) rfl⟩
theorem zfX9_19 : zF RX9 19 9 2 := ⟨_, _, _, rfl, by decide, zwX9, zin 825 (by decide +kernel) rfl⟩
theorem zfX9_22 : zF RX9 22 9 3 := ⟨_, _, _, rfl, by decide, zwX9, zin 827 (by decide +kernel) rfl⟩
theorem zfX9_25 : zF RX9 25 9 4 := ⟨_, _, _, rfl, by decide, zwX9, zin 828 (by decide +kernel) rfl⟩
theorem zfX9_28 : zF RX9 28 9 5 := ⟨_, _, _, rfl, by decide, zwX9, zin 829 (by decide +kernel) rfl⟩
theorem zfX9_31 : zF RX9 31 9 6 := ⟨_, _, _, rfl, by decide, zwX9, zin 831 (by decide +kernel) rfl⟩
theorem zfX9_34 : zF RX9 34 9 7 := ⟨_, _, _, rfl, by decide, zwX9, zin 833 (by decide +kernel) rfl⟩
theorem zfX9_37 : zF RX9 37 9 8 := ⟨_, _, _, rfl, by decide, zwX9, zin 835 (by decide +kernel) rfl⟩
theorem zfX9_40 : zF RX9 40 9 9 := ⟨_, _, _, rfl, by decide, zwX9, zin 837 (by decide +kernel) rfl⟩
theorem zfX9_43 : zF RX9 43 9 10 := ⟨_, _, _, rfl, by decide, zwX9, zin 839 (by decide +kernel) rfl⟩
theorem zfX9_46 : zF RX9 46 9 11 := ⟨_, _, _, rfl, by decide, zwX9, zin 841 (by decide +kernel) rfl⟩
theorem zfX9_49 : zF RX9 49 9 12 := ⟨_, _, _, rfl, by decide, zwX9, zin 843 (by decide +kernel) rfl⟩
theorem zfX9_52 : zF RX9 52 9 13 := ⟨_, _, _, rfl, by decide, zwX9, zin 845 (by decide +kernel) rfl⟩
theorem zfX9_61 : zF RX9 61 9 0 := ⟨_, _, _, rfl, by decide, zwX9, zin 821 (by decide +kernel) rfl⟩
theorem zgX9_61 : zFw RX9 61 9 0 := ⟨_, _, _, tyX9, rfl, by decide, zwX9, zin 821 (by decide +kernel) rfl, tyX9_ok, nmX9, rfl, by decide +kernel⟩
theorem zfX10_89 : zFN RX10 89 9 1 := ⟨_, _, _, "ZipCanopyModel", rfl, by decide, zwX9, znin 824 (by decide +kernel) rfl⟩
theorem zfX10_98 : zFN RX10 98 9 9 := ⟨_, _, _, "ZipCanopyModel", rfl, by decide, zwX9, znin 838 (by decide +kernel) rfl⟩
theorem zfX10_101 : zFN RX10 101 9 7 := ⟨_, _, _, "ZipCanopyModel", rfl, by decide, zwX9, znin 834 (by decide +kernel) rfl⟩
theorem zfX10_104 : zFN RX10 104 9 8 := ⟨_, _, _, "ZipCanopyModel", rfl, by decide, zwX9, znin 836 (by decide +kernel) rfl⟩
theorem zfX10_111 : zFN RX10 111 9 2 := ⟨_, _, _, "ZipCanopyModel", rfl, by decide, zwX9, znin 826 (by decide +kernel) rfl⟩
theorem zfX10_117 : zFN RX10 117 9 5 := ⟨_, _, _, "ZipCanopyModel", rfl, by decide, zwX9, znin 830 (by decide +kernel) rfl⟩
theorem zfX10_120 : zFN RX10 120 9 6 := ⟨_, _, _, "ZipCanopyModel", rfl, by decide, zwX9, znin 832 (by decide +kernel) rfl⟩
theorem zfX10_123 : zFN RX10 123 9 0 := ⟨_, _, _, "ZipCanopyModel", rfl, by decide, zwX9, znin 822 (by decide +kernel) rfl⟩
theorem zfX10_136 : zFN RX10 136 9 13 := ⟨_, _, _, "ZipCanopyModel", rfl, by decide, zwX9, znin 846 (by decide +kernel) rfl⟩
theorem zfX10_143 : zFN RX10 143 9 10 := ⟨_, _, _, "ZipCanopyModel", rfl, by decide, zwX9, znin 840 (by decide +kernel) rfl⟩
theorem zfX10_146 : zFN RX10 146 9 11 := ⟨_, _, _, "ZipCanopyModel", rfl, by decide, zwX9, znin 842 (by decide +kernel) rfl⟩
theorem zfX10_158 : zFN RX10 158 9 12 := ⟨_, _, _, "ZipCanopyModel", rfl, by decide, zwX9, znin 844 (by decide +kernel) rfl⟩
theorem zfX9_69 : zFN RX9 69 10 10 := ⟨_, _, _, "ZipCanopyModel", rfl, by decide, zwX10, znin 892 (by decide +kernel) rfl⟩
theorem zfX9_72 : zFN RX9 72 10 13 := ⟨_, _, _, "ZipCanopyModel", rfl, by decide, zwX10, znin 899 (by decide +kernel) rfl⟩
theorem zfX9_79 : zFN RX9 79 10 5 := ⟨_, _, _, "ZipCanopyModel", rfl, by decide, zwX10, znin 885 (by decide +kernel) rfl⟩
theorem zfX9_93 : zFN RX9 93 10 11 := ⟨_, _, _, "ZipCanopyModel", rfl, by decide, zwX10, znin 895 (by decide +kernel) rfl⟩
theorem zfX9_100 : zFN RX9 100 10 12 := ⟨_, _, _, "ZipCanopyModel", rfl, by decide, zwX10, znin 897 (by decide +kernel) rfl⟩
theorem zfX9_106 : zFN RX9 106 10 7 := ⟨_, _, _, "ZipCanopyModel", rfl, by decide, zwX10, znin 889 (by decide +kernel) rfl⟩
theorem zfX9_116 : zFN RX9 116 10 6 := ⟨_, _, _, "ZipCanopyModel", rfl, by decide, zwX10, znin 887 (by decide +kernel) rfl⟩
theorem zk_X8_init : Cond.code yX8_init cX8_init 1 none ∈ zbig := zin 58 (by decide +kernel) rfl
theorem zki_X8_init : Cond.instanceMethod yX8_init ∈ zbig := zin 57 (by decide +kernel) rfl
theorem zkn_X8_init : Cond.initialized (yX8_init).cls ∈ zbig := zin 35 (by decide +kernel) rfl
theorem zk_X0_init : Cond.code yX0_init cX0_init 2 none ∈ zbig := zin 66 (by decide +kernel) rfl
theorem zki_X0_init : Cond.instanceMethod yX0_init ∈ zbig := zin 65 (by decide +kernel) rfl
theorem zkn_X0_init : Cond.initialized (yX0_init).cls ∈ zbig := zin 36 (by decide +kernel) rfl
theorem zk_X2_init : Cond.code yX2_init cX2_init 1 none ∈ zbig := zin 77 (by decide +kernel) rfl
theorem zki_X2_init : Cond.instanceMethod yX2_init ∈ zbig := zin 76 (by decide +kernel) rfl
theorem zkn_X2_init : Cond.initialized (yX2_init).cls ∈ zbig := zin 37 (by decide +kernel) rfl
theorem zk_X1_init : Cond.code yX1_init cX1_init 1 none ∈ zbig := zin 98 (by decide +kernel) rfl
theorem zki_X1_init : Cond.instanceMethod yX1_init ∈ zbig := zin 97 (by decide +kernel) rfl
theorem zkn_X1_init : Cond.initialized (yX1_init).cls ∈ zbig := zin 38 (by decide +kernel) rfl
theorem zk_X3_init : Cond.code yX3_init cX3_init 1 none ∈ zbig := zin 130 (by decide +kernel) rfl
theorem zki_X3_init : Cond.instanceMethod yX3_init ∈ zbig := zin 129 (by decide +kernel) rfl
theorem zkn_X3_init : Cond.initialized (yX3_init).cls ∈ zbig := zin 39 (by decide +kernel) rfl
theorem zk_X4_init : Cond.code yX4_init cX4_init 1 none ∈ zbig := zin 136 (by decide +kernel) rfl
theorem zki_X4_init : Cond.instanceMethod yX4_init ∈ zbig := zin 135 (by decide +kernel) rfl
theorem zkn_X4_init : Cond.initialized (yX4_init).cls ∈ zbig := zin 40 (by decide +kernel) rfl
theorem zk_X5_init : Cond.code yX5_init cX5_init 3 none ∈ zbig := zin 208 (by decide +kernel) rfl
theorem zki_X5_init : Cond.instanceMethod yX5_init ∈ zbig := zin 207 (by decide +kernel) rfl
theorem zkn_X5_init : Cond.initialized (yX5_init).cls ∈ zbig := zin 41 (by decide +kernel) rfl
theorem zk_X6_init : Cond.code yX6_init cX6_init 1 none ∈ zbig := zin 217 (by decide +kernel) rfl
theorem zki_X6_init : Cond.instanceMethod yX6_init ∈ zbig := zin 216 (by decide +kernel) rfl
theorem zkn_X6_init : Cond.initialized (yX6_init).cls ∈ zbig := zin 42 (by decide +kernel) rfl
theorem zk_X7_init : Cond.code yX7_init cX7_init 1 none ∈ zbig := zin 250 (by decide +kernel) rfl
theorem zki_X7_init : Cond.instanceMethod yX7_init ∈ zbig := zin 249 (by decide +kernel) rfl
theorem zkn_X7_init : Cond.initialized (yX7_init).cls ∈ zbig := zin 43 (by decide +kernel) rfl
theorem zk_X8_mean : Cond.code yX8_mean cX8_mean 4 (some .double) ∈ zbig := zin 320 (by decide +kernel) rfl
theorem zki_X8_mean : Cond.instanceMethod yX8_mean ∈ zbig := zin 318 (by decide +kernel) rfl
theorem zks_X8_mean : Cond.selects (yX8_mean).cls yX8_mean yX8_mean ∈ zbig := zin 319 (by decide +kernel) rfl
theorem zkn_X8_mean : Cond.initialized (yX8_mean).cls ∈ zbig := zin 35 (by decide +kernel) rfl
theorem zk_X8_digest : Cond.code yX8_digest cX8_digest 5 (some .long) ∈ zbig := zin 324 (by decide +kernel) rfl
theorem zki_X8_digest : Cond.instanceMethod yX8_digest ∈ zbig := zin 322 (by decide +kernel) rfl
theorem zks_X8_digest : Cond.selects (yX8_digest).cls yX8_digest yX8_digest ∈ zbig := zin 323 (by decide +kernel) rfl
theorem zkn_X8_digest : Cond.initialized (yX8_digest).cls ∈ zbig := zin 35 (by decide +kernel) rfl
theorem zk_X8_countFact : Cond.code yX8_countFact cX8_countFact 2 (some .int) ∈ zbig := zin 330 (by decide +kernel) rfl
theorem zki_X8_countFact : Cond.instanceMethod yX8_countFact ∈ zbig := zin 329 (by decide +kernel) rfl
theorem zks_X8_countFact : Cond.selects (yX8_countFact).cls yX8_countFact yX8_countFact ∈ zbig := zin 0 (by decide +kernel) rfl
theorem zkn_X8_countFact : Cond.initialized (yX8_countFact).cls ∈ zbig := zin 35 (by decide +kernel) rfl
theorem zk_X5_ridersIn : Cond.code yX5_ridersIn cX5_ridersIn 4 (some .int) ∈ zbig := zin 334 (by decide +kernel) rfl
theorem zki_X5_ridersIn : Cond.instanceMethod yX5_ridersIn ∈ zbig := zin 332 (by decide +kernel) rfl
theorem zks_X5_ridersIn : Cond.selects (yX5_ridersIn).cls yX5_ridersIn yX5_ridersIn ∈ zbig := zin 333 (by decide +kernel) rfl
theorem zkn_X5_ridersIn : Cond.initialized (yX5_ridersIn).cls ∈ zbig := zin 41 (by decide +kernel) rfl
theorem zk_X5_trolleysInAll : Cond.code yX5_trolleysInAll cX5_trolleysInAll 3 (some .int) ∈ zbig := zin 338 (by decide +kernel) rfl
theorem zki_X5_trolleysInAll : Cond.instanceMethod yX5_trolleysInAll ∈ zbig := zin 336 (by decide +kernel) rfl
theorem zks_X5_trolleysInAll : Cond.selects (yX5_trolleysInAll).cls yX5_trolleysInAll yX5_trolleysInAll ∈ zbig := zin 337 (by decide +kernel) rfl
theorem zkn_X5_trolleysInAll : Cond.initialized (yX5_trolleysInAll).cls ∈ zbig := zin 41 (by decide +kernel) rfl
theorem zk_X7_inAll : Cond.code yX7_inAll cX7_inAll 1 (some .int) ∈ zbig := zin 342 (by decide +kernel) rfl
theorem zki_X7_inAll : Cond.instanceMethod yX7_inAll ∈ zbig := zin 340 (by decide +kernel) rfl
theorem zks_X7_inAll : Cond.selects (yX7_inAll).cls yX7_inAll yX7_inAll ∈ zbig := zin 341 (by decide +kernel) rfl
theorem zkn_X7_inAll : Cond.initialized (yX7_inAll).cls ∈ zbig := zin 43 (by decide +kernel) rfl
theorem zk_X5_ridesInAll : Cond.code yX5_ridesInAll cX5_ridesInAll 3 (some .int) ∈ zbig := zin 346 (by decide +kernel) rfl
theorem zki_X5_ridesInAll : Cond.instanceMethod yX5_ridesInAll ∈ zbig := zin 344 (by decide +kernel) rfl
theorem zks_X5_ridesInAll : Cond.selects (yX5_ridesInAll).cls yX5_ridesInAll yX5_ridesInAll ∈ zbig := zin 345 (by decide +kernel) rfl
theorem zkn_X5_ridesInAll : Cond.initialized (yX5_ridesInAll).cls ∈ zbig := zin 41 (by decide +kernel) rfl
theorem zk_X8_digestPlatform : Cond.code yX8_digestPlatform cX8_digestPlatform 7 (some .long) ∈ zbig := zin 350 (by decide +kernel) rfl
theorem zki_X8_digestPlatform : Cond.instanceMethod yX8_digestPlatform ∈ zbig := zin 349 (by decide +kernel) rfl
theorem zks_X8_digestPlatform : Cond.selects (yX8_digestPlatform).cls yX8_digestPlatform yX8_digestPlatform ∈ zbig := zin 1 (by decide +kernel) rfl
theorem zkn_X8_digestPlatform : Cond.initialized (yX8_digestPlatform).cls ∈ zbig := zin 35 (by decide +kernel) rfl
theorem zk_X8_platformFact : Cond.code yX8_platformFact cX8_platformFact 4 (some .int) ∈ zbig := zin 354 (by decide +kernel) rfl
theorem zki_X8_platformFact : Cond.instanceMethod yX8_platformFact ∈ zbig := zin 353 (by decide +kernel) rfl
theorem zks_X8_platformFact : Cond.selects (yX8_platformFact).cls yX8_platformFact yX8_platformFact ∈ zbig := zin 2 (by decide +kernel) rfl
theorem zkn_X8_platformFact : Cond.initialized (yX8_platformFact).cls ∈ zbig := zin 35 (by decide +kernel) rfl
theorem zk_X5_queueLength : Cond.code yX5_queueLength cX5_queueLength 4 (some .int) ∈ zbig := zin 358 (by decide +kernel) rfl
theorem zki_X5_queueLength : Cond.instanceMethod yX5_queueLength ∈ zbig := zin 356 (by decide +kernel) rfl
theorem zks_X5_queueLength : Cond.selects (yX5_queueLength).cls yX5_queueLength yX5_queueLength ∈ zbig := zin 357 (by decide +kernel) rfl
theorem zkn_X5_queueLength : Cond.initialized (yX5_queueLength).cls ∈ zbig := zin 41 (by decide +kernel) rfl
theorem zk_X5_inQueue : Cond.code yX5_inQueue cX5_inQueue 5 (some .int) ∈ zbig := zin 362 (by decide +kernel) rfl
theorem zki_X5_inQueue : Cond.instanceMethod yX5_inQueue ∈ zbig := zin 360 (by decide +kernel) rfl
theorem zks_X5_inQueue : Cond.selects (yX5_inQueue).cls yX5_inQueue yX5_inQueue ∈ zbig := zin 361 (by decide +kernel) rfl
theorem zkn_X5_inQueue : Cond.initialized (yX5_inQueue).cls ∈ zbig := zin 41 (by decide +kernel) rfl
theorem zk_X0_linesWithTop : Cond.code yX0_linesWithTop cX0_linesWithTop 4 (some .int) ∈ zbig := zin 366 (by decide +kernel) rfl
theorem zki_X0_linesWithTop : Cond.instanceMethod yX0_linesWithTop ∈ zbig := zin 364 (by decide +kernel) rfl
theorem zks_X0_linesWithTop : Cond.selects (yX0_linesWithTop).cls yX0_linesWithTop yX0_linesWithTop ∈ zbig := zin 365 (by decide +kernel) rfl
theorem zkn_X0_linesWithTop : Cond.initialized (yX0_linesWithTop).cls ∈ zbig := zin 36 (by decide +kernel) rfl
theorem zk_X0_linesWithBottom : Cond.code yX0_linesWithBottom cX0_linesWithBottom 4 (some .int) ∈ zbig := zin 370 (by decide +kernel) rfl
theorem zki_X0_linesWithBottom : Cond.instanceMethod yX0_linesWithBottom ∈ zbig := zin 368 (by decide +kernel) rfl
theorem zks_X0_linesWithBottom : Cond.selects (yX0_linesWithBottom).cls yX0_linesWithBottom yX0_linesWithBottom ∈ zbig := zin 369 (by decide +kernel) rfl
theorem zkn_X0_linesWithBottom : Cond.initialized (yX0_linesWithBottom).cls ∈ zbig := zin 36 (by decide +kernel) rfl
theorem zk_X5_arrivedAt : Cond.code yX5_arrivedAt cX5_arrivedAt 4 (some .int) ∈ zbig := zin 374 (by decide +kernel) rfl
theorem zki_X5_arrivedAt : Cond.instanceMethod yX5_arrivedAt ∈ zbig := zin 372 (by decide +kernel) rfl
theorem zks_X5_arrivedAt : Cond.selects (yX5_arrivedAt).cls yX5_arrivedAt yX5_arrivedAt ∈ zbig := zin 373 (by decide +kernel) rfl
theorem zkn_X5_arrivedAt : Cond.initialized (yX5_arrivedAt).cls ∈ zbig := zin 41 (by decide +kernel) rfl
theorem zk_X8_lineFact : Cond.code yX8_lineFact cX8_lineFact 5 (some .int) ∈ zbig := zin 378 (by decide +kernel) rfl
theorem zki_X8_lineFact : Cond.instanceMethod yX8_lineFact ∈ zbig := zin 377 (by decide +kernel) rfl
theorem zks_X8_lineFact : Cond.selects (yX8_lineFact).cls yX8_lineFact yX8_lineFact ∈ zbig := zin 3 (by decide +kernel) rfl
theorem zkn_X8_lineFact : Cond.initialized (yX8_lineFact).cls ∈ zbig := zin 35 (by decide +kernel) rfl
theorem zk_X7_ridden : Cond.code yX7_ridden cX7_ridden 3 (some .int) ∈ zbig := zin 383 (by decide +kernel) rfl
theorem zki_X7_ridden : Cond.instanceMethod yX7_ridden ∈ zbig := zin 381 (by decide +kernel) rfl
theorem zks_X7_ridden : Cond.selects (yX7_ridden).cls yX7_ridden yX7_ridden ∈ zbig := zin 382 (by decide +kernel) rfl
theorem zkn_X7_ridden : Cond.initialized (yX7_ridden).cls ∈ zbig := zin 43 (by decide +kernel) rfl
theorem zk_X0_isClosed : Cond.code yX0_isClosed cX0_isClosed 4 (some .boolean) ∈ zbig := zin 387 (by decide +kernel) rfl
theorem zki_X0_isClosed : Cond.instanceMethod yX0_isClosed ∈ zbig := zin 385 (by decide +kernel) rfl
theorem zks_X0_isClosed : Cond.selects (yX0_isClosed).cls yX0_isClosed yX0_isClosed ∈ zbig := zin 386 (by decide +kernel) rfl
theorem zkn_X0_isClosed : Cond.initialized (yX0_isClosed).cls ∈ zbig := zin 36 (by decide +kernel) rfl
theorem zk_J9_floorMod_7cf53 : Cond.code yJ9_floorMod_7cf53 cJ9_floorMod_7cf53 3 (some .int) ∈ zbig := zin 390 (by decide +kernel) rfl
theorem zkt_J9_floorMod_7cf53 : Cond.static yJ9_floorMod_7cf53 ∈ zbig := zin 389 (by decide +kernel) rfl
theorem zkn_J9_floorMod_7cf53 : Cond.initialized (yJ9_floorMod_7cf53).cls ∈ zbig := zin 52 (by decide +kernel) rfl
theorem zk_X8_riderFact : Cond.code yX8_riderFact cX8_riderFact 5 (some .int) ∈ zbig := zin 394 (by decide +kernel) rfl
theorem zki_X8_riderFact : Cond.instanceMethod yX8_riderFact ∈ zbig := zin 393 (by decide +kernel) rfl
theorem zks_X8_riderFact : Cond.selects (yX8_riderFact).cls yX8_riderFact yX8_riderFact ∈ zbig := zin 4 (by decide +kernel) rfl
theorem zkn_X8_riderFact : Cond.initialized (yX8_riderFact).cls ∈ zbig := zin 35 (by decide +kernel) rfl
theorem zk_X4_linesFrom : Cond.code yX4_linesFrom cX4_linesFrom 2 (some .int) ∈ zbig := zin 398 (by decide +kernel) rfl
theorem zki_X4_linesFrom : Cond.instanceMethod yX4_linesFrom ∈ zbig := zin 396 (by decide +kernel) rfl
theorem zks_X4_linesFrom : Cond.selects (yX4_linesFrom).cls yX4_linesFrom yX4_linesFrom ∈ zbig := zin 397 (by decide +kernel) rfl
theorem zkn_X4_linesFrom : Cond.initialized (yX4_linesFrom).cls ∈ zbig := zin 40 (by decide +kernel) rfl
theorem zk_X8_within : Cond.code yX8_within cX8_within 3 (some .boolean) ∈ zbig := zin 401 (by decide +kernel) rfl
theorem zkt_X8_within : Cond.static yX8_within ∈ zbig := zin 400 (by decide +kernel) rfl
theorem zkn_X8_within : Cond.initialized (yX8_within).cls ∈ zbig := zin 35 (by decide +kernel) rfl
theorem zk_J9_max_7cf53 : Cond.code yJ9_max_7cf53 cJ9_max_7cf53 2 (some .int) ∈ zbig := zin 404 (by decide +kernel) rfl
theorem zkt_J9_max_7cf53 : Cond.static yJ9_max_7cf53 ∈ zbig := zin 403 (by decide +kernel) rfl
theorem zkn_J9_max_7cf53 : Cond.initialized (yJ9_max_7cf53).cls ∈ zbig := zin 52 (by decide +kernel) rfl
theorem zk_X4_firstFrom : Cond.code yX4_firstFrom cX4_firstFrom 2 (some .int) ∈ zbig := zin 408 (by decide +kernel) rfl
theorem zki_X4_firstFrom : Cond.instanceMethod yX4_firstFrom ∈ zbig := zin 406 (by decide +kernel) rfl
theorem zks_X4_firstFrom : Cond.selects (yX4_firstFrom).cls yX4_firstFrom yX4_firstFrom ∈ zbig := zin 407 (by decide +kernel) rfl
theorem zkn_X4_firstFrom : Cond.initialized (yX4_firstFrom).cls ∈ zbig := zin 40 (by decide +kernel) rfl
theorem zk_X8_build : Cond.code yX8_build cX8_build 4 (some .int) ∈ zbig := zin 417 (by decide +kernel) rfl
theorem zki_X8_build : Cond.instanceMethod yX8_build ∈ zbig := zin 415 (by decide +kernel) rfl
theorem zks_X8_build : Cond.selects (yX8_build).cls yX8_build yX8_build ∈ zbig := zin 416 (by decide +kernel) rfl
theorem zkn_X8_build : Cond.initialized (yX8_build).cls ∈ zbig := zin 35 (by decide +kernel) rfl
theorem zk_X0_hasPlatformAt : Cond.code yX0_hasPlatformAt cX0_hasPlatformAt 4 (some .boolean) ∈ zbig := zin 490 (by decide +kernel) rfl
theorem zki_X0_hasPlatformAt : Cond.instanceMethod yX0_hasPlatformAt ∈ zbig := zin 488 (by decide +kernel) rfl
theorem zks_X0_hasPlatformAt : Cond.selects (yX0_hasPlatformAt).cls yX0_hasPlatformAt yX0_hasPlatformAt ∈ zbig := zin 489 (by decide +kernel) rfl
theorem zkn_X0_hasPlatformAt : Cond.initialized (yX0_hasPlatformAt).cls ∈ zbig := zin 36 (by decide +kernel) rfl
theorem zk_X0_addPlatform : Cond.code yX0_addPlatform cX0_addPlatform 5 (some .int) ∈ zbig := zin 510 (by decide +kernel) rfl
theorem zki_X0_addPlatform : Cond.instanceMethod yX0_addPlatform ∈ zbig := zin 508 (by decide +kernel) rfl
theorem zks_X0_addPlatform : Cond.selects (yX0_addPlatform).cls yX0_addPlatform yX0_addPlatform ∈ zbig := zin 509 (by decide +kernel) rfl
theorem zkn_X0_addPlatform : Cond.initialized (yX0_addPlatform).cls ∈ zbig := zin 36 (by decide +kernel) rfl
theorem zk_X8_span : Cond.code yX8_span cX8_span 6 (some .int) ∈ zbig := zin 518 (by decide +kernel) rfl
theorem zki_X8_span : Cond.instanceMethod yX8_span ∈ zbig := zin 516 (by decide +kernel) rfl
theorem zks_X8_span : Cond.selects (yX8_span).cls yX8_span yX8_span ∈ zbig := zin 517 (by decide +kernel) rfl
theorem zkn_X8_span : Cond.initialized (yX8_span).cls ∈ zbig := zin 35 (by decide +kernel) rfl
theorem zk_X8_isPlatform : Cond.code yX8_isPlatform cX8_isPlatform 2 (some .boolean) ∈ zbig := zin 522 (by decide +kernel) rfl
theorem zki_X8_isPlatform : Cond.instanceMethod yX8_isPlatform ∈ zbig := zin 521 (by decide +kernel) rfl
theorem zks_X8_isPlatform : Cond.selects (yX8_isPlatform).cls yX8_isPlatform yX8_isPlatform ∈ zbig := zin 6 (by decide +kernel) rfl
theorem zkn_X8_isPlatform : Cond.initialized (yX8_isPlatform).cls ∈ zbig := zin 35 (by decide +kernel) rfl
theorem zk_X0_isLower : Cond.code yX0_isLower cX0_isLower 3 (some .boolean) ∈ zbig := zin 542 (by decide +kernel) rfl
theorem zki_X0_isLower : Cond.instanceMethod yX0_isLower ∈ zbig := zin 540 (by decide +kernel) rfl
theorem zks_X0_isLower : Cond.selects (yX0_isLower).cls yX0_isLower yX0_isLower ∈ zbig := zin 541 (by decide +kernel) rfl
theorem zkn_X0_isLower : Cond.initialized (yX0_isLower).cls ∈ zbig := zin 36 (by decide +kernel) rfl
theorem zk_X0_addLine : Cond.code yX0_addLine cX0_addLine 7 (some .int) ∈ zbig := zin 548 (by decide +kernel) rfl
theorem zki_X0_addLine : Cond.instanceMethod yX0_addLine ∈ zbig := zin 546 (by decide +kernel) rfl
theorem zks_X0_addLine : Cond.selects (yX0_addLine).cls yX0_addLine yX0_addLine ∈ zbig := zin 547 (by decide +kernel) rfl
theorem zkn_X0_addLine : Cond.initialized (yX0_addLine).cls ∈ zbig := zin 36 (by decide +kernel) rfl
theorem zk_X2_distanceTo : Cond.code yX2_distanceTo cX2_distanceTo 2 (some .int) ∈ zbig := zin 552 (by decide +kernel) rfl
theorem zki_X2_distanceTo : Cond.instanceMethod yX2_distanceTo ∈ zbig := zin 550 (by decide +kernel) rfl
theorem zks_X2_distanceTo : Cond.selects (yX2_distanceTo).cls yX2_distanceTo yX2_distanceTo ∈ zbig := zin 551 (by decide +kernel) rfl
theorem zkn_X2_distanceTo : Cond.initialized (yX2_distanceTo).cls ∈ zbig := zin 37 (by decide +kernel) rfl
theorem zk_J9_abs_0f7a4 : Cond.code yJ9_abs_0f7a4 cJ9_abs_0f7a4 1 (some .int) ∈ zbig := zin 555 (by decide +kernel) rfl
theorem zkt_J9_abs_0f7a4 : Cond.static yJ9_abs_0f7a4 ∈ zbig := zin 554 (by decide +kernel) rfl
theorem zkn_J9_abs_0f7a4 : Cond.initialized (yJ9_abs_0f7a4).cls ∈ zbig := zin 52 (by decide +kernel) rfl
theorem zk_X3_planRoute : Cond.code yX3_planRoute cX3_planRoute 2 none ∈ zbig := zin 559 (by decide +kernel) rfl
theorem zki_X3_planRoute : Cond.instanceMethod yX3_planRoute ∈ zbig := zin 557 (by decide +kernel) rfl
theorem zks_X3_planRoute : Cond.selects (yX3_planRoute).cls yX3_planRoute yX3_planRoute ∈ zbig := zin 558 (by decide +kernel) rfl
theorem zkn_X3_planRoute : Cond.initialized (yX3_planRoute).cls ∈ zbig := zin 39 (by decide +kernel) rfl
theorem zk_X4_plan : Cond.code yX4_plan cX4_plan 6 none ∈ zbig := zin 563 (by decide +kernel) rfl
theorem zki_X4_plan : Cond.instanceMethod yX4_plan ∈ zbig := zin 561 (by decide +kernel) rfl
theorem zks_X4_plan : Cond.selects (yX4_plan).cls yX4_plan yX4_plan ∈ zbig := zin 562 (by decide +kernel) rfl
theorem zkn_X4_plan : Cond.initialized (yX4_plan).cls ∈ zbig := zin 40 (by decide +kernel) rfl
theorem zk_X4_extend : Cond.code yX4_extend cX4_extend 6 none ∈ zbig := zin 567 (by decide +kernel) rfl
theorem zki_X4_extend : Cond.instanceMethod yX4_extend ∈ zbig := zin 566 (by decide +kernel) rfl
theorem zks_X4_extend : Cond.selects (yX4_extend).cls yX4_extend yX4_extend ∈ zbig := zin 7 (by decide +kernel) rfl
theorem zkn_X4_extend : Cond.initialized (yX4_extend).cls ∈ zbig := zin 40 (by decide +kernel) rfl
theorem zk_X1_carries : Cond.code yX1_carries cX1_carries 2 (some .boolean) ∈ zbig := zin 571 (by decide +kernel) rfl
theorem zki_X1_carries : Cond.instanceMethod yX1_carries ∈ zbig := zin 569 (by decide +kernel) rfl
theorem zks_X1_carries : Cond.selects (yX1_carries).cls yX1_carries yX1_carries ∈ zbig := zin 570 (by decide +kernel) rfl
theorem zkn_X1_carries : Cond.initialized (yX1_carries).cls ∈ zbig := zin 38 (by decide +kernel) rfl
theorem zk_X5_addTrolleys : Cond.code yX5_addTrolleys cX5_addTrolleys 3 none ∈ zbig := zin 576 (by decide +kernel) rfl
theorem zki_X5_addTrolleys : Cond.instanceMethod yX5_addTrolleys ∈ zbig := zin 574 (by decide +kernel) rfl
theorem zks_X5_addTrolleys : Cond.selects (yX5_addTrolleys).cls yX5_addTrolleys yX5_addTrolleys ∈ zbig := zin 575 (by decide +kernel) rfl
theorem zkn_X5_addTrolleys : Cond.initialized (yX5_addTrolleys).cls ∈ zbig := zin 41 (by decide +kernel) rfl
theorem zk_X8_add : Cond.code yX8_add cX8_add 2 (some .int) ∈ zbig := zin 583 (by decide +kernel) rfl
theorem zki_X8_add : Cond.instanceMethod yX8_add ∈ zbig := zin 581 (by decide +kernel) rfl
theorem zks_X8_add : Cond.selects (yX8_add).cls yX8_add yX8_add ∈ zbig := zin 582 (by decide +kernel) rfl
theorem zkn_X8_add : Cond.initialized (yX8_add).cls ∈ zbig := zin 35 (by decide +kernel) rfl
theorem zk_X8_isLine : Cond.code yX8_isLine cX8_isLine 2 (some .boolean) ∈ zbig := zin 587 (by decide +kernel) rfl
theorem zki_X8_isLine : Cond.instanceMethod yX8_isLine ∈ zbig := zin 586 (by decide +kernel) rfl
theorem zks_X8_isLine : Cond.selects (yX8_isLine).cls yX8_isLine yX8_isLine ∈ zbig := zin 8 (by decide +kernel) rfl
theorem zkn_X8_isLine : Cond.initialized (yX8_isLine).cls ∈ zbig := zin 35 (by decide +kernel) rfl
theorem zk_X8_setWind : Cond.code yX8_setWind cX8_setWind 4 (some .int) ∈ zbig := zin 596 (by decide +kernel) rfl
theorem zki_X8_setWind : Cond.instanceMethod yX8_setWind ∈ zbig := zin 594 (by decide +kernel) rfl
theorem zks_X8_setWind : Cond.selects (yX8_setWind).cls yX8_setWind yX8_setWind ∈ zbig := zin 595 (by decide +kernel) rfl
theorem zkn_X8_setWind : Cond.initialized (yX8_setWind).cls ∈ zbig := zin 35 (by decide +kernel) rfl
theorem zk_X8_platform : Cond.code yX8_platform cX8_platform 3 (some .int) ∈ zbig := zin 605 (by decide +kernel) rfl
theorem zki_X8_platform : Cond.instanceMethod yX8_platform ∈ zbig := zin 603 (by decide +kernel) rfl
theorem zks_X8_platform : Cond.selects (yX8_platform).cls yX8_platform yX8_platform ∈ zbig := zin 604 (by decide +kernel) rfl
theorem zkn_X8_platform : Cond.initialized (yX8_platform).cls ∈ zbig := zin 35 (by decide +kernel) rfl
theorem zk_X8_line : Cond.code yX8_line cX8_line 3 (some .int) ∈ zbig := zin 613 (by decide +kernel) rfl
theorem zki_X8_line : Cond.instanceMethod yX8_line ∈ zbig := zin 611 (by decide +kernel) rfl
theorem zks_X8_line : Cond.selects (yX8_line).cls yX8_line yX8_line ∈ zbig := zin 612 (by decide +kernel) rfl
theorem zkn_X8_line : Cond.initialized (yX8_line).cls ∈ zbig := zin 35 (by decide +kernel) rfl
theorem zk_X8_ride : Cond.code yX8_ride cX8_ride 4 (some .int) ∈ zbig := zin 621 (by decide +kernel) rfl
theorem zki_X8_ride : Cond.instanceMethod yX8_ride ∈ zbig := zin 619 (by decide +kernel) rfl
theorem zks_X8_ride : Cond.selects (yX8_ride).cls yX8_ride yX8_ride ∈ zbig := zin 620 (by decide +kernel) rfl
theorem zkn_X8_ride : Cond.initialized (yX8_ride).cls ∈ zbig := zin 35 (by decide +kernel) rfl
theorem zk_X8_isWeight : Cond.code yX8_isWeight cX8_isWeight 1 (some .boolean) ∈ zbig := zin 624 (by decide +kernel) rfl
theorem zkt_X8_isWeight : Cond.static yX8_isWeight ∈ zbig := zin 623 (by decide +kernel) rfl
theorem zkn_X8_isWeight : Cond.initialized (yX8_isWeight).cls ∈ zbig := zin 35 (by decide +kernel) rfl
theorem zk_X1_getsStuck : Cond.code yX1_getsStuck cX1_getsStuck 2 (some .boolean) ∈ zbig := zin 630 (by decide +kernel) rfl
theorem zki_X1_getsStuck : Cond.instanceMethod yX1_getsStuck ∈ zbig := zin 628 (by decide +kernel) rfl
theorem zks_X1_getsStuck : Cond.selects (yX1_getsStuck).cls yX1_getsStuck yX1_getsStuck ∈ zbig := zin 629 (by decide +kernel) rfl
theorem zkn_X1_getsStuck : Cond.initialized (yX1_getsStuck).cls ∈ zbig := zin 38 (by decide +kernel) rfl
theorem zk_X1_rideMinutes : Cond.code yX1_rideMinutes cX1_rideMinutes 4 (some .int) ∈ zbig := zin 634 (by decide +kernel) rfl
theorem zki_X1_rideMinutes : Cond.instanceMethod yX1_rideMinutes ∈ zbig := zin 632 (by decide +kernel) rfl
theorem zks_X1_rideMinutes : Cond.selects (yX1_rideMinutes).cls yX1_rideMinutes yX1_rideMinutes ∈ zbig := zin 633 (by decide +kernel) rfl
theorem zkn_X1_rideMinutes : Cond.initialized (yX1_rideMinutes).cls ∈ zbig := zin 38 (by decide +kernel) rfl
theorem zk_X8_come : Cond.code yX8_come cX8_come 6 (some .int) ∈ zbig := zin 642 (by decide +kernel) rfl
theorem zki_X8_come : Cond.instanceMethod yX8_come ∈ zbig := zin 640 (by decide +kernel) rfl
theorem zks_X8_come : Cond.selects (yX8_come).cls yX8_come yX8_come ∈ zbig := zin 641 (by decide +kernel) rfl
theorem zkn_X8_come : Cond.initialized (yX8_come).cls ∈ zbig := zin 35 (by decide +kernel) rfl
theorem zk_X0_addRider : Cond.code yX0_addRider cX0_addRider 6 (some .int) ∈ zbig := zin 649 (by decide +kernel) rfl
theorem zki_X0_addRider : Cond.instanceMethod yX0_addRider ∈ zbig := zin 647 (by decide +kernel) rfl
theorem zks_X0_addRider : Cond.selects (yX0_addRider).cls yX0_addRider yX0_addRider ∈ zbig := zin 648 (by decide +kernel) rfl
theorem zkn_X0_addRider : Cond.initialized (yX0_addRider).cls ∈ zbig := zin 36 (by decide +kernel) rfl
theorem zk_X5_reach : Cond.code yX5_reach cX5_reach 3 none ∈ zbig := zin 653 (by decide +kernel) rfl
theorem zki_X5_reach : Cond.instanceMethod yX5_reach ∈ zbig := zin 651 (by decide +kernel) rfl
theorem zks_X5_reach : Cond.selects (yX5_reach).cls yX5_reach yX5_reach ∈ zbig := zin 652 (by decide +kernel) rfl
theorem zkn_X5_reach : Cond.initialized (yX5_reach).cls ∈ zbig := zin 41 (by decide +kernel) rfl
theorem zk_X6_arrive : Cond.code yX6_arrive cX6_arrive 3 none ∈ zbig := zin 657 (by decide +kernel) rfl
theorem zki_X6_arrive : Cond.instanceMethod yX6_arrive ∈ zbig := zin 655 (by decide +kernel) rfl
theorem zks_X6_arrive : Cond.selects (yX6_arrive).cls yX6_arrive yX6_arrive ∈ zbig := zin 656 (by decide +kernel) rfl
theorem zkn_X6_arrive : Cond.initialized (yX6_arrive).cls ∈ zbig := zin 42 (by decide +kernel) rfl
theorem zk_X6_beginWait : Cond.code yX6_beginWait cX6_beginWait 2 none ∈ zbig := zin 661 (by decide +kernel) rfl
theorem zki_X6_beginWait : Cond.instanceMethod yX6_beginWait ∈ zbig := zin 659 (by decide +kernel) rfl
theorem zks_X6_beginWait : Cond.selects (yX6_beginWait).cls yX6_beginWait yX6_beginWait ∈ zbig := zin 660 (by decide +kernel) rfl
theorem zkn_X6_beginWait : Cond.initialized (yX6_beginWait).cls ∈ zbig := zin 42 (by decide +kernel) rfl
theorem zk_X8_rider : Cond.code yX8_rider cX8_rider 3 (some .int) ∈ zbig := zin 668 (by decide +kernel) rfl
theorem zki_X8_rider : Cond.instanceMethod yX8_rider ∈ zbig := zin 666 (by decide +kernel) rfl
theorem zks_X8_rider : Cond.selects (yX8_rider).cls yX8_rider yX8_rider ∈ zbig := zin 667 (by decide +kernel) rfl
theorem zkn_X8_rider : Cond.initialized (yX8_rider).cls ∈ zbig := zin 35 (by decide +kernel) rfl
theorem zk_X8_isRider : Cond.code yX8_isRider cX8_isRider 2 (some .boolean) ∈ zbig := zin 672 (by decide +kernel) rfl
theorem zki_X8_isRider : Cond.instanceMethod yX8_isRider ∈ zbig := zin 671 (by decide +kernel) rfl
theorem zks_X8_isRider : Cond.selects (yX8_isRider).cls yX8_isRider yX8_isRider ∈ zbig := zin 9 (by decide +kernel) rfl
theorem zkn_X8_isRider : Cond.initialized (yX8_isRider).cls ∈ zbig := zin 35 (by decide +kernel) rfl
theorem zk_X8_queue : Cond.code yX8_queue cX8_queue 3 (some .int) ∈ zbig := zin 680 (by decide +kernel) rfl
theorem zki_X8_queue : Cond.instanceMethod yX8_queue ∈ zbig := zin 678 (by decide +kernel) rfl
theorem zks_X8_queue : Cond.selects (yX8_queue).cls yX8_queue yX8_queue ∈ zbig := zin 679 (by decide +kernel) rfl
theorem zkn_X8_queue : Cond.initialized (yX8_queue).cls ∈ zbig := zin 35 (by decide +kernel) rfl
theorem zk_X8_pass : Cond.code yX8_pass cX8_pass 2 (some .int) ∈ zbig := zin 688 (by decide +kernel) rfl
theorem zki_X8_pass : Cond.instanceMethod yX8_pass ∈ zbig := zin 686 (by decide +kernel) rfl
theorem zks_X8_pass : Cond.selects (yX8_pass).cls yX8_pass yX8_pass ∈ zbig := zin 687 (by decide +kernel) rfl
theorem zkn_X8_pass : Cond.initialized (yX8_pass).cls ∈ zbig := zin 35 (by decide +kernel) rfl
theorem zk_X5_goOn : Cond.code yX5_goOn cX5_goOn 4 (some .int) ∈ zbig := zin 693 (by decide +kernel) rfl
theorem zki_X5_goOn : Cond.instanceMethod yX5_goOn ∈ zbig := zin 691 (by decide +kernel) rfl
theorem zks_X5_goOn : Cond.selects (yX5_goOn).cls yX5_goOn yX5_goOn ∈ zbig := zin 692 (by decide +kernel) rfl
theorem zkn_X5_goOn : Cond.initialized (yX5_goOn).cls ∈ zbig := zin 41 (by decide +kernel) rfl
theorem zk_X5_passMinute : Cond.code yX5_passMinute cX5_passMinute 2 none ∈ zbig := zin 698 (by decide +kernel) rfl
theorem zki_X5_passMinute : Cond.instanceMethod yX5_passMinute ∈ zbig := zin 696 (by decide +kernel) rfl
theorem zks_X5_passMinute : Cond.selects (yX5_passMinute).cls yX5_passMinute yX5_passMinute ∈ zbig := zin 697 (by decide +kernel) rfl
theorem zkn_X5_passMinute : Cond.initialized (yX5_passMinute).cls ∈ zbig := zin 41 (by decide +kernel) rfl
theorem zk_X5_moveTrolleys : Cond.code yX5_moveTrolleys cX5_moveTrolleys 5 none ∈ zbig := zin 702 (by decide +kernel) rfl
theorem zki_X5_moveTrolleys : Cond.instanceMethod yX5_moveTrolleys ∈ zbig := zin 701 (by decide +kernel) rfl
theorem zks_X5_moveTrolleys : Cond.selects (yX5_moveTrolleys).cls yX5_moveTrolleys yX5_moveTrolleys ∈ zbig := zin 10 (by decide +kernel) rfl
theorem zkn_X5_moveTrolleys : Cond.initialized (yX5_moveTrolleys).cls ∈ zbig := zin 41 (by decide +kernel) rfl
theorem zk_X1_pullMinutes : Cond.code yX1_pullMinutes cX1_pullMinutes 1 (some .int) ∈ zbig := zin 706 (by decide +kernel) rfl
theorem zki_X1_pullMinutes : Cond.instanceMethod yX1_pullMinutes ∈ zbig := zin 704 (by decide +kernel) rfl
theorem zks_X1_pullMinutes : Cond.selects (yX1_pullMinutes).cls yX1_pullMinutes yX1_pullMinutes ∈ zbig := zin 705 (by decide +kernel) rfl
theorem zkn_X1_pullMinutes : Cond.initialized (yX1_pullMinutes).cls ∈ zbig := zin 38 (by decide +kernel) rfl
theorem zk_X7_beginPull : Cond.code yX7_beginPull cX7_beginPull 3 none ∈ zbig := zin 710 (by decide +kernel) rfl
theorem zki_X7_beginPull : Cond.instanceMethod yX7_beginPull ∈ zbig := zin 708 (by decide +kernel) rfl
theorem zks_X7_beginPull : Cond.selects (yX7_beginPull).cls yX7_beginPull yX7_beginPull ∈ zbig := zin 709 (by decide +kernel) rfl
theorem zkn_X7_beginPull : Cond.initialized (yX7_beginPull).cls ∈ zbig := zin 43 (by decide +kernel) rfl
theorem zk_X7_dropPulled : Cond.code yX7_dropPulled cX7_dropPulled 3 none ∈ zbig := zin 715 (by decide +kernel) rfl
theorem zki_X7_dropPulled : Cond.instanceMethod yX7_dropPulled ∈ zbig := zin 713 (by decide +kernel) rfl
theorem zks_X7_dropPulled : Cond.selects (yX7_dropPulled).cls yX7_dropPulled yX7_dropPulled ∈ zbig := zin 714 (by decide +kernel) rfl
theorem zkn_X7_dropPulled : Cond.initialized (yX7_dropPulled).cls ∈ zbig := zin 43 (by decide +kernel) rfl
theorem zk_X5_beginRide : Cond.code yX5_beginRide cX5_beginRide 7 none ∈ zbig := zin 720 (by decide +kernel) rfl
theorem zki_X5_beginRide : Cond.instanceMethod yX5_beginRide ∈ zbig := zin 719 (by decide +kernel) rfl
theorem zks_X5_beginRide : Cond.selects (yX5_beginRide).cls yX5_beginRide yX5_beginRide ∈ zbig := zin 11 (by decide +kernel) rfl
theorem zkn_X5_beginRide : Cond.initialized (yX5_beginRide).cls ∈ zbig := zin 41 (by decide +kernel) rfl
theorem zk_X5_firstWaitingFor : Cond.code yX5_firstWaitingFor cX5_firstWaitingFor 4 (some .int) ∈ zbig := zin 724 (by decide +kernel) rfl
theorem zki_X5_firstWaitingFor : Cond.instanceMethod yX5_firstWaitingFor ∈ zbig := zin 723 (by decide +kernel) rfl
theorem zks_X5_firstWaitingFor : Cond.selects (yX5_firstWaitingFor).cls yX5_firstWaitingFor yX5_firstWaitingFor ∈ zbig := zin 12 (by decide +kernel) rfl
theorem zkn_X5_firstWaitingFor : Cond.initialized (yX5_firstWaitingFor).cls ∈ zbig := zin 41 (by decide +kernel) rfl
theorem zk_X7_canLeaveTop : Cond.code yX7_canLeaveTop cX7_canLeaveTop 1 (some .boolean) ∈ zbig := zin 729 (by decide +kernel) rfl
theorem zki_X7_canLeaveTop : Cond.instanceMethod yX7_canLeaveTop ∈ zbig := zin 727 (by decide +kernel) rfl
theorem zks_X7_canLeaveTop : Cond.selects (yX7_canLeaveTop).cls yX7_canLeaveTop yX7_canLeaveTop ∈ zbig := zin 728 (by decide +kernel) rfl
theorem zkn_X7_canLeaveTop : Cond.initialized (yX7_canLeaveTop).cls ∈ zbig := zin 43 (by decide +kernel) rfl
theorem zk_X5_leaveWaiting : Cond.code yX5_leaveWaiting cX5_leaveWaiting 3 none ∈ zbig := zin 734 (by decide +kernel) rfl
theorem zki_X5_leaveWaiting : Cond.instanceMethod yX5_leaveWaiting ∈ zbig := zin 733 (by decide +kernel) rfl
theorem zks_X5_leaveWaiting : Cond.selects (yX5_leaveWaiting).cls yX5_leaveWaiting yX5_leaveWaiting ∈ zbig := zin 13 (by decide +kernel) rfl
theorem zkn_X5_leaveWaiting : Cond.initialized (yX5_leaveWaiting).cls ∈ zbig := zin 41 (by decide +kernel) rfl
theorem zk_X6_beginRide : Cond.code yX6_beginRide cX6_beginRide 3 none ∈ zbig := zin 738 (by decide +kernel) rfl
theorem zki_X6_beginRide : Cond.instanceMethod yX6_beginRide ∈ zbig := zin 736 (by decide +kernel) rfl
theorem zks_X6_beginRide : Cond.selects (yX6_beginRide).cls yX6_beginRide yX6_beginRide ∈ zbig := zin 737 (by decide +kernel) rfl
theorem zkn_X6_beginRide : Cond.initialized (yX6_beginRide).cls ∈ zbig := zin 42 (by decide +kernel) rfl
theorem zk_X7_leaveTop : Cond.code yX7_leaveTop cX7_leaveTop 3 none ∈ zbig := zin 742 (by decide +kernel) rfl
theorem zki_X7_leaveTop : Cond.instanceMethod yX7_leaveTop ∈ zbig := zin 740 (by decide +kernel) rfl
theorem zks_X7_leaveTop : Cond.selects (yX7_leaveTop).cls yX7_leaveTop yX7_leaveTop ∈ zbig := zin 741 (by decide +kernel) rfl
theorem zkn_X7_leaveTop : Cond.initialized (yX7_leaveTop).cls ∈ zbig := zin 43 (by decide +kernel) rfl
theorem zk_X5_tireWaiting : Cond.code yX5_tireWaiting cX5_tireWaiting 5 none ∈ zbig := zin 747 (by decide +kernel) rfl
theorem zki_X5_tireWaiting : Cond.instanceMethod yX5_tireWaiting ∈ zbig := zin 746 (by decide +kernel) rfl
theorem zks_X5_tireWaiting : Cond.selects (yX5_tireWaiting).cls yX5_tireWaiting yX5_tireWaiting ∈ zbig := zin 14 (by decide +kernel) rfl
theorem zkn_X5_tireWaiting : Cond.initialized (yX5_tireWaiting).cls ∈ zbig := zin 41 (by decide +kernel) rfl
theorem zk_X5_givesUp : Cond.code yX5_givesUp cX5_givesUp 2 (some .boolean) ∈ zbig := zin 750 (by decide +kernel) rfl
theorem zkt_X5_givesUp : Cond.static yX5_givesUp ∈ zbig := zin 749 (by decide +kernel) rfl
theorem zkn_X5_givesUp : Cond.initialized (yX5_givesUp).cls ∈ zbig := zin 41 (by decide +kernel) rfl
theorem zk_X6_giveUp : Cond.code yX6_giveUp cX6_giveUp 1 none ∈ zbig := zin 755 (by decide +kernel) rfl
theorem zki_X6_giveUp : Cond.instanceMethod yX6_giveUp ∈ zbig := zin 753 (by decide +kernel) rfl
theorem zks_X6_giveUp : Cond.selects (yX6_giveUp).cls yX6_giveUp yX6_giveUp ∈ zbig := zin 754 (by decide +kernel) rfl
theorem zkn_X6_giveUp : Cond.initialized (yX6_giveUp).cls ∈ zbig := zin 42 (by decide +kernel) rfl
theorem zk_X8_count : Cond.code yX8_count cX8_count 2 (some .int) ∈ zbig := zin 762 (by decide +kernel) rfl
theorem zki_X8_count : Cond.instanceMethod yX8_count ∈ zbig := zin 760 (by decide +kernel) rfl
theorem zks_X8_count : Cond.selects (yX8_count).cls yX8_count yX8_count ∈ zbig := zin 761 (by decide +kernel) rfl
theorem zkn_X8_count : Cond.initialized (yX8_count).cls ∈ zbig := zin 35 (by decide +kernel) rfl
theorem zk_X8_way : Cond.code yX8_way cX8_way 4 (some .int) ∈ zbig := zin 770 (by decide +kernel) rfl
theorem zki_X8_way : Cond.instanceMethod yX8_way ∈ zbig := zin 768 (by decide +kernel) rfl
theorem zks_X8_way : Cond.selects (yX8_way).cls yX8_way yX8_way ∈ zbig := zin 769 (by decide +kernel) rfl
theorem zkn_X8_way : Cond.initialized (yX8_way).cls ∈ zbig := zin 35 (by decide +kernel) rfl
theorem zk_X8_arrives : Cond.code yX8_arrives cX8_arrives 4 (some .int) ∈ zbig := zin 778 (by decide +kernel) rfl
theorem zki_X8_arrives : Cond.instanceMethod yX8_arrives ∈ zbig := zin 776 (by decide +kernel) rfl
theorem zks_X8_arrives : Cond.selects (yX8_arrives).cls yX8_arrives yX8_arrives ∈ zbig := zin 777 (by decide +kernel) rfl
theorem zkn_X8_arrives : Cond.initialized (yX8_arrives).cls ∈ zbig := zin 35 (by decide +kernel) rfl
theorem zk_X5_copyFrom : Cond.code yX5_copyFrom cX5_copyFrom 3 none ∈ zbig := zin 783 (by decide +kernel) rfl
theorem zki_X5_copyFrom : Cond.instanceMethod yX5_copyFrom ∈ zbig := zin 781 (by decide +kernel) rfl
theorem zks_X5_copyFrom : Cond.selects (yX5_copyFrom).cls yX5_copyFrom yX5_copyFrom ∈ zbig := zin 782 (by decide +kernel) rfl
theorem zkn_X5_copyFrom : Cond.initialized (yX5_copyFrom).cls ∈ zbig := zin 41 (by decide +kernel) rfl
theorem zk_X6_copyFrom : Cond.code yX6_copyFrom cX6_copyFrom 2 none ∈ zbig := zin 787 (by decide +kernel) rfl
theorem zki_X6_copyFrom : Cond.instanceMethod yX6_copyFrom ∈ zbig := zin 785 (by decide +kernel) rfl
theorem zks_X6_copyFrom : Cond.selects (yX6_copyFrom).cls yX6_copyFrom yX6_copyFrom ∈ zbig := zin 786 (by decide +kernel) rfl
theorem zkn_X6_copyFrom : Cond.initialized (yX6_copyFrom).cls ∈ zbig := zin 42 (by decide +kernel) rfl
theorem zk_X7_copyFrom : Cond.code yX7_copyFrom cX7_copyFrom 3 none ∈ zbig := zin 791 (by decide +kernel) rfl
theorem zki_X7_copyFrom : Cond.instanceMethod yX7_copyFrom ∈ zbig := zin 789 (by decide +kernel) rfl
theorem zks_X7_copyFrom : Cond.selects (yX7_copyFrom).cls yX7_copyFrom yX7_copyFrom ∈ zbig := zin 790 (by decide +kernel) rfl
theorem zkn_X7_copyFrom : Cond.initialized (yX7_copyFrom).cls ∈ zbig := zin 43 (by decide +kernel) rfl
theorem zk_X6_isUnderWay : Cond.code yX6_isUnderWay cX6_isUnderWay 1 (some .boolean) ∈ zbig := zin 795 (by decide +kernel) rfl
theorem zki_X6_isUnderWay : Cond.instanceMethod yX6_isUnderWay ∈ zbig := zin 793 (by decide +kernel) rfl
theorem zks_X6_isUnderWay : Cond.selects (yX6_isUnderWay).cls yX6_isUnderWay yX6_isUnderWay ∈ zbig := zin 794 (by decide +kernel) rfl
theorem zkn_X6_isUnderWay : Cond.initialized (yX6_isUnderWay).cls ∈ zbig := zin 42 (by decide +kernel) rfl
theorem zk_X8_advise : Cond.code yX8_advise cX8_advise 6 (some .int) ∈ zbig := zin 803 (by decide +kernel) rfl
theorem zki_X8_advise : Cond.instanceMethod yX8_advise ∈ zbig := zin 801 (by decide +kernel) rfl
theorem zks_X8_advise : Cond.selects (yX8_advise).cls yX8_advise yX8_advise ∈ zbig := zin 802 (by decide +kernel) rfl
theorem zkn_X8_advise : Cond.initialized (yX8_advise).cls ∈ zbig := zin 35 (by decide +kernel) rfl
theorem zk_X8_arrivalsWithOneMore : Cond.code yX8_arrivalsWithOneMore cX8_arrivalsWithOneMore 3 (some .int) ∈ zbig := zin 808 (by decide +kernel) rfl
theorem zki_X8_arrivalsWithOneMore : Cond.instanceMethod yX8_arrivalsWithOneMore ∈ zbig := zin 807 (by decide +kernel) rfl
theorem zks_X8_arrivalsWithOneMore : Cond.selects (yX8_arrivalsWithOneMore).cls yX8_arrivalsWithOneMore yX8_arrivalsWithOneMore ∈ zbig := zin 15 (by decide +kernel) rfl
theorem zkn_X8_arrivalsWithOneMore : Cond.initialized (yX8_arrivalsWithOneMore).cls ∈ zbig := zin 35 (by decide +kernel) rfl
theorem zk_X10_init : Cond.code yX10_init cX10_init 1 none ∈ zbig := zin 813 (by decide +kernel) rfl
theorem zki_X10_init : Cond.instanceMethod yX10_init ∈ zbig := zin 812 (by decide +kernel) rfl
theorem zkn_X10_init : Cond.initialized (yX10_init).cls ∈ zbig := zin 44 (by decide +kernel) rfl
theorem zk_X9_init : Cond.code yX9_init cX9_init 2 none ∈ zbig := zin 819 (by decide +kernel) rfl
theorem zki_X9_init : Cond.instanceMethod yX9_init ∈ zbig := zin 818 (by decide +kernel) rfl
theorem zkn_X9_init : Cond.initialized (yX9_init).cls ∈ zbig := zin 45 (by decide +kernel) rfl
theorem zk_X10_thrown : Cond.code yX10_thrown cX10_thrown 1 (some .int) ∈ zbig := zin 938 (by decide +kernel) rfl
theorem zki_X10_thrown : Cond.instanceMethod yX10_thrown ∈ zbig := zin 936 (by decide +kernel) rfl
theorem zks_X10_thrown : Cond.selects (yX10_thrown).cls yX10_thrown yX10_thrown ∈ zbig := zin 937 (by decide +kernel) rfl
theorem zkn_X10_thrown : Cond.initialized (yX10_thrown).cls ∈ zbig := zin 44 (by decide +kernel) rfl
theorem zk_X10_build : Cond.code yX10_build cX10_build 6 (some .int) ∈ zbig := zin 942 (by decide +kernel) rfl
theorem zki_X10_build : Cond.instanceMethod yX10_build ∈ zbig := zin 940 (by decide +kernel) rfl
theorem zks_X10_build : Cond.selects (yX10_build).cls yX10_build yX10_build ∈ zbig := zin 941 (by decide +kernel) rfl
theorem zkn_X10_build : Cond.initialized (yX10_build).cls ∈ zbig := zin 44 (by decide +kernel) rfl
theorem zk_X10_isIn : Cond.code yX10_isIn cX10_isIn 3 (some .boolean) ∈ zbig := zin 945 (by decide +kernel) rfl
theorem zkt_X10_isIn : Cond.static yX10_isIn ∈ zbig := zin 944 (by decide +kernel) rfl
theorem zkn_X10_isIn : Cond.initialized (yX10_isIn).cls ∈ zbig := zin 44 (by decide +kernel) rfl
theorem zk_X10_no : Cond.code yX10_no cX10_no 2 (some .int) ∈ zbig := zin 949 (by decide +kernel) rfl
theorem zki_X10_no : Cond.instanceMethod yX10_no ∈ zbig := zin 948 (by decide +kernel) rfl
theorem zks_X10_no : Cond.selects (yX10_no).cls yX10_no yX10_no ∈ zbig := zin 16 (by decide +kernel) rfl
theorem zkn_X10_no : Cond.initialized (yX10_no).cls ∈ zbig := zin 44 (by decide +kernel) rfl
theorem zk_X10_span : Cond.code yX10_span cX10_span 5 (some .int) ∈ zbig := zin 953 (by decide +kernel) rfl
theorem zki_X10_span : Cond.instanceMethod yX10_span ∈ zbig := zin 951 (by decide +kernel) rfl
theorem zks_X10_span : Cond.selects (yX10_span).cls yX10_span yX10_span ∈ zbig := zin 952 (by decide +kernel) rfl
theorem zkn_X10_span : Cond.initialized (yX10_span).cls ∈ zbig := zin 44 (by decide +kernel) rfl
theorem zk_X10_isPlatform : Cond.code yX10_isPlatform cX10_isPlatform 2 (some .boolean) ∈ zbig := zin 957 (by decide +kernel) rfl
theorem zki_X10_isPlatform : Cond.instanceMethod yX10_isPlatform ∈ zbig := zin 956 (by decide +kernel) rfl
theorem zks_X10_isPlatform : Cond.selects (yX10_isPlatform).cls yX10_isPlatform yX10_isPlatform ∈ zbig := zin 17 (by decide +kernel) rfl
theorem zkn_X10_isPlatform : Cond.initialized (yX10_isPlatform).cls ∈ zbig := zin 44 (by decide +kernel) rfl
theorem zk_X10_add : Cond.code yX10_add cX10_add 2 (some .int) ∈ zbig := zin 961 (by decide +kernel) rfl
theorem zki_X10_add : Cond.instanceMethod yX10_add ∈ zbig := zin 959 (by decide +kernel) rfl
theorem zks_X10_add : Cond.selects (yX10_add).cls yX10_add yX10_add ∈ zbig := zin 960 (by decide +kernel) rfl
theorem zkn_X10_add : Cond.initialized (yX10_add).cls ∈ zbig := zin 44 (by decide +kernel) rfl
theorem zk_X10_isLine : Cond.code yX10_isLine cX10_isLine 2 (some .boolean) ∈ zbig := zin 965 (by decide +kernel) rfl
theorem zki_X10_isLine : Cond.instanceMethod yX10_isLine ∈ zbig := zin 964 (by decide +kernel) rfl
theorem zks_X10_isLine : Cond.selects (yX10_isLine).cls yX10_isLine yX10_isLine ∈ zbig := zin 18 (by decide +kernel) rfl
theorem zkn_X10_isLine : Cond.initialized (yX10_isLine).cls ∈ zbig := zin 44 (by decide +kernel) rfl
theorem zk_X10_setWind : Cond.code yX10_setWind cX10_setWind 4 (some .int) ∈ zbig := zin 969 (by decide +kernel) rfl
theorem zki_X10_setWind : Cond.instanceMethod yX10_setWind ∈ zbig := zin 967 (by decide +kernel) rfl
theorem zks_X10_setWind : Cond.selects (yX10_setWind).cls yX10_setWind yX10_setWind ∈ zbig := zin 968 (by decide +kernel) rfl
theorem zkn_X10_setWind : Cond.initialized (yX10_setWind).cls ∈ zbig := zin 44 (by decide +kernel) rfl
theorem zk_X10_platform : Cond.code yX10_platform cX10_platform 3 (some .int) ∈ zbig := zin 973 (by decide +kernel) rfl
theorem zki_X10_platform : Cond.instanceMethod yX10_platform ∈ zbig := zin 971 (by decide +kernel) rfl
theorem zks_X10_platform : Cond.selects (yX10_platform).cls yX10_platform yX10_platform ∈ zbig := zin 972 (by decide +kernel) rfl
theorem zkn_X10_platform : Cond.initialized (yX10_platform).cls ∈ zbig := zin 44 (by decide +kernel) rfl
theorem zk_X10_platformTold : Cond.code yX10_platformTold cX10_platformTold 7 (some .int) ∈ zbig := zin 977 (by decide +kernel) rfl
theorem zki_X10_platformTold : Cond.instanceMethod yX10_platformTold ∈ zbig := zin 976 (by decide +kernel) rfl
theorem zks_X10_platformTold : Cond.selects (yX10_platformTold).cls yX10_platformTold yX10_platformTold ∈ zbig := zin 19 (by decide +kernel) rfl
theorem zkn_X10_platformTold : Cond.initialized (yX10_platformTold).cls ∈ zbig := zin 44 (by decide +kernel) rfl
theorem zk_X10_line : Cond.code yX10_line cX10_line 3 (some .int) ∈ zbig := zin 981 (by decide +kernel) rfl
theorem zki_X10_line : Cond.instanceMethod yX10_line ∈ zbig := zin 979 (by decide +kernel) rfl
theorem zks_X10_line : Cond.selects (yX10_line).cls yX10_line yX10_line ∈ zbig := zin 980 (by decide +kernel) rfl
theorem zkn_X10_line : Cond.initialized (yX10_line).cls ∈ zbig := zin 44 (by decide +kernel) rfl
theorem zk_X10_lineTold : Cond.code yX10_lineTold cX10_lineTold 4 (some .int) ∈ zbig := zin 985 (by decide +kernel) rfl
theorem zki_X10_lineTold : Cond.instanceMethod yX10_lineTold ∈ zbig := zin 984 (by decide +kernel) rfl
theorem zks_X10_lineTold : Cond.selects (yX10_lineTold).cls yX10_lineTold yX10_lineTold ∈ zbig := zin 20 (by decide +kernel) rfl
theorem zkn_X10_lineTold : Cond.initialized (yX10_lineTold).cls ∈ zbig := zin 44 (by decide +kernel) rfl
theorem zk_X10_lengthOf : Cond.code yX10_lengthOf cX10_lengthOf 2 (some .int) ∈ zbig := zin 989 (by decide +kernel) rfl
theorem zki_X10_lengthOf : Cond.instanceMethod yX10_lengthOf ∈ zbig := zin 988 (by decide +kernel) rfl
theorem zks_X10_lengthOf : Cond.selects (yX10_lengthOf).cls yX10_lengthOf yX10_lengthOf ∈ zbig := zin 21 (by decide +kernel) rfl
theorem zkn_X10_lengthOf : Cond.initialized (yX10_lengthOf).cls ∈ zbig := zin 44 (by decide +kernel) rfl
theorem zk_X10_dropOf : Cond.code yX10_dropOf cX10_dropOf 2 (some .int) ∈ zbig := zin 994 (by decide +kernel) rfl
theorem zki_X10_dropOf : Cond.instanceMethod yX10_dropOf ∈ zbig := zin 993 (by decide +kernel) rfl
theorem zks_X10_dropOf : Cond.selects (yX10_dropOf).cls yX10_dropOf yX10_dropOf ∈ zbig := zin 22 (by decide +kernel) rfl
theorem zkn_X10_dropOf : Cond.initialized (yX10_dropOf).cls ∈ zbig := zin 44 (by decide +kernel) rfl
theorem zk_X9_riding : Cond.code yX9_riding cX9_riding 4 (some .int) ∈ zbig := zin 998 (by decide +kernel) rfl
theorem zki_X9_riding : Cond.instanceMethod yX9_riding ∈ zbig := zin 996 (by decide +kernel) rfl
theorem zks_X9_riding : Cond.selects (yX9_riding).cls yX9_riding yX9_riding ∈ zbig := zin 997 (by decide +kernel) rfl
theorem zkn_X9_riding : Cond.initialized (yX9_riding).cls ∈ zbig := zin 45 (by decide +kernel) rfl
theorem zk_X10_isClosed : Cond.code yX10_isClosed cX10_isClosed 3 (some .boolean) ∈ zbig := zin 1002 (by decide +kernel) rfl
theorem zki_X10_isClosed : Cond.instanceMethod yX10_isClosed ∈ zbig := zin 1001 (by decide +kernel) rfl
theorem zks_X10_isClosed : Cond.selects (yX10_isClosed).cls yX10_isClosed yX10_isClosed ∈ zbig := zin 23 (by decide +kernel) rfl
theorem zkn_X10_isClosed : Cond.initialized (yX10_isClosed).cls ∈ zbig := zin 44 (by decide +kernel) rfl
theorem zk_X10_ride : Cond.code yX10_ride cX10_ride 3 (some .int) ∈ zbig := zin 1006 (by decide +kernel) rfl
theorem zki_X10_ride : Cond.instanceMethod yX10_ride ∈ zbig := zin 1004 (by decide +kernel) rfl
theorem zks_X10_ride : Cond.selects (yX10_ride).cls yX10_ride yX10_ride ∈ zbig := zin 1005 (by decide +kernel) rfl
theorem zkn_X10_ride : Cond.initialized (yX10_ride).cls ∈ zbig := zin 44 (by decide +kernel) rfl
theorem zk_X10_rideOf : Cond.code yX10_rideOf cX10_rideOf 5 (some .int) ∈ zbig := zin 1010 (by decide +kernel) rfl
theorem zki_X10_rideOf : Cond.instanceMethod yX10_rideOf ∈ zbig := zin 1009 (by decide +kernel) rfl
theorem zks_X10_rideOf : Cond.selects (yX10_rideOf).cls yX10_rideOf yX10_rideOf ∈ zbig := zin 24 (by decide +kernel) rfl
theorem zkn_X10_rideOf : Cond.initialized (yX10_rideOf).cls ∈ zbig := zin 44 (by decide +kernel) rfl
theorem zk_X10_come : Cond.code yX10_come cX10_come 5 (some .int) ∈ zbig := zin 1014 (by decide +kernel) rfl
theorem zki_X10_come : Cond.instanceMethod yX10_come ∈ zbig := zin 1012 (by decide +kernel) rfl
theorem zks_X10_come : Cond.selects (yX10_come).cls yX10_come yX10_come ∈ zbig := zin 1013 (by decide +kernel) rfl
theorem zkn_X10_come : Cond.initialized (yX10_come).cls ∈ zbig := zin 44 (by decide +kernel) rfl
theorem zk_X9_come : Cond.code yX9_come cX9_come 3 none ∈ zbig := zin 1018 (by decide +kernel) rfl
theorem zki_X9_come : Cond.instanceMethod yX9_come ∈ zbig := zin 1016 (by decide +kernel) rfl
theorem zks_X9_come : Cond.selects (yX9_come).cls yX9_come yX9_come ∈ zbig := zin 1017 (by decide +kernel) rfl
theorem zkn_X9_come : Cond.initialized (yX9_come).cls ∈ zbig := zin 45 (by decide +kernel) rfl
theorem zk_X10_rider : Cond.code yX10_rider cX10_rider 3 (some .int) ∈ zbig := zin 1022 (by decide +kernel) rfl
theorem zki_X10_rider : Cond.instanceMethod yX10_rider ∈ zbig := zin 1020 (by decide +kernel) rfl
theorem zks_X10_rider : Cond.selects (yX10_rider).cls yX10_rider yX10_rider ∈ zbig := zin 1021 (by decide +kernel) rfl
theorem zkn_X10_rider : Cond.initialized (yX10_rider).cls ∈ zbig := zin 44 (by decide +kernel) rfl
theorem zk_X10_riderTold : Cond.code yX10_riderTold cX10_riderTold 4 (some .int) ∈ zbig := zin 1026 (by decide +kernel) rfl
theorem zki_X10_riderTold : Cond.instanceMethod yX10_riderTold ∈ zbig := zin 1025 (by decide +kernel) rfl
theorem zks_X10_riderTold : Cond.selects (yX10_riderTold).cls yX10_riderTold yX10_riderTold ∈ zbig := zin 25 (by decide +kernel) rfl
theorem zkn_X10_riderTold : Cond.initialized (yX10_riderTold).cls ∈ zbig := zin 44 (by decide +kernel) rfl
theorem zk_X9_leftOf : Cond.code yX9_leftOf cX9_leftOf 3 (some .int) ∈ zbig := zin 1030 (by decide +kernel) rfl
theorem zki_X9_leftOf : Cond.instanceMethod yX9_leftOf ∈ zbig := zin 1028 (by decide +kernel) rfl
theorem zks_X9_leftOf : Cond.selects (yX9_leftOf).cls yX9_leftOf yX9_leftOf ∈ zbig := zin 1029 (by decide +kernel) rfl
theorem zkn_X9_leftOf : Cond.initialized (yX9_leftOf).cls ∈ zbig := zin 45 (by decide +kernel) rfl
theorem zk_X10_fewest : Cond.code yX10_fewest cX10_fewest 7 (some .int) ∈ zbig := zin 1034 (by decide +kernel) rfl
theorem zki_X10_fewest : Cond.instanceMethod yX10_fewest ∈ zbig := zin 1033 (by decide +kernel) rfl
theorem zks_X10_fewest : Cond.selects (yX10_fewest).cls yX10_fewest yX10_fewest ∈ zbig := zin 26 (by decide +kernel) rfl
theorem zkn_X10_fewest : Cond.initialized (yX10_fewest).cls ∈ zbig := zin 44 (by decide +kernel) rfl
theorem zk_X10_first : Cond.code yX10_first cX10_first 6 (some .int) ∈ zbig := zin 1039 (by decide +kernel) rfl
theorem zki_X10_first : Cond.instanceMethod yX10_first ∈ zbig := zin 1038 (by decide +kernel) rfl
theorem zks_X10_first : Cond.selects (yX10_first).cls yX10_first yX10_first ∈ zbig := zin 27 (by decide +kernel) rfl
theorem zkn_X10_first : Cond.initialized (yX10_first).cls ∈ zbig := zin 44 (by decide +kernel) rfl
theorem zk_X10_queue : Cond.code yX10_queue cX10_queue 3 (some .int) ∈ zbig := zin 1043 (by decide +kernel) rfl
theorem zki_X10_queue : Cond.instanceMethod yX10_queue ∈ zbig := zin 1041 (by decide +kernel) rfl
theorem zks_X10_queue : Cond.selects (yX10_queue).cls yX10_queue yX10_queue ∈ zbig := zin 1042 (by decide +kernel) rfl
theorem zkn_X10_queue : Cond.initialized (yX10_queue).cls ∈ zbig := zin 44 (by decide +kernel) rfl
theorem zk_X10_pass : Cond.code yX10_pass cX10_pass 4 (some .int) ∈ zbig := zin 1047 (by decide +kernel) rfl
theorem zki_X10_pass : Cond.instanceMethod yX10_pass ∈ zbig := zin 1045 (by decide +kernel) rfl
theorem zks_X10_pass : Cond.selects (yX10_pass).cls yX10_pass yX10_pass ∈ zbig := zin 1046 (by decide +kernel) rfl
theorem zkn_X10_pass : Cond.initialized (yX10_pass).cls ∈ zbig := zin 44 (by decide +kernel) rfl
theorem zk_X9_pass : Cond.code yX9_pass cX9_pass 3 (some .int) ∈ zbig := zin 1051 (by decide +kernel) rfl
theorem zki_X9_pass : Cond.instanceMethod yX9_pass ∈ zbig := zin 1049 (by decide +kernel) rfl
theorem zks_X9_pass : Cond.selects (yX9_pass).cls yX9_pass yX9_pass ∈ zbig := zin 1050 (by decide +kernel) rfl
theorem zkn_X9_pass : Cond.initialized (yX9_pass).cls ∈ zbig := zin 45 (by decide +kernel) rfl
theorem zk_X9_many : Cond.code yX9_many cX9_many 4 (some .int) ∈ zbig := zin 1055 (by decide +kernel) rfl
theorem zki_X9_many : Cond.instanceMethod yX9_many ∈ zbig := zin 1053 (by decide +kernel) rfl
theorem zks_X9_many : Cond.selects (yX9_many).cls yX9_many yX9_many ∈ zbig := zin 1054 (by decide +kernel) rfl
theorem zkn_X9_many : Cond.initialized (yX9_many).cls ∈ zbig := zin 45 (by decide +kernel) rfl
theorem zk_X9_roll : Cond.code yX9_roll cX9_roll 5 none ∈ zbig := zin 1059 (by decide +kernel) rfl
theorem zki_X9_roll : Cond.instanceMethod yX9_roll ∈ zbig := zin 1058 (by decide +kernel) rfl
theorem zks_X9_roll : Cond.selects (yX9_roll).cls yX9_roll yX9_roll ∈ zbig := zin 28 (by decide +kernel) rfl
theorem zkn_X9_roll : Cond.initialized (yX9_roll).cls ∈ zbig := zin 45 (by decide +kernel) rfl
theorem zk_X9_begin : Cond.code yX9_begin cX9_begin 5 none ∈ zbig := zin 1066 (by decide +kernel) rfl
theorem zki_X9_begin : Cond.instanceMethod yX9_begin ∈ zbig := zin 1065 (by decide +kernel) rfl
theorem zks_X9_begin : Cond.selects (yX9_begin).cls yX9_begin yX9_begin ∈ zbig := zin 29 (by decide +kernel) rfl
theorem zkn_X9_begin : Cond.initialized (yX9_begin).cls ∈ zbig := zin 45 (by decide +kernel) rfl
theorem zk_X9_strike : Cond.code yX9_strike cX9_strike 4 none ∈ zbig := zin 1071 (by decide +kernel) rfl
theorem zki_X9_strike : Cond.instanceMethod yX9_strike ∈ zbig := zin 1070 (by decide +kernel) rfl
theorem zks_X9_strike : Cond.selects (yX9_strike).cls yX9_strike yX9_strike ∈ zbig := zin 30 (by decide +kernel) rfl
theorem zkn_X9_strike : Cond.initialized (yX9_strike).cls ∈ zbig := zin 45 (by decide +kernel) rfl
theorem zk_X10_count : Cond.code yX10_count cX10_count 2 (some .int) ∈ zbig := zin 1078 (by decide +kernel) rfl
theorem zki_X10_count : Cond.instanceMethod yX10_count ∈ zbig := zin 1076 (by decide +kernel) rfl
theorem zks_X10_count : Cond.selects (yX10_count).cls yX10_count yX10_count ∈ zbig := zin 1077 (by decide +kernel) rfl
theorem zkn_X10_count : Cond.initialized (yX10_count).cls ∈ zbig := zin 44 (by decide +kernel) rfl
theorem zk_X10_counted : Cond.code yX10_counted cX10_counted 5 (some .int) ∈ zbig := zin 1082 (by decide +kernel) rfl
theorem zki_X10_counted : Cond.instanceMethod yX10_counted ∈ zbig := zin 1081 (by decide +kernel) rfl
theorem zks_X10_counted : Cond.selects (yX10_counted).cls yX10_counted yX10_counted ∈ zbig := zin 31 (by decide +kernel) rfl
theorem zkn_X10_counted : Cond.initialized (yX10_counted).cls ∈ zbig := zin 44 (by decide +kernel) rfl
theorem zk_X10_way : Cond.code yX10_way cX10_way 4 (some .int) ∈ zbig := zin 1087 (by decide +kernel) rfl
theorem zki_X10_way : Cond.instanceMethod yX10_way ∈ zbig := zin 1085 (by decide +kernel) rfl
theorem zks_X10_way : Cond.selects (yX10_way).cls yX10_way yX10_way ∈ zbig := zin 1086 (by decide +kernel) rfl
theorem zkn_X10_way : Cond.initialized (yX10_way).cls ∈ zbig := zin 44 (by decide +kernel) rfl
theorem zk_X10_arrives : Cond.code yX10_arrives cX10_arrives 3 (some .int) ∈ zbig := zin 1091 (by decide +kernel) rfl
theorem zki_X10_arrives : Cond.instanceMethod yX10_arrives ∈ zbig := zin 1089 (by decide +kernel) rfl
theorem zks_X10_arrives : Cond.selects (yX10_arrives).cls yX10_arrives yX10_arrives ∈ zbig := zin 1090 (by decide +kernel) rfl
theorem zkn_X10_arrives : Cond.initialized (yX10_arrives).cls ∈ zbig := zin 44 (by decide +kernel) rfl
theorem zk_X9_become : Cond.code yX9_become cX9_become 2 none ∈ zbig := zin 1095 (by decide +kernel) rfl
theorem zki_X9_become : Cond.instanceMethod yX9_become ∈ zbig := zin 1093 (by decide +kernel) rfl
theorem zks_X9_become : Cond.selects (yX9_become).cls yX9_become yX9_become ∈ zbig := zin 1094 (by decide +kernel) rfl
theorem zkn_X9_become : Cond.initialized (yX9_become).cls ∈ zbig := zin 45 (by decide +kernel) rfl
theorem zk_X9_copy : Cond.code yX9_copy cX9_copy 3 none ∈ zbig := zin 1099 (by decide +kernel) rfl
theorem zki_X9_copy : Cond.instanceMethod yX9_copy ∈ zbig := zin 1098 (by decide +kernel) rfl
theorem zks_X9_copy : Cond.selects (yX9_copy).cls yX9_copy yX9_copy ∈ zbig := zin 32 (by decide +kernel) rfl
theorem zkn_X9_copy : Cond.initialized (yX9_copy).cls ∈ zbig := zin 45 (by decide +kernel) rfl
theorem zk_X10_advise : Cond.code yX10_advise cX10_advise 6 (some .int) ∈ zbig := zin 1106 (by decide +kernel) rfl
theorem zki_X10_advise : Cond.instanceMethod yX10_advise ∈ zbig := zin 1104 (by decide +kernel) rfl
theorem zks_X10_advise : Cond.selects (yX10_advise).cls yX10_advise yX10_advise ∈ zbig := zin 1105 (by decide +kernel) rfl
theorem zkn_X10_advise : Cond.initialized (yX10_advise).cls ∈ zbig := zin 44 (by decide +kernel) rfl
theorem zk_X10_arrivedIn : Cond.code yX10_arrivedIn cX10_arrivedIn 3 (some .int) ∈ zbig := zin 1110 (by decide +kernel) rfl
theorem zki_X10_arrivedIn : Cond.instanceMethod yX10_arrivedIn ∈ zbig := zin 1109 (by decide +kernel) rfl
theorem zks_X10_arrivedIn : Cond.selects (yX10_arrivedIn).cls yX10_arrivedIn yX10_arrivedIn ∈ zbig := zin 33 (by decide +kernel) rfl
theorem zkn_X10_arrivedIn : Cond.initialized (yX10_arrivedIn).cls ∈ zbig := zin 44 (by decide +kernel) rfl
theorem zk_X10_mean : Cond.code yX10_mean cX10_mean 3 (some .double) ∈ zbig := zin 1114 (by decide +kernel) rfl
theorem zki_X10_mean : Cond.instanceMethod yX10_mean ∈ zbig := zin 1112 (by decide +kernel) rfl
theorem zks_X10_mean : Cond.selects (yX10_mean).cls yX10_mean yX10_mean ∈ zbig := zin 1113 (by decide +kernel) rfl
theorem zkn_X10_mean : Cond.initialized (yX10_mean).cls ∈ zbig := zin 44 (by decide +kernel) rfl
theorem zk_X10_digest : Cond.code yX10_digest cX10_digest 5 (some .long) ∈ zbig := zin 1118 (by decide +kernel) rfl
theorem zki_X10_digest : Cond.instanceMethod yX10_digest ∈ zbig := zin 1116 (by decide +kernel) rfl
theorem zks_X10_digest : Cond.selects (yX10_digest).cls yX10_digest yX10_digest ∈ zbig := zin 1117 (by decide +kernel) rfl
theorem zkn_X10_digest : Cond.initialized (yX10_digest).cls ∈ zbig := zin 44 (by decide +kernel) rfl
theorem zlX8_9 : zLI RX8 9 yX0_init cX0_init 2 0 := ⟨zc1 (zin 64 (by decide +kernel) rfl) (zc1 zki_X0_init (zc1 zkn_X0_init (zc1 zk_X0_init zc0))), rfl, by decide, by decide, by decide +kernel⟩
theorem zlX8_18 : zLI RX8 18 yX5_init cX5_init 3 1 := ⟨zc1 (zin 206 (by decide +kernel) rfl) (zc1 zki_X5_init (zc1 zkn_X5_init (zc1 zk_X5_init zc0))), rfl, by decide, by decide, by decide +kernel⟩
theorem zlX8_30 : zLIN RX8 30 yX4_init cX4_init 1 0 := ⟨⟨"ZipCanopy", znin 303 (by decide +kernel) rfl⟩, zc1 zki_X4_init (zc1 zkn_X4_init (zc1 zk_X4_init zc0)), rfl, by decide, by decide, by decide +kernel⟩
theorem zlX8_35 : zLS RX8 35 yX8_within cX8_within 3 (some .boolean) 3 := ⟨zc1 (zin 418 (by decide +kernel) rfl) (zc1 zkt_X8_within (zc1 zkn_X8_within (zc1 zk_X8_within zc0))), by decide, by decide, by decide +kernel⟩
theorem zlX8_46 : zLV RX8 46 yX0_hasPlatformAt cX0_hasPlatformAt 4 (some .boolean) 2 := ⟨zc1 (zin 487 (by decide +kernel) rfl) (zc1 zki_X0_hasPlatformAt (zc1 zks_X0_hasPlatformAt (zc1 zkn_X0_hasPlatformAt (zc1 zk_X0_hasPlatformAt zc0)))), by decide, by decide, by decide +kernel⟩
theorem zlX8_59 : zLV RX8 59 yX0_addPlatform cX0_addPlatform 5 (some .int) 3 := ⟨zc1 (zin 507 (by decide +kernel) rfl) (zc1 zki_X0_addPlatform (zc1 zks_X0_addPlatform (zc1 zkn_X0_addPlatform (zc1 zk_X0_addPlatform zc0)))), by decide, by decide, by decide +kernel⟩
theorem zlX8_63 : zLV RX8 63 yX8_isPlatform cX8_isPlatform 2 (some .boolean) 1 := ⟨zc1 (zin 519 (by decide +kernel) rfl) (zc1 zki_X8_isPlatform (zc1 zks_X8_isPlatform (zc1 zkn_X8_isPlatform (zc1 zk_X8_isPlatform zc0)))), by decide, by decide, by decide +kernel⟩
theorem zlX8_72 : zLV RX8 72 yX0_isLower cX0_isLower 3 (some .boolean) 2 := ⟨zc1 (zin 539 (by decide +kernel) rfl) (zc1 zki_X0_isLower (zc1 zks_X0_isLower (zc1 zkn_X0_isLower (zc1 zk_X0_isLower zc0)))), by decide, by decide, by decide +kernel⟩
theorem zlX8_82 : zLV RX8 82 yX0_addLine cX0_addLine 7 (some .int) 3 := ⟨zc1 (zin 545 (by decide +kernel) rfl) (zc1 zki_X0_addLine (zc1 zks_X0_addLine (zc1 zkn_X0_addLine (zc1 zk_X0_addLine zc0)))), by decide, by decide, by decide +kernel⟩
theorem zlX8_85 : zLV RX8 85 yX5_addTrolleys cX5_addTrolleys 3 none 2 := ⟨zc1 (zin 573 (by decide +kernel) rfl) (zc1 zki_X5_addTrolleys (zc1 zks_X5_addTrolleys (zc1 zkn_X5_addTrolleys (zc1 zk_X5_addTrolleys zc0)))), by decide, by decide, by decide +kernel⟩
theorem zlX8_89 : zLV RX8 89 yX8_isLine cX8_isLine 2 (some .boolean) 1 := ⟨zc1 (zin 584 (by decide +kernel) rfl) (zc1 zki_X8_isLine (zc1 zks_X8_isLine (zc1 zkn_X8_isLine (zc1 zk_X8_isLine zc0)))), by decide, by decide, by decide +kernel⟩
theorem zlX8_98 : zLV RX8 98 yX7_inAll cX7_inAll 1 (some .int) 0 := ⟨zc1 (zin 379 (by decide +kernel) rfl) (zc1 zki_X7_inAll (zc1 zks_X7_inAll (zc1 zkn_X7_inAll (zc1 zk_X7_inAll zc0)))), by decide, by decide, by decide +kernel⟩
theorem zlX8_116 : zLV RX8 116 yX8_platformFact cX8_platformFact 4 (some .int) 2 := ⟨zc1 (zin 351 (by decide +kernel) rfl) (zc1 zki_X8_platformFact (zc1 zks_X8_platformFact (zc1 zkn_X8_platformFact (zc1 zk_X8_platformFact zc0)))), by decide, by decide, by decide +kernel⟩
theorem zlX8_122 : zLV RX8 122 yX8_lineFact cX8_lineFact 5 (some .int) 2 := ⟨zc1 (zin 375 (by decide +kernel) rfl) (zc1 zki_X8_lineFact (zc1 zks_X8_lineFact (zc1 zkn_X8_lineFact (zc1 zk_X8_lineFact zc0)))), by decide, by decide, by decide +kernel⟩
theorem zlX8_125 : zLS RX8 125 yX8_isWeight cX8_isWeight 1 (some .boolean) 1 := ⟨zc1 (zin 622 (by decide +kernel) rfl) (zc1 zkt_X8_isWeight (zc1 zkn_X8_isWeight (zc1 zk_X8_isWeight zc0))), by decide, by decide, by decide +kernel⟩
theorem zlX8_134 : zLV RX8 134 yX1_carries cX1_carries 2 (some .boolean) 1 := ⟨zc1 (zin 626 (by decide +kernel) rfl) (zc1 zki_X1_carries (zc1 zks_X1_carries (zc1 zkn_X1_carries (zc1 zk_X1_carries zc0)))), by decide, by decide, by decide +kernel⟩
theorem zlX8_139 : zLV RX8 139 yX1_getsStuck cX1_getsStuck 2 (some .boolean) 1 := ⟨zc1 (zin 627 (by decide +kernel) rfl) (zc1 zki_X1_getsStuck (zc1 zks_X1_getsStuck (zc1 zkn_X1_getsStuck (zc1 zk_X1_getsStuck zc0)))), by decide, by decide, by decide +kernel⟩
theorem zlX8_142 : zLV RX8 142 yX1_rideMinutes cX1_rideMinutes 4 (some .int) 1 := ⟨zc1 (zin 631 (by decide +kernel) rfl) (zc1 zki_X1_rideMinutes (zc1 zks_X1_rideMinutes (zc1 zkn_X1_rideMinutes (zc1 zk_X1_rideMinutes zc0)))), by decide, by decide, by decide +kernel⟩
theorem zlX8_155 : zLV RX8 155 yX0_addRider cX0_addRider 6 (some .int) 3 := ⟨zc1 (zin 646 (by decide +kernel) rfl) (zc1 zki_X0_addRider (zc1 zks_X0_addRider (zc1 zkn_X0_addRider (zc1 zk_X0_addRider zc0)))), by decide, by decide, by decide +kernel⟩
theorem zlX8_158 : zLV RX8 158 yX5_reach cX5_reach 3 none 2 := ⟨zc1 (zin 650 (by decide +kernel) rfl) (zc1 zki_X5_reach (zc1 zks_X5_reach (zc1 zkn_X5_reach (zc1 zk_X5_reach zc0)))), by decide, by decide, by decide +kernel⟩
theorem zlX8_161 : zLV RX8 161 yX8_isRider cX8_isRider 2 (some .boolean) 1 := ⟨zc1 (zin 669 (by decide +kernel) rfl) (zc1 zki_X8_isRider (zc1 zks_X8_isRider (zc1 zkn_X8_isRider (zc1 zk_X8_isRider zc0)))), by decide, by decide, by decide +kernel⟩
theorem zlX8_166 : zLV RX8 166 yX8_riderFact cX8_riderFact 5 (some .int) 2 := ⟨zc1 (zin 391 (by decide +kernel) rfl) (zc1 zki_X8_riderFact (zc1 zks_X8_riderFact (zc1 zkn_X8_riderFact (zc1 zk_X8_riderFact zc0)))), by decide, by decide, by decide +kernel⟩
theorem zlX8_169 : zLV RX8 169 yX5_queueLength cX5_queueLength 4 (some .int) 1 := ⟨zc1 (zin 355 (by decide +kernel) rfl) (zc1 zki_X5_queueLength (zc1 zks_X5_queueLength (zc1 zkn_X5_queueLength (zc1 zk_X5_queueLength zc0)))), by decide, by decide, by decide +kernel⟩
theorem zlX8_174 : zLV RX8 174 yX5_inQueue cX5_inQueue 5 (some .int) 2 := ⟨zc1 (zin 359 (by decide +kernel) rfl) (zc1 zki_X5_inQueue (zc1 zks_X5_inQueue (zc1 zkn_X5_inQueue (zc1 zk_X5_inQueue zc0)))), by decide, by decide, by decide +kernel⟩
theorem zlX8_179 : zLV RX8 179 yX5_goOn cX5_goOn 4 (some .int) 1 := ⟨zc1 (zin 690 (by decide +kernel) rfl) (zc1 zki_X5_goOn (zc1 zks_X5_goOn (zc1 zkn_X5_goOn (zc1 zk_X5_goOn zc0)))), by decide, by decide, by decide +kernel⟩
theorem zlX8_184 : zLV RX8 184 yX8_countFact cX8_countFact 2 (some .int) 1 := ⟨zc1 (zin 327 (by decide +kernel) rfl) (zc1 zki_X8_countFact (zc1 zks_X8_countFact (zc1 zkn_X8_countFact (zc1 zk_X8_countFact zc0)))), by decide, by decide, by decide +kernel⟩
theorem zlX8_187 : zLV RX8 187 yX4_plan cX4_plan 6 none 3 := ⟨zc1 (zin 771 (by decide +kernel) rfl) (zc1 zki_X4_plan (zc1 zks_X4_plan (zc1 zkn_X4_plan (zc1 zk_X4_plan zc0)))), by decide, by decide, by decide +kernel⟩
theorem zlX8_191 : zLV RX8 191 yX4_linesFrom cX4_linesFrom 2 (some .int) 1 := ⟨zc1 (zin 395 (by decide +kernel) rfl) (zc1 zki_X4_linesFrom (zc1 zks_X4_linesFrom (zc1 zkn_X4_linesFrom (zc1 zk_X4_linesFrom zc0)))), by decide, by decide, by decide +kernel⟩
theorem zlX8_196 : zLV RX8 196 yX5_copyFrom cX5_copyFrom 3 none 1 := ⟨zc1 (zin 780 (by decide +kernel) rfl) (zc1 zki_X5_copyFrom (zc1 zks_X5_copyFrom (zc1 zkn_X5_copyFrom (zc1 zk_X5_copyFrom zc0)))), by decide, by decide, by decide +kernel⟩
theorem zlX8_204 : zLV RX8 204 yX6_isUnderWay cX6_isUnderWay 1 (some .boolean) 0 := ⟨zc1 (zin 792 (by decide +kernel) rfl) (zc1 zki_X6_isUnderWay (zc1 zks_X6_isUnderWay (zc1 zkn_X6_isUnderWay (zc1 zk_X6_isUnderWay zc0)))), by decide, by decide, by decide +kernel⟩
theorem zlX8_210 : zLV RX8 210 yX5_passMinute cX5_passMinute 2 none 0 := ⟨zc1 (zin 796 (by decide +kernel) rfl) (zc1 zki_X5_passMinute (zc1 zks_X5_passMinute (zc1 zkn_X5_passMinute (zc1 zk_X5_passMinute zc0)))), by decide, by decide, by decide +kernel⟩
theorem zlX8_218 : zLV RX8 218 yX8_arrivalsWithOneMore cX8_arrivalsWithOneMore 3 (some .int) 2 := ⟨zc1 (zin 805 (by decide +kernel) rfl) (zc1 zki_X8_arrivalsWithOneMore (zc1 zks_X8_arrivalsWithOneMore (zc1 zkn_X8_arrivalsWithOneMore (zc1 zk_X8_arrivalsWithOneMore zc0)))), by decide, by decide, by decide +kernel⟩
theorem zlX8_228 : zLV RX8 228 yX8_digestPlatform cX8_digestPlatform 7 (some .long) 2 := ⟨zc1 (zin 347 (by decide +kernel) rfl) (zc1 zki_X8_digestPlatform (zc1 zks_X8_digestPlatform (zc1 zkn_X8_digestPlatform (zc1 zk_X8_digestPlatform zc0)))), by decide, by decide, by decide +kernel⟩
theorem zlX8_247 : zLV RX8 247 yX0_linesWithTop cX0_linesWithTop 4 (some .int) 1 := ⟨zc1 (zin 363 (by decide +kernel) rfl) (zc1 zki_X0_linesWithTop (zc1 zks_X0_linesWithTop (zc1 zkn_X0_linesWithTop (zc1 zk_X0_linesWithTop zc0)))), by decide, by decide, by decide +kernel⟩
theorem zlX8_250 : zLV RX8 250 yX0_linesWithBottom cX0_linesWithBottom 4 (some .int) 1 := ⟨zc1 (zin 367 (by decide +kernel) rfl) (zc1 zki_X0_linesWithBottom (zc1 zks_X0_linesWithBottom (zc1 zkn_X0_linesWithBottom (zc1 zk_X0_linesWithBottom zc0)))), by decide, by decide, by decide +kernel⟩
theorem zlX8_253 : zLV RX8 253 yX5_arrivedAt cX5_arrivedAt 4 (some .int) 1 := ⟨zc1 (zin 371 (by decide +kernel) rfl) (zc1 zki_X5_arrivedAt (zc1 zks_X5_arrivedAt (zc1 zkn_X5_arrivedAt (zc1 zk_X5_arrivedAt zc0)))), by decide, by decide, by decide +kernel⟩
theorem zlX8_274 : zLV RX8 274 yX7_ridden cX7_ridden 3 (some .int) 0 := ⟨zc1 (zin 380 (by decide +kernel) rfl) (zc1 zki_X7_ridden (zc1 zks_X7_ridden (zc1 zkn_X7_ridden (zc1 zk_X7_ridden zc0)))), by decide, by decide, by decide +kernel⟩
theorem zlX8_286 : zLV RX8 286 yX0_isClosed cX0_isClosed 4 (some .boolean) 2 := ⟨zc1 (zin 384 (by decide +kernel) rfl) (zc1 zki_X0_isClosed (zc1 zks_X0_isClosed (zc1 zkn_X0_isClosed (zc1 zk_X0_isClosed zc0)))), by decide, by decide, by decide +kernel⟩
theorem zlX8_317 : zLS RX8 317 yJ9_max_7cf53 cJ9_max_7cf53 2 (some .int) 2 := ⟨zc1 (zin 402 (by decide +kernel) rfl) (zc1 zkt_J9_max_7cf53 (zc1 zkn_J9_max_7cf53 (zc1 zk_J9_max_7cf53 zc0))), by decide, by decide, by decide +kernel⟩
theorem zlX8_322 : zLV RX8 322 yX4_firstFrom cX4_firstFrom 2 (some .int) 1 := ⟨zc1 (zin 405 (by decide +kernel) rfl) (zc1 zki_X4_firstFrom (zc1 zks_X4_firstFrom (zc1 zkn_X4_firstFrom (zc1 zk_X4_firstFrom zc0)))), by decide, by decide, by decide +kernel⟩
theorem zlX8_328 : zLV RX8 328 yX5_ridersIn cX5_ridersIn 4 (some .int) 1 := ⟨zc1 (zin 331 (by decide +kernel) rfl) (zc1 zki_X5_ridersIn (zc1 zks_X5_ridersIn (zc1 zkn_X5_ridersIn (zc1 zk_X5_ridersIn zc0)))), by decide, by decide, by decide +kernel⟩
theorem zlX8_331 : zLV RX8 331 yX5_trolleysInAll cX5_trolleysInAll 3 (some .int) 0 := ⟨zc1 (zin 335 (by decide +kernel) rfl) (zc1 zki_X5_trolleysInAll (zc1 zks_X5_trolleysInAll (zc1 zkn_X5_trolleysInAll (zc1 zk_X5_trolleysInAll zc0)))), by decide, by decide, by decide +kernel⟩
theorem zlX8_334 : zLV RX8 334 yX5_ridesInAll cX5_ridesInAll 3 (some .int) 0 := ⟨zc1 (zin 343 (by decide +kernel) rfl) (zc1 zki_X5_ridesInAll (zc1 zks_X5_ridesInAll (zc1 zkn_X5_ridesInAll (zc1 zk_X5_ridesInAll zc0)))), by decide, by decide, by decide +kernel⟩
theorem zlX0_33 : zLIN RX0 33 yX2_init cX2_init 1 0 := ⟨⟨"ZipCanopy", znin 75 (by decide +kernel) rfl⟩, zc1 zki_X2_init (zc1 zkn_X2_init (zc1 zk_X2_init zc0)), rfl, by decide, by decide, by decide +kernel⟩
theorem zlX0_34 : zLIN RX0 34 yX1_init cX1_init 1 0 := ⟨⟨"ZipCanopy", znin 96 (by decide +kernel) rfl⟩, zc1 zki_X1_init (zc1 zkn_X1_init (zc1 zk_X1_init zc0)), rfl, by decide, by decide, by decide +kernel⟩
theorem zlX0_35 : zLIN RX0 35 yX3_init cX3_init 1 0 := ⟨⟨"ZipCanopy", znin 128 (by decide +kernel) rfl⟩, zc1 zki_X3_init (zc1 zkn_X3_init (zc1 zk_X3_init zc0)), rfl, by decide, by decide, by decide +kernel⟩
theorem zlX0_61 : zLV RX0 61 yX2_distanceTo cX2_distanceTo 2 (some .int) 1 := ⟨zc1 (zin 549 (by decide +kernel) rfl) (zc1 zki_X2_distanceTo (zc1 zks_X2_distanceTo (zc1 zkn_X2_distanceTo (zc1 zk_X2_distanceTo zc0)))), by decide, by decide, by decide +kernel⟩
theorem zlX0_74 : zLV RX0 74 yX3_planRoute cX3_planRoute 2 none 1 := ⟨zc1 (zin 556 (by decide +kernel) rfl) (zc1 zki_X3_planRoute (zc1 zks_X3_planRoute (zc1 zkn_X3_planRoute (zc1 zk_X3_planRoute zc0)))), by decide, by decide, by decide +kernel⟩
theorem zlX0_87 : zLS RX0 87 yJ9_floorMod_7cf53 cJ9_floorMod_7cf53 3 (some .int) 2 := ⟨zc1 (zin 388 (by decide +kernel) rfl) (zc1 zkt_J9_floorMod_7cf53 (zc1 zkn_J9_floorMod_7cf53 (zc1 zk_J9_floorMod_7cf53 zc0))), by decide, by decide, by decide +kernel⟩
theorem zlX1_19 : zLV RX1 19 yX1_getsStuck cX1_getsStuck 2 (some .boolean) 1 := ⟨zc1 (zin 635 (by decide +kernel) rfl) (zc1 zki_X1_getsStuck (zc1 zks_X1_getsStuck (zc1 zkn_X1_getsStuck (zc1 zk_X1_getsStuck zc0)))), by decide, by decide, by decide +kernel⟩
theorem zlX2_13 : zLS RX2 13 yJ9_abs_0f7a4 cJ9_abs_0f7a4 1 (some .int) 1 := ⟨zc1 (zin 553 (by decide +kernel) rfl) (zc1 zkt_J9_abs_0f7a4 (zc1 zkn_J9_abs_0f7a4 (zc1 zk_J9_abs_0f7a4 zc0))), by decide, by decide, by decide +kernel⟩
theorem zlX3_9 : zLIN RX3 9 yX4_init cX4_init 1 0 := ⟨⟨"ZipCanopy", znin 134 (by decide +kernel) rfl⟩, zc1 zki_X4_init (zc1 zkn_X4_init (zc1 zk_X4_init zc0)), rfl, by decide, by decide, by decide +kernel⟩
theorem zlX3_23 : zLV RX3 23 yX4_plan cX4_plan 6 none 3 := ⟨zc1 (zin 560 (by decide +kernel) rfl) (zc1 zki_X4_plan (zc1 zks_X4_plan (zc1 zkn_X4_plan (zc1 zk_X4_plan zc0)))), by decide, by decide, by decide +kernel⟩
theorem zlX4_30 : zLV RX4 30 yX4_extend cX4_extend 6 none 4 := ⟨zc1 (zin 564 (by decide +kernel) rfl) (zc1 zki_X4_extend (zc1 zks_X4_extend (zc1 zkn_X4_extend (zc1 zk_X4_extend zc0)))), by decide, by decide, by decide +kernel⟩
theorem zlX4_39 : zLSN RX4 39 yX8_within cX8_within 3 (some .boolean) 3 := ⟨⟨"ZipCanopy", znin 399 (by decide +kernel) rfl⟩, zc1 zkt_X8_within (zc1 zkn_X8_within (zc1 zk_X8_within zc0)), by decide, by decide, by decide +kernel⟩
theorem zlX4_43 : zLV RX4 43 yX1_carries cX1_carries 2 (some .boolean) 1 := ⟨zc1 (zin 568 (by decide +kernel) rfl) (zc1 zki_X1_carries (zc1 zks_X1_carries (zc1 zkn_X1_carries (zc1 zk_X1_carries zc0)))), by decide, by decide, by decide +kernel⟩
theorem zlX4_50 : zLV RX4 50 yX4_linesFrom cX4_linesFrom 2 (some .int) 1 := ⟨zc1 (zin 572 (by decide +kernel) rfl) (zc1 zki_X4_linesFrom (zc1 zks_X4_linesFrom (zc1 zkn_X4_linesFrom (zc1 zk_X4_linesFrom zc0)))), by decide, by decide, by decide +kernel⟩
theorem zlX5_31 : zLI RX5 31 yX6_init cX6_init 1 0 := ⟨zc1 (zin 215 (by decide +kernel) rfl) (zc1 zki_X6_init (zc1 zkn_X6_init (zc1 zk_X6_init zc0))), rfl, by decide, by decide, by decide +kernel⟩
theorem zlX5_32 : zLIN RX5 32 yX7_init cX7_init 1 0 := ⟨⟨"ZipCanopy", znin 248 (by decide +kernel) rfl⟩, zc1 zki_X7_init (zc1 zkn_X7_init (zc1 zk_X7_init zc0)), rfl, by decide, by decide, by decide +kernel⟩
theorem zlX5_39 : zLV RX5 39 yX6_copyFrom cX6_copyFrom 2 none 1 := ⟨zc1 (zin 784 (by decide +kernel) rfl) (zc1 zki_X6_copyFrom (zc1 zks_X6_copyFrom (zc1 zkn_X6_copyFrom (zc1 zk_X6_copyFrom zc0)))), by decide, by decide, by decide +kernel⟩
theorem zlX5_46 : zLV RX5 46 yX7_copyFrom cX7_copyFrom 3 none 1 := ⟨zc1 (zin 788 (by decide +kernel) rfl) (zc1 zki_X7_copyFrom (zc1 zks_X7_copyFrom (zc1 zkn_X7_copyFrom (zc1 zk_X7_copyFrom zc0)))), by decide, by decide, by decide +kernel⟩
theorem zlX5_67 : zLV RX5 67 yX6_arrive cX6_arrive 3 none 2 := ⟨zc1 (zin 654 (by decide +kernel) rfl) (zc1 zki_X6_arrive (zc1 zks_X6_arrive (zc1 zkn_X6_arrive (zc1 zk_X6_arrive zc0)))), by decide, by decide, by decide +kernel⟩
theorem zlX5_71 : zLV RX5 71 yX6_beginWait cX6_beginWait 2 none 1 := ⟨zc1 (zin 658 (by decide +kernel) rfl) (zc1 zki_X6_beginWait (zc1 zks_X6_beginWait (zc1 zkn_X6_beginWait (zc1 zk_X6_beginWait zc0)))), by decide, by decide, by decide +kernel⟩
theorem zlX5_75 : zLV RX5 75 yX5_ridersIn cX5_ridersIn 4 (some .int) 1 := ⟨zc1 (zin 694 (by decide +kernel) rfl) (zc1 zki_X5_ridersIn (zc1 zks_X5_ridersIn (zc1 zkn_X5_ridersIn (zc1 zk_X5_ridersIn zc0)))), by decide, by decide, by decide +kernel⟩
theorem zlX5_79 : zLV RX5 79 yX5_passMinute cX5_passMinute 2 none 0 := ⟨zc1 (zin 695 (by decide +kernel) rfl) (zc1 zki_X5_passMinute (zc1 zks_X5_passMinute (zc1 zkn_X5_passMinute (zc1 zk_X5_passMinute zc0)))), by decide, by decide, by decide +kernel⟩
theorem zlX5_86 : zLV RX5 86 yX5_moveTrolleys cX5_moveTrolleys 5 none 2 := ⟨zc1 (zin 699 (by decide +kernel) rfl) (zc1 zki_X5_moveTrolleys (zc1 zks_X5_moveTrolleys (zc1 zkn_X5_moveTrolleys (zc1 zk_X5_moveTrolleys zc0)))), by decide, by decide, by decide +kernel⟩
theorem zlX5_90 : zLV RX5 90 yX0_isClosed cX0_isClosed 4 (some .boolean) 2 := ⟨zc1 (zin 716 (by decide +kernel) rfl) (zc1 zki_X0_isClosed (zc1 zks_X0_isClosed (zc1 zkn_X0_isClosed (zc1 zk_X0_isClosed zc0)))), by decide, by decide, by decide +kernel⟩
theorem zlX5_94 : zLV RX5 94 yX5_beginRide cX5_beginRide 7 none 2 := ⟨zc1 (zin 717 (by decide +kernel) rfl) (zc1 zki_X5_beginRide (zc1 zks_X5_beginRide (zc1 zkn_X5_beginRide (zc1 zk_X5_beginRide zc0)))), by decide, by decide, by decide +kernel⟩
theorem zlX5_98 : zLV RX5 98 yX5_tireWaiting cX5_tireWaiting 5 none 0 := ⟨zc1 (zin 744 (by decide +kernel) rfl) (zc1 zki_X5_tireWaiting (zc1 zks_X5_tireWaiting (zc1 zkn_X5_tireWaiting (zc1 zk_X5_tireWaiting zc0)))), by decide, by decide, by decide +kernel⟩
theorem zlX5_112 : zLV RX5 112 yX1_pullMinutes cX1_pullMinutes 1 (some .int) 0 := ⟨zc1 (zin 703 (by decide +kernel) rfl) (zc1 zki_X1_pullMinutes (zc1 zks_X1_pullMinutes (zc1 zkn_X1_pullMinutes (zc1 zk_X1_pullMinutes zc0)))), by decide, by decide, by decide +kernel⟩
theorem zlX5_118 : zLV RX5 118 yX7_beginPull cX7_beginPull 3 none 2 := ⟨zc1 (zin 707 (by decide +kernel) rfl) (zc1 zki_X7_beginPull (zc1 zks_X7_beginPull (zc1 zkn_X7_beginPull (zc1 zk_X7_beginPull zc0)))), by decide, by decide, by decide +kernel⟩
theorem zlX5_124 : zLV RX5 124 yX5_reach cX5_reach 3 none 2 := ⟨zc1 (zin 711 (by decide +kernel) rfl) (zc1 zki_X5_reach (zc1 zks_X5_reach (zc1 zkn_X5_reach (zc1 zk_X5_reach zc0)))), by decide, by decide, by decide +kernel⟩
theorem zlX5_127 : zLV RX5 127 yX7_dropPulled cX7_dropPulled 3 none 0 := ⟨zc1 (zin 712 (by decide +kernel) rfl) (zc1 zki_X7_dropPulled (zc1 zks_X7_dropPulled (zc1 zkn_X7_dropPulled (zc1 zk_X7_dropPulled zc0)))), by decide, by decide, by decide +kernel⟩
theorem zlX5_130 : zLV RX5 130 yX5_firstWaitingFor cX5_firstWaitingFor 4 (some .int) 1 := ⟨zc1 (zin 721 (by decide +kernel) rfl) (zc1 zki_X5_firstWaitingFor (zc1 zks_X5_firstWaitingFor (zc1 zkn_X5_firstWaitingFor (zc1 zk_X5_firstWaitingFor zc0)))), by decide, by decide, by decide +kernel⟩
theorem zlX5_133 : zLV RX5 133 yX7_canLeaveTop cX7_canLeaveTop 1 (some .boolean) 0 := ⟨zc1 (zin 726 (by decide +kernel) rfl) (zc1 zki_X7_canLeaveTop (zc1 zks_X7_canLeaveTop (zc1 zkn_X7_canLeaveTop (zc1 zk_X7_canLeaveTop zc0)))), by decide, by decide, by decide +kernel⟩
theorem zlX5_140 : zLV RX5 140 yX1_rideMinutes cX1_rideMinutes 4 (some .int) 1 := ⟨zc1 (zin 730 (by decide +kernel) rfl) (zc1 zki_X1_rideMinutes (zc1 zks_X1_rideMinutes (zc1 zkn_X1_rideMinutes (zc1 zk_X1_rideMinutes zc0)))), by decide, by decide, by decide +kernel⟩
theorem zlX5_143 : zLV RX5 143 yX5_leaveWaiting cX5_leaveWaiting 3 none 1 := ⟨zc1 (zin 731 (by decide +kernel) rfl) (zc1 zki_X5_leaveWaiting (zc1 zks_X5_leaveWaiting (zc1 zkn_X5_leaveWaiting (zc1 zk_X5_leaveWaiting zc0)))), by decide, by decide, by decide +kernel⟩
theorem zlX5_146 : zLV RX5 146 yX6_beginRide cX6_beginRide 3 none 2 := ⟨zc1 (zin 735 (by decide +kernel) rfl) (zc1 zki_X6_beginRide (zc1 zks_X6_beginRide (zc1 zkn_X6_beginRide (zc1 zk_X6_beginRide zc0)))), by decide, by decide, by decide +kernel⟩
theorem zlX5_148 : zLV RX5 148 yX7_leaveTop cX7_leaveTop 3 none 2 := ⟨zc1 (zin 739 (by decide +kernel) rfl) (zc1 zki_X7_leaveTop (zc1 zks_X7_leaveTop (zc1 zkn_X7_leaveTop (zc1 zk_X7_leaveTop zc0)))), by decide, by decide, by decide +kernel⟩
theorem zlX5_154 : zLV RX5 154 yX1_getsStuck cX1_getsStuck 2 (some .boolean) 1 := ⟨zc1 (zin 743 (by decide +kernel) rfl) (zc1 zki_X1_getsStuck (zc1 zks_X1_getsStuck (zc1 zkn_X1_getsStuck (zc1 zk_X1_getsStuck zc0)))), by decide, by decide, by decide +kernel⟩
theorem zlX5_165 : zLV RX5 165 yX4_firstFrom cX4_firstFrom 2 (some .int) 1 := ⟨zc1 (zin 725 (by decide +kernel) rfl) (zc1 zki_X4_firstFrom (zc1 zks_X4_firstFrom (zc1 zkn_X4_firstFrom (zc1 zk_X4_firstFrom zc0)))), by decide, by decide, by decide +kernel⟩
theorem zlX5_170 : zLS RX5 170 yX5_givesUp cX5_givesUp 2 (some .boolean) 2 := ⟨zc1 (zin 748 (by decide +kernel) rfl) (zc1 zkt_X5_givesUp (zc1 zkn_X5_givesUp (zc1 zk_X5_givesUp zc0))), by decide, by decide, by decide +kernel⟩
theorem zlX5_174 : zLV RX5 174 yX6_giveUp cX6_giveUp 1 none 0 := ⟨zc1 (zin 752 (by decide +kernel) rfl) (zc1 zki_X6_giveUp (zc1 zks_X6_giveUp (zc1 zkn_X6_giveUp (zc1 zk_X6_giveUp zc0)))), by decide, by decide, by decide +kernel⟩
theorem zlX5_177 : zLV RX5 177 yX4_linesFrom cX4_linesFrom 2 (some .int) 1 := ⟨zc1 (zin 751 (by decide +kernel) rfl) (zc1 zki_X4_linesFrom (zc1 zks_X4_linesFrom (zc1 zkn_X4_linesFrom (zc1 zk_X4_linesFrom zc0)))), by decide, by decide, by decide +kernel⟩
theorem zlX5_186 : zLV RX5 186 yX7_inAll cX7_inAll 1 (some .int) 0 := ⟨zc1 (zin 339 (by decide +kernel) rfl) (zc1 zki_X7_inAll (zc1 zks_X7_inAll (zc1 zkn_X7_inAll (zc1 zk_X7_inAll zc0)))), by decide, by decide, by decide +kernel⟩
theorem zlL_7 : zLV RL 7 yX8_build cX8_build 4 (some .int) 3 := ⟨zc1 (zin 414 (by decide +kernel) rfl) (zc1 zki_X8_build (zc1 zks_X8_build (zc1 zkn_X8_build (zc1 zk_X8_build zc0)))), by decide, by decide, by decide +kernel⟩
theorem zlL_17 : zLV RL 17 yX8_span cX8_span 6 (some .int) 4 := ⟨zc1 (zin 515 (by decide +kernel) rfl) (zc1 zki_X8_span (zc1 zks_X8_span (zc1 zkn_X8_span (zc1 zk_X8_span zc0)))), by decide, by decide, by decide +kernel⟩
theorem zlL_23 : zLV RL 23 yX8_add cX8_add 2 (some .int) 1 := ⟨zc1 (zin 580 (by decide +kernel) rfl) (zc1 zki_X8_add (zc1 zks_X8_add (zc1 zkn_X8_add (zc1 zk_X8_add zc0)))), by decide, by decide, by decide +kernel⟩
theorem zlL_27 : zLV RL 27 yX8_setWind cX8_setWind 4 (some .int) 2 := ⟨zc1 (zin 593 (by decide +kernel) rfl) (zc1 zki_X8_setWind (zc1 zks_X8_setWind (zc1 zkn_X8_setWind (zc1 zk_X8_setWind zc0)))), by decide, by decide, by decide +kernel⟩
theorem zlL_31 : zLV RL 31 yX8_platform cX8_platform 3 (some .int) 2 := ⟨zc1 (zin 602 (by decide +kernel) rfl) (zc1 zki_X8_platform (zc1 zks_X8_platform (zc1 zkn_X8_platform (zc1 zk_X8_platform zc0)))), by decide, by decide, by decide +kernel⟩
theorem zlL_34 : zLV RL 34 yX8_line cX8_line 3 (some .int) 2 := ⟨zc1 (zin 610 (by decide +kernel) rfl) (zc1 zki_X8_line (zc1 zks_X8_line (zc1 zkn_X8_line (zc1 zk_X8_line zc0)))), by decide, by decide, by decide +kernel⟩
theorem zlL_37 : zLV RL 37 yX8_ride cX8_ride 4 (some .int) 2 := ⟨zc1 (zin 618 (by decide +kernel) rfl) (zc1 zki_X8_ride (zc1 zks_X8_ride (zc1 zkn_X8_ride (zc1 zk_X8_ride zc0)))), by decide, by decide, by decide +kernel⟩
theorem zlL_40 : zLV RL 40 yX8_come cX8_come 6 (some .int) 4 := ⟨zc1 (zin 639 (by decide +kernel) rfl) (zc1 zki_X8_come (zc1 zks_X8_come (zc1 zkn_X8_come (zc1 zk_X8_come zc0)))), by decide, by decide, by decide +kernel⟩
theorem zlL_43 : zLV RL 43 yX8_rider cX8_rider 3 (some .int) 2 := ⟨zc1 (zin 665 (by decide +kernel) rfl) (zc1 zki_X8_rider (zc1 zks_X8_rider (zc1 zkn_X8_rider (zc1 zk_X8_rider zc0)))), by decide, by decide, by decide +kernel⟩
theorem zlL_46 : zLV RL 46 yX8_queue cX8_queue 3 (some .int) 2 := ⟨zc1 (zin 677 (by decide +kernel) rfl) (zc1 zki_X8_queue (zc1 zks_X8_queue (zc1 zkn_X8_queue (zc1 zk_X8_queue zc0)))), by decide, by decide, by decide +kernel⟩
theorem zlL_49 : zLV RL 49 yX8_pass cX8_pass 2 (some .int) 1 := ⟨zc1 (zin 685 (by decide +kernel) rfl) (zc1 zki_X8_pass (zc1 zks_X8_pass (zc1 zkn_X8_pass (zc1 zk_X8_pass zc0)))), by decide, by decide, by decide +kernel⟩
theorem zlL_52 : zLV RL 52 yX8_count cX8_count 2 (some .int) 1 := ⟨zc1 (zin 759 (by decide +kernel) rfl) (zc1 zki_X8_count (zc1 zks_X8_count (zc1 zkn_X8_count (zc1 zk_X8_count zc0)))), by decide, by decide, by decide +kernel⟩
theorem zlL_55 : zLV RL 55 yX8_way cX8_way 4 (some .int) 3 := ⟨zc1 (zin 767 (by decide +kernel) rfl) (zc1 zki_X8_way (zc1 zks_X8_way (zc1 zkn_X8_way (zc1 zk_X8_way zc0)))), by decide, by decide, by decide +kernel⟩
theorem zlL_58 : zLV RL 58 yX8_arrives cX8_arrives 4 (some .int) 1 := ⟨zc1 (zin 775 (by decide +kernel) rfl) (zc1 zki_X8_arrives (zc1 zks_X8_arrives (zc1 zkn_X8_arrives (zc1 zk_X8_arrives zc0)))), by decide, by decide, by decide +kernel⟩
theorem zlL_61 : zLV RL 61 yX8_advise cX8_advise 6 (some .int) 1 := ⟨zc1 (zin 800 (by decide +kernel) rfl) (zc1 zki_X8_advise (zc1 zks_X8_advise (zc1 zkn_X8_advise (zc1 zk_X8_advise zc0)))), by decide, by decide, by decide +kernel⟩
theorem zlL_64 : zLI RL 64 yX8_init cX8_init 1 0 := ⟨zc1 (zin 56 (by decide +kernel) rfl) (zc1 zki_X8_init (zc1 zkn_X8_init (zc1 zk_X8_init zc0))), rfl, by decide, by decide, by decide +kernel⟩
theorem zlL_67 : zLI RL 67 yX10_init cX10_init 1 0 := ⟨zc1 (zin 811 (by decide +kernel) rfl) (zc1 zki_X10_init (zc1 zkn_X10_init (zc1 zk_X10_init zc0))), rfl, by decide, by decide, by decide +kernel⟩
theorem zlL_73 : zLV RL 73 yX10_build cX10_build 6 (some .int) 3 := ⟨zc1 (zin 939 (by decide +kernel) rfl) (zc1 zki_X10_build (zc1 zks_X10_build (zc1 zkn_X10_build (zc1 zk_X10_build zc0)))), by decide, by decide, by decide +kernel⟩
theorem zlL_74 : zLV RL 74 yX10_thrown cX10_thrown 1 (some .int) 0 := ⟨zc1 (zin 935 (by decide +kernel) rfl) (zc1 zki_X10_thrown (zc1 zks_X10_thrown (zc1 zkn_X10_thrown (zc1 zk_X10_thrown zc0)))), by decide, by decide, by decide +kernel⟩
theorem zlL_81 : zLV RL 81 yX10_span cX10_span 5 (some .int) 4 := ⟨zc1 (zin 950 (by decide +kernel) rfl) (zc1 zki_X10_span (zc1 zks_X10_span (zc1 zkn_X10_span (zc1 zk_X10_span zc0)))), by decide, by decide, by decide +kernel⟩
theorem zlL_85 : zLV RL 85 yX10_add cX10_add 2 (some .int) 1 := ⟨zc1 (zin 958 (by decide +kernel) rfl) (zc1 zki_X10_add (zc1 zks_X10_add (zc1 zkn_X10_add (zc1 zk_X10_add zc0)))), by decide, by decide, by decide +kernel⟩
theorem zlL_89 : zLV RL 89 yX10_setWind cX10_setWind 4 (some .int) 2 := ⟨zc1 (zin 966 (by decide +kernel) rfl) (zc1 zki_X10_setWind (zc1 zks_X10_setWind (zc1 zkn_X10_setWind (zc1 zk_X10_setWind zc0)))), by decide, by decide, by decide +kernel⟩
theorem zlL_92 : zLV RL 92 yX10_platform cX10_platform 3 (some .int) 2 := ⟨zc1 (zin 970 (by decide +kernel) rfl) (zc1 zki_X10_platform (zc1 zks_X10_platform (zc1 zkn_X10_platform (zc1 zk_X10_platform zc0)))), by decide, by decide, by decide +kernel⟩
theorem zlL_95 : zLV RL 95 yX10_line cX10_line 3 (some .int) 2 := ⟨zc1 (zin 978 (by decide +kernel) rfl) (zc1 zki_X10_line (zc1 zks_X10_line (zc1 zkn_X10_line (zc1 zk_X10_line zc0)))), by decide, by decide, by decide +kernel⟩
theorem zlL_98 : zLV RL 98 yX10_ride cX10_ride 3 (some .int) 2 := ⟨zc1 (zin 1003 (by decide +kernel) rfl) (zc1 zki_X10_ride (zc1 zks_X10_ride (zc1 zkn_X10_ride (zc1 zk_X10_ride zc0)))), by decide, by decide, by decide +kernel⟩
theorem zlL_101 : zLV RL 101 yX10_come cX10_come 5 (some .int) 4 := ⟨zc1 (zin 1011 (by decide +kernel) rfl) (zc1 zki_X10_come (zc1 zks_X10_come (zc1 zkn_X10_come (zc1 zk_X10_come zc0)))), by decide, by decide, by decide +kernel⟩
theorem zlL_104 : zLV RL 104 yX10_rider cX10_rider 3 (some .int) 2 := ⟨zc1 (zin 1019 (by decide +kernel) rfl) (zc1 zki_X10_rider (zc1 zks_X10_rider (zc1 zkn_X10_rider (zc1 zk_X10_rider zc0)))), by decide, by decide, by decide +kernel⟩
theorem zlL_107 : zLV RL 107 yX10_queue cX10_queue 3 (some .int) 2 := ⟨zc1 (zin 1040 (by decide +kernel) rfl) (zc1 zki_X10_queue (zc1 zks_X10_queue (zc1 zkn_X10_queue (zc1 zk_X10_queue zc0)))), by decide, by decide, by decide +kernel⟩
theorem zlL_110 : zLV RL 110 yX10_pass cX10_pass 4 (some .int) 1 := ⟨zc1 (zin 1044 (by decide +kernel) rfl) (zc1 zki_X10_pass (zc1 zks_X10_pass (zc1 zkn_X10_pass (zc1 zk_X10_pass zc0)))), by decide, by decide, by decide +kernel⟩
theorem zlL_113 : zLV RL 113 yX10_count cX10_count 2 (some .int) 1 := ⟨zc1 (zin 1075 (by decide +kernel) rfl) (zc1 zki_X10_count (zc1 zks_X10_count (zc1 zkn_X10_count (zc1 zk_X10_count zc0)))), by decide, by decide, by decide +kernel⟩
theorem zlL_116 : zLV RL 116 yX10_way cX10_way 4 (some .int) 3 := ⟨zc1 (zin 1084 (by decide +kernel) rfl) (zc1 zki_X10_way (zc1 zks_X10_way (zc1 zkn_X10_way (zc1 zk_X10_way zc0)))), by decide, by decide, by decide +kernel⟩
theorem zlL_119 : zLV RL 119 yX10_arrives cX10_arrives 3 (some .int) 1 := ⟨zc1 (zin 1088 (by decide +kernel) rfl) (zc1 zki_X10_arrives (zc1 zks_X10_arrives (zc1 zkn_X10_arrives (zc1 zk_X10_arrives zc0)))), by decide, by decide, by decide +kernel⟩
theorem zlL_122 : zLV RL 122 yX10_advise cX10_advise 6 (some .int) 1 := ⟨zc1 (zin 1103 (by decide +kernel) rfl) (zc1 zki_X10_advise (zc1 zks_X10_advise (zc1 zkn_X10_advise (zc1 zk_X10_advise zc0)))), by decide, by decide, by decide +kernel⟩
theorem zlL_123 : zLV RL 123 yX8_mean cX8_mean 4 (some .double) 0 := ⟨zc1 (zin 317 (by decide +kernel) rfl) (zc1 zki_X8_mean (zc1 zks_X8_mean (zc1 zkn_X8_mean (zc1 zk_X8_mean zc0)))), by decide, by decide, by decide +kernel⟩
theorem zlL_127 : zLV RL 127 yX10_mean cX10_mean 3 (some .double) 0 := ⟨zc1 (zin 1111 (by decide +kernel) rfl) (zc1 zki_X10_mean (zc1 zks_X10_mean (zc1 zkn_X10_mean (zc1 zk_X10_mean zc0)))), by decide, by decide, by decide +kernel⟩
theorem zlL_128 : zLV RL 128 yX8_digest cX8_digest 5 (some .long) 0 := ⟨zc1 (zin 321 (by decide +kernel) rfl) (zc1 zki_X8_digest (zc1 zks_X8_digest (zc1 zkn_X8_digest (zc1 zk_X8_digest zc0)))), by decide, by decide, by decide +kernel⟩
theorem zlL_132 : zLV RL 132 yX10_digest cX10_digest 5 (some .long) 0 := ⟨zc1 (zin 1115 (by decide +kernel) rfl) (zc1 zki_X10_digest (zc1 zks_X10_digest (zc1 zkn_X10_digest (zc1 zk_X10_digest zc0)))), by decide, by decide, by decide +kernel⟩
theorem zlX10_42 : zLIN RX10 42 yX9_init cX9_init 2 1 := ⟨⟨"ZipCanopyModel", znin 817 (by decide +kernel) rfl⟩, zc1 zki_X9_init (zc1 zkn_X9_init (zc1 zk_X9_init zc0)), rfl, by decide, by decide, by decide +kernel⟩
theorem zlX10_59 : zLS RX10 59 yX10_isIn cX10_isIn 3 (some .boolean) 3 := ⟨zc1 (zin 943 (by decide +kernel) rfl) (zc1 zkt_X10_isIn (zc1 zkn_X10_isIn (zc1 zk_X10_isIn zc0))), by decide, by decide, by decide +kernel⟩
theorem zlX10_66 : zLS RX10 66 yJ9_abs_0f7a4 cJ9_abs_0f7a4 1 (some .int) 1 := ⟨zc1 (zin 990 (by decide +kernel) rfl) (zc1 zkt_J9_abs_0f7a4 (zc1 zkn_J9_abs_0f7a4 (zc1 zk_J9_abs_0f7a4 zc0))), by decide, by decide, by decide +kernel⟩
theorem zlX10_72 : zLV RX10 72 yX10_lengthOf cX10_lengthOf 2 (some .int) 1 := ⟨zc1 (zin 986 (by decide +kernel) rfl) (zc1 zki_X10_lengthOf (zc1 zks_X10_lengthOf (zc1 zkn_X10_lengthOf (zc1 zk_X10_lengthOf zc0)))), by decide, by decide, by decide +kernel⟩
theorem zlX10_75 : zLV RX10 75 yX10_dropOf cX10_dropOf 2 (some .int) 1 := ⟨zc1 (zin 991 (by decide +kernel) rfl) (zc1 zki_X10_dropOf (zc1 zks_X10_dropOf (zc1 zkn_X10_dropOf (zc1 zk_X10_dropOf zc0)))), by decide, by decide, by decide +kernel⟩
theorem zlX10_78 : zLV RX10 78 yX10_fewest cX10_fewest 7 (some .int) 3 := ⟨zc1 (zin 1031 (by decide +kernel) rfl) (zc1 zki_X10_fewest (zc1 zks_X10_fewest (zc1 zkn_X10_fewest (zc1 zk_X10_fewest zc0)))), by decide, by decide, by decide +kernel⟩
theorem zlX10_82 : zLV RX10 82 yX10_no cX10_no 2 (some .int) 1 := ⟨zc1 (zin 946 (by decide +kernel) rfl) (zc1 zki_X10_no (zc1 zks_X10_no (zc1 zkn_X10_no (zc1 zk_X10_no zc0)))), by decide, by decide, by decide +kernel⟩
theorem zlX10_85 : zLV RX10 85 yX10_isPlatform cX10_isPlatform 2 (some .boolean) 1 := ⟨zc1 (zin 954 (by decide +kernel) rfl) (zc1 zki_X10_isPlatform (zc1 zks_X10_isPlatform (zc1 zkn_X10_isPlatform (zc1 zk_X10_isPlatform zc0)))), by decide, by decide, by decide +kernel⟩
theorem zlX10_92 : zLV RX10 92 yX10_isLine cX10_isLine 2 (some .boolean) 1 := ⟨zc1 (zin 962 (by decide +kernel) rfl) (zc1 zki_X10_isLine (zc1 zks_X10_isLine (zc1 zkn_X10_isLine (zc1 zk_X10_isLine zc0)))), by decide, by decide, by decide +kernel⟩
theorem zlX10_107 : zLV RX10 107 yX10_platformTold cX10_platformTold 7 (some .int) 2 := ⟨zc1 (zin 974 (by decide +kernel) rfl) (zc1 zki_X10_platformTold (zc1 zks_X10_platformTold (zc1 zkn_X10_platformTold (zc1 zk_X10_platformTold zc0)))), by decide, by decide, by decide +kernel⟩
theorem zlX10_114 : zLV RX10 114 yX9_riding cX9_riding 4 (some .int) 1 := ⟨zc1 (zin 995 (by decide +kernel) rfl) (zc1 zki_X9_riding (zc1 zks_X9_riding (zc1 zkn_X9_riding (zc1 zk_X9_riding zc0)))), by decide, by decide, by decide +kernel⟩
theorem zlX10_126 : zLV RX10 126 yX10_isClosed cX10_isClosed 3 (some .boolean) 2 := ⟨zc1 (zin 999 (by decide +kernel) rfl) (zc1 zki_X10_isClosed (zc1 zks_X10_isClosed (zc1 zkn_X10_isClosed (zc1 zk_X10_isClosed zc0)))), by decide, by decide, by decide +kernel⟩
theorem zlX10_130 : zLV RX10 130 yX10_lineTold cX10_lineTold 4 (some .int) 2 := ⟨zc1 (zin 982 (by decide +kernel) rfl) (zc1 zki_X10_lineTold (zc1 zks_X10_lineTold (zc1 zkn_X10_lineTold (zc1 zk_X10_lineTold zc0)))), by decide, by decide, by decide +kernel⟩
theorem zlX10_133 : zLV RX10 133 yX10_rideOf cX10_rideOf 5 (some .int) 2 := ⟨zc1 (zin 1007 (by decide +kernel) rfl) (zc1 zki_X10_rideOf (zc1 zks_X10_rideOf (zc1 zkn_X10_rideOf (zc1 zk_X10_rideOf zc0)))), by decide, by decide, by decide +kernel⟩
theorem zlX10_139 : zLV RX10 139 yX9_come cX9_come 3 none 2 := ⟨zc1 (zin 1015 (by decide +kernel) rfl) (zc1 zki_X9_come (zc1 zks_X9_come (zc1 zkn_X9_come (zc1 zk_X9_come zc0)))), by decide, by decide, by decide +kernel⟩
theorem zlX10_149 : zLV RX10 149 yX9_leftOf cX9_leftOf 3 (some .int) 1 := ⟨zc1 (zin 1027 (by decide +kernel) rfl) (zc1 zki_X9_leftOf (zc1 zks_X9_leftOf (zc1 zkn_X9_leftOf (zc1 zk_X9_leftOf zc0)))), by decide, by decide, by decide +kernel⟩
theorem zlX10_152 : zLS RX10 152 yJ9_max_7cf53 cJ9_max_7cf53 2 (some .int) 2 := ⟨zc1 (zin 1035 (by decide +kernel) rfl) (zc1 zkt_J9_max_7cf53 (zc1 zkn_J9_max_7cf53 (zc1 zk_J9_max_7cf53 zc0))), by decide, by decide, by decide +kernel⟩
theorem zlX10_155 : zLV RX10 155 yX10_first cX10_first 6 (some .int) 3 := ⟨zc1 (zin 1036 (by decide +kernel) rfl) (zc1 zki_X10_first (zc1 zks_X10_first (zc1 zkn_X10_first (zc1 zk_X10_first zc0)))), by decide, by decide, by decide +kernel⟩
theorem zlX10_161 : zLV RX10 161 yX10_riderTold cX10_riderTold 4 (some .int) 2 := ⟨zc1 (zin 1023 (by decide +kernel) rfl) (zc1 zki_X10_riderTold (zc1 zks_X10_riderTold (zc1 zkn_X10_riderTold (zc1 zk_X10_riderTold zc0)))), by decide, by decide, by decide +kernel⟩
theorem zlX10_164 : zLV RX10 164 yX9_pass cX9_pass 3 (some .int) 0 := ⟨zc1 (zin 1048 (by decide +kernel) rfl) (zc1 zki_X9_pass (zc1 zks_X9_pass (zc1 zkn_X9_pass (zc1 zk_X9_pass zc0)))), by decide, by decide, by decide +kernel⟩
theorem zlX10_168 : zLV RX10 168 yX9_many cX9_many 4 (some .int) 1 := ⟨zc1 (zin 1083 (by decide +kernel) rfl) (zc1 zki_X9_many (zc1 zks_X9_many (zc1 zkn_X9_many (zc1 zk_X9_many zc0)))), by decide, by decide, by decide +kernel⟩
theorem zlX10_171 : zLV RX10 171 yX10_counted cX10_counted 5 (some .int) 1 := ⟨zc1 (zin 1079 (by decide +kernel) rfl) (zc1 zki_X10_counted (zc1 zks_X10_counted (zc1 zkn_X10_counted (zc1 zk_X10_counted zc0)))), by decide, by decide, by decide +kernel⟩
theorem zlX10_174 : zLV RX10 174 yX9_become cX9_become 2 none 1 := ⟨zc1 (zin 1092 (by decide +kernel) rfl) (zc1 zki_X9_become (zc1 zks_X9_become (zc1 zkn_X9_become (zc1 zk_X9_become zc0)))), by decide, by decide, by decide +kernel⟩
theorem zlX10_178 : zLV RX10 178 yX10_arrivedIn cX10_arrivedIn 3 (some .int) 1 := ⟨zc1 (zin 1107 (by decide +kernel) rfl) (zc1 zki_X10_arrivedIn (zc1 zks_X10_arrivedIn (zc1 zkn_X10_arrivedIn (zc1 zk_X10_arrivedIn zc0)))), by decide, by decide, by decide +kernel⟩
theorem zlX9_65 : zLV RX9 65 yX9_copy cX9_copy 3 none 2 := ⟨zc1 (zin 1096 (by decide +kernel) rfl) (zc1 zki_X9_copy (zc1 zks_X9_copy (zc1 zkn_X9_copy (zc1 zk_X9_copy zc0)))), by decide, by decide, by decide +kernel⟩
theorem zlX9_75 : zLV RX9 75 yX9_many cX9_many 4 (some .int) 1 := ⟨zc1 (zin 1052 (by decide +kernel) rfl) (zc1 zki_X9_many (zc1 zks_X9_many (zc1 zkn_X9_many (zc1 zk_X9_many zc0)))), by decide, by decide, by decide +kernel⟩
theorem zlX9_82 : zLV RX9 82 yX9_roll cX9_roll 5 none 1 := ⟨zc1 (zin 1056 (by decide +kernel) rfl) (zc1 zki_X9_roll (zc1 zks_X9_roll (zc1 zkn_X9_roll (zc1 zk_X9_roll zc0)))), by decide, by decide, by decide +kernel⟩
theorem zlX9_86 : zLVN RX9 86 yX10_isClosed cX10_isClosed 3 (some .boolean) 2 := ⟨⟨"ZipCanopyModel", znin 1062 (by decide +kernel) rfl⟩, zc1 zki_X10_isClosed (zc1 zks_X10_isClosed (zc1 zkn_X10_isClosed (zc1 zk_X10_isClosed zc0))), by decide, by decide, by decide +kernel⟩
theorem zlX9_90 : zLV RX9 90 yX9_begin cX9_begin 5 none 1 := ⟨zc1 (zin 1063 (by decide +kernel) rfl) (zc1 zki_X9_begin (zc1 zks_X9_begin (zc1 zkn_X9_begin (zc1 zk_X9_begin zc0)))), by decide, by decide, by decide +kernel⟩
theorem zlX9_96 : zLVN RX9 96 yX10_fewest cX10_fewest 7 (some .int) 3 := ⟨⟨"ZipCanopyModel", znin 1074 (by decide +kernel) rfl⟩, zc1 zki_X10_fewest (zc1 zks_X10_fewest (zc1 zkn_X10_fewest (zc1 zk_X10_fewest zc0))), by decide, by decide, by decide +kernel⟩
theorem zlX9_103 : zLV RX9 103 yX9_strike cX9_strike 4 none 1 := ⟨zc1 (zin 1068 (by decide +kernel) rfl) (zc1 zki_X9_strike (zc1 zks_X9_strike (zc1 zkn_X9_strike (zc1 zk_X9_strike zc0)))), by decide, by decide, by decide +kernel⟩
theorem zlX9_109 : zLV RX9 109 yX9_come cX9_come 3 none 2 := ⟨zc1 (zin 1060 (by decide +kernel) rfl) (zc1 zki_X9_come (zc1 zks_X9_come (zc1 zkn_X9_come (zc1 zk_X9_come zc0)))), by decide, by decide, by decide +kernel⟩
theorem zlX9_113 : zLVN RX9 113 yX10_lengthOf cX10_lengthOf 2 (some .int) 1 := ⟨⟨"ZipCanopyModel", znin 1061 (by decide +kernel) rfl⟩, zc1 zki_X10_lengthOf (zc1 zks_X10_lengthOf (zc1 zkn_X10_lengthOf (zc1 zk_X10_lengthOf zc0))), by decide, by decide, by decide +kernel⟩
theorem zlX9_119 : zLVN RX9 119 yX10_first cX10_first 6 (some .int) 3 := ⟨⟨"ZipCanopyModel", znin 1067 (by decide +kernel) rfl⟩, zc1 zki_X10_first (zc1 zks_X10_first (zc1 zkn_X10_first (zc1 zk_X10_first zc0))), by decide, by decide, by decide +kernel⟩
theorem zlX9_122 : zLVN RX9 122 yX10_rideOf cX10_rideOf 5 (some .int) 2 := ⟨⟨"ZipCanopyModel", znin 1072 (by decide +kernel) rfl⟩, zc1 zki_X10_rideOf (zc1 zks_X10_rideOf (zc1 zkn_X10_rideOf (zc1 zk_X10_rideOf zc0))), by decide, by decide, by decide +kernel⟩
theorem zlX9_126 : zLS RX9 126 yJ9_abs_0f7a4 cJ9_abs_0f7a4 1 (some .int) 1 := ⟨zc1 (zin 1073 (by decide +kernel) rfl) (zc1 zkt_J9_abs_0f7a4 (zc1 zkn_J9_abs_0f7a4 (zc1 zk_J9_abs_0f7a4 zc0))), by decide, by decide, by decide +kernel⟩
end
section
theorem dX0_init_0 : decode cX0_init 0 = .ok (.aload_n 0, 1) := by decide +kernel
theorem dX0_init_1 : decode cX0_init 1 = .ok (.invokespecial 3, 3) := by decide +kernel
theorem dX0_init_4 : decode cX0_init 4 = .ok (.aload_n 0, 1) := by decide +kernel
theorem dX0_init_5 : decode cX0_init 5 = .ok (.bipush 8, 2) := by decide +kernel
theorem dX0_init_7 : decode cX0_init 7 = .ok (.anewarray 9, 3) := by decide +kernel
theorem dX0_init_10 : decode cX0_init 10 = .ok (.putfield 11, 3) := by decide +kernel
theorem dX0_init_13 : decode cX0_init 13 = .ok (.aload_n 0, 1) := by decide +kernel
theorem dX0_init_14 : decode cX0_init 14 = .ok (.bipush 12, 2) := by decide +kernel
theorem dX0_init_16 : decode cX0_init 16 = .ok (.anewarray 17, 3) := by decide +kernel
theorem dX0_init_19 : decode cX0_init 19 = .ok (.putfield 19, 3) := by decide +kernel
theorem dX0_init_22 : decode cX0_init 22 = .ok (.aload_n 0, 1) := by decide +kernel
theorem dX0_init_23 : decode cX0_init 23 = .ok (.bipush 12, 2) := by decide +kernel
theorem dX0_init_25 : decode cX0_init 25 = .ok (.anewarray 23, 3) := by decide +kernel
theorem dX0_init_28 : decode cX0_init 28 = .ok (.putfield 25, 3) := by decide +kernel
theorem dX0_init_31 : decode cX0_init 31 = .ok (.aload_n 0, 1) := by decide +kernel
theorem dX0_init_32 : decode cX0_init 32 = .ok (.bipush 12, 2) := by decide +kernel
theorem dX0_init_34 : decode cX0_init 34 = .ok (.newarray .int, 2) := by decide +kernel
theorem dX0_init_36 : decode cX0_init 36 = .ok (.putfield 29, 3) := by decide +kernel
theorem dX0_init_39 : decode cX0_init 39 = .ok (.iconst 0, 1) := by decide +kernel
theorem dX0_init_40 : decode cX0_init 40 = .ok (.istore_n 1, 1) := by decide +kernel
theorem dX0_init_41 : decode cX0_init 41 = .ok (.iload_n 1, 1) := by decide +kernel
theorem dX0_init_42 : decode cX0_init 42 = .ok (.bipush 8, 2) := by decide +kernel
theorem dX0_init_44 : decode cX0_init 44 = .ok (.if_icmp .ge 22, 3) := by decide +kernel
theorem dX0_init_47 : decode cX0_init 47 = .ok (.aload_n 0, 1) := by decide +kernel
theorem dX0_init_48 : decode cX0_init 48 = .ok (.getfield 11, 3) := by decide +kernel
theorem dX0_init_51 : decode cX0_init 51 = .ok (.iload_n 1, 1) := by decide +kernel
theorem dX0_init_52 : decode cX0_init 52 = .ok (.new 9, 3) := by decide +kernel
theorem dX0_init_55 : decode cX0_init 55 = .ok (.dup, 1) := by decide +kernel
theorem dX0_init_56 : decode cX0_init 56 = .ok (.invokespecial 33, 3) := by decide +kernel
theorem dX0_init_59 : decode cX0_init 59 = .ok (.aastore, 1) := by decide +kernel
theorem dX0_init_60 : decode cX0_init 60 = .ok (.iinc 1 1, 3) := by decide +kernel
theorem dX0_init_63 : decode cX0_init 63 = .ok (.goto (-22), 3) := by decide +kernel
theorem dX0_init_66 : decode cX0_init 66 = .ok (.iconst 0, 1) := by decide +kernel
theorem dX0_init_67 : decode cX0_init 67 = .ok (.istore_n 1, 1) := by decide +kernel
theorem dX0_init_68 : decode cX0_init 68 = .ok (.iload_n 1, 1) := by decide +kernel
theorem dX0_init_69 : decode cX0_init 69 = .ok (.bipush 12, 2) := by decide +kernel
theorem dX0_init_71 : decode cX0_init 71 = .ok (.if_icmp .ge 22, 3) := by decide +kernel
theorem dX0_init_74 : decode cX0_init 74 = .ok (.aload_n 0, 1) := by decide +kernel
theorem dX0_init_75 : decode cX0_init 75 = .ok (.getfield 19, 3) := by decide +kernel
theorem dX0_init_78 : decode cX0_init 78 = .ok (.iload_n 1, 1) := by decide +kernel
theorem dX0_init_79 : decode cX0_init 79 = .ok (.new 17, 3) := by decide +kernel
theorem dX0_init_82 : decode cX0_init 82 = .ok (.dup, 1) := by decide +kernel
theorem dX0_init_83 : decode cX0_init 83 = .ok (.invokespecial 34, 3) := by decide +kernel
theorem dX0_init_86 : decode cX0_init 86 = .ok (.aastore, 1) := by decide +kernel
theorem dX0_init_87 : decode cX0_init 87 = .ok (.iinc 1 1, 3) := by decide +kernel
theorem dX0_init_90 : decode cX0_init 90 = .ok (.goto (-22), 3) := by decide +kernel
theorem dX0_init_93 : decode cX0_init 93 = .ok (.iconst 0, 1) := by decide +kernel
theorem dX0_init_94 : decode cX0_init 94 = .ok (.istore_n 1, 1) := by decide +kernel
theorem dX0_init_95 : decode cX0_init 95 = .ok (.iload_n 1, 1) := by decide +kernel
theorem dX0_init_96 : decode cX0_init 96 = .ok (.bipush 12, 2) := by decide +kernel
theorem dX0_init_98 : decode cX0_init 98 = .ok (.if_icmp .ge 22, 3) := by decide +kernel
theorem dX0_init_101 : decode cX0_init 101 = .ok (.aload_n 0, 1) := by decide +kernel
theorem dX0_init_102 : decode cX0_init 102 = .ok (.getfield 25, 3) := by decide +kernel
theorem dX0_init_105 : decode cX0_init 105 = .ok (.iload_n 1, 1) := by decide +kernel
theorem dX0_init_106 : decode cX0_init 106 = .ok (.new 23, 3) := by decide +kernel
theorem dX0_init_109 : decode cX0_init 109 = .ok (.dup, 1) := by decide +kernel
theorem dX0_init_110 : decode cX0_init 110 = .ok (.invokespecial 35, 3) := by decide +kernel
theorem dX0_init_113 : decode cX0_init 113 = .ok (.aastore, 1) := by decide +kernel
theorem dX0_init_114 : decode cX0_init 114 = .ok (.iinc 1 1, 3) := by decide +kernel
theorem dX0_init_117 : decode cX0_init 117 = .ok (.goto (-22), 3) := by decide +kernel
theorem dX0_init_120 : decode cX0_init 120 = .ok (.return_, 1) := by decide +kernel
theorem dX0_hasPlatformAt_0 : decode cX0_hasPlatformAt 0 = .ok (.iconst 0, 1) := by decide +kernel
theorem dX0_hasPlatformAt_1 : decode cX0_hasPlatformAt 1 = .ok (.istore_n 3, 1) := by decide +kernel
theorem dX0_hasPlatformAt_2 : decode cX0_hasPlatformAt 2 = .ok (.iload_n 3, 1) := by decide +kernel
theorem dX0_hasPlatformAt_3 : decode cX0_hasPlatformAt 3 = .ok (.aload_n 0, 1) := by decide +kernel
theorem dX0_hasPlatformAt_4 : decode cX0_hasPlatformAt 4 = .ok (.getfield 36, 3) := by decide +kernel
theorem dX0_hasPlatformAt_7 : decode cX0_hasPlatformAt 7 = .ok (.if_icmp .ge 37, 3) := by decide +kernel
theorem dX0_hasPlatformAt_10 : decode cX0_hasPlatformAt 10 = .ok (.aload_n 0, 1) := by decide +kernel
theorem dX0_hasPlatformAt_11 : decode cX0_hasPlatformAt 11 = .ok (.getfield 11, 3) := by decide +kernel
theorem dX0_hasPlatformAt_14 : decode cX0_hasPlatformAt 14 = .ok (.iload_n 3, 1) := by decide +kernel
theorem dX0_hasPlatformAt_15 : decode cX0_hasPlatformAt 15 = .ok (.aaload, 1) := by decide +kernel
theorem dX0_hasPlatformAt_16 : decode cX0_hasPlatformAt 16 = .ok (.getfield 40, 3) := by decide +kernel
theorem dX0_hasPlatformAt_19 : decode cX0_hasPlatformAt 19 = .ok (.iload_n 1, 1) := by decide +kernel
theorem dX0_hasPlatformAt_20 : decode cX0_hasPlatformAt 20 = .ok (.if_icmp .ne 18, 3) := by decide +kernel
theorem dX0_hasPlatformAt_23 : decode cX0_hasPlatformAt 23 = .ok (.aload_n 0, 1) := by decide +kernel
theorem dX0_hasPlatformAt_24 : decode cX0_hasPlatformAt 24 = .ok (.getfield 11, 3) := by decide +kernel
theorem dX0_hasPlatformAt_27 : decode cX0_hasPlatformAt 27 = .ok (.iload_n 3, 1) := by decide +kernel
theorem dX0_hasPlatformAt_28 : decode cX0_hasPlatformAt 28 = .ok (.aaload, 1) := by decide +kernel
theorem dX0_hasPlatformAt_29 : decode cX0_hasPlatformAt 29 = .ok (.getfield 43, 3) := by decide +kernel
theorem dX0_hasPlatformAt_32 : decode cX0_hasPlatformAt 32 = .ok (.iload_n 2, 1) := by decide +kernel
theorem dX0_hasPlatformAt_33 : decode cX0_hasPlatformAt 33 = .ok (.if_icmp .ne 5, 3) := by decide +kernel
theorem dX0_hasPlatformAt_36 : decode cX0_hasPlatformAt 36 = .ok (.iconst 1, 1) := by decide +kernel
theorem dX0_hasPlatformAt_37 : decode cX0_hasPlatformAt 37 = .ok (.ireturn, 1) := by decide +kernel
theorem dX0_hasPlatformAt_38 : decode cX0_hasPlatformAt 38 = .ok (.iinc 3 1, 3) := by decide +kernel
theorem dX0_hasPlatformAt_41 : decode cX0_hasPlatformAt 41 = .ok (.goto (-39), 3) := by decide +kernel
theorem dX0_hasPlatformAt_44 : decode cX0_hasPlatformAt 44 = .ok (.iconst 0, 1) := by decide +kernel
theorem dX0_hasPlatformAt_45 : decode cX0_hasPlatformAt 45 = .ok (.ireturn, 1) := by decide +kernel
theorem dX0_isLower_0 : decode cX0_isLower 0 = .ok (.aload_n 0, 1) := by decide +kernel
theorem dX0_isLower_1 : decode cX0_isLower 1 = .ok (.getfield 11, 3) := by decide +kernel
theorem dX0_isLower_4 : decode cX0_isLower 4 = .ok (.iload_n 1, 1) := by decide +kernel
theorem dX0_isLower_5 : decode cX0_isLower 5 = .ok (.aaload, 1) := by decide +kernel
theorem dX0_isLower_6 : decode cX0_isLower 6 = .ok (.getfield 46, 3) := by decide +kernel
theorem dX0_isLower_9 : decode cX0_isLower 9 = .ok (.aload_n 0, 1) := by decide +kernel
theorem dX0_isLower_10 : decode cX0_isLower 10 = .ok (.getfield 11, 3) := by decide +kernel
theorem dX0_isLower_13 : decode cX0_isLower 13 = .ok (.iload_n 2, 1) := by decide +kernel
theorem dX0_isLower_14 : decode cX0_isLower 14 = .ok (.aaload, 1) := by decide +kernel
theorem dX0_isLower_15 : decode cX0_isLower 15 = .ok (.getfield 46, 3) := by decide +kernel
theorem dX0_isLower_18 : decode cX0_isLower 18 = .ok (.if_icmp .ge 7, 3) := by decide +kernel
theorem dX0_isLower_21 : decode cX0_isLower 21 = .ok (.iconst 1, 1) := by decide +kernel
theorem dX0_isLower_22 : decode cX0_isLower 22 = .ok (.goto 4, 3) := by decide +kernel
theorem dX0_isLower_25 : decode cX0_isLower 25 = .ok (.iconst 0, 1) := by decide +kernel
theorem dX0_isLower_26 : decode cX0_isLower 26 = .ok (.ireturn, 1) := by decide +kernel
theorem dX0_addPlatform_0 : decode cX0_addPlatform 0 = .ok (.aload_n 0, 1) := by decide +kernel
theorem dX0_addPlatform_1 : decode cX0_addPlatform 1 = .ok (.getfield 36, 3) := by decide +kernel
theorem dX0_addPlatform_4 : decode cX0_addPlatform 4 = .ok (.istore 4, 2) := by decide +kernel
theorem dX0_addPlatform_6 : decode cX0_addPlatform 6 = .ok (.aload_n 0, 1) := by decide +kernel
theorem dX0_addPlatform_7 : decode cX0_addPlatform 7 = .ok (.getfield 11, 3) := by decide +kernel
theorem dX0_addPlatform_10 : decode cX0_addPlatform 10 = .ok (.iload 4, 2) := by decide +kernel
theorem dX0_addPlatform_12 : decode cX0_addPlatform 12 = .ok (.aaload, 1) := by decide +kernel
theorem dX0_addPlatform_13 : decode cX0_addPlatform 13 = .ok (.iload_n 1, 1) := by decide +kernel
theorem dX0_addPlatform_14 : decode cX0_addPlatform 14 = .ok (.putfield 40, 3) := by decide +kernel
theorem dX0_addPlatform_17 : decode cX0_addPlatform 17 = .ok (.aload_n 0, 1) := by decide +kernel
theorem dX0_addPlatform_18 : decode cX0_addPlatform 18 = .ok (.getfield 11, 3) := by decide +kernel
theorem dX0_addPlatform_21 : decode cX0_addPlatform 21 = .ok (.iload 4, 2) := by decide +kernel
theorem dX0_addPlatform_23 : decode cX0_addPlatform 23 = .ok (.aaload, 1) := by decide +kernel
theorem dX0_addPlatform_24 : decode cX0_addPlatform 24 = .ok (.iload_n 2, 1) := by decide +kernel
theorem dX0_addPlatform_25 : decode cX0_addPlatform 25 = .ok (.putfield 43, 3) := by decide +kernel
theorem dX0_addPlatform_28 : decode cX0_addPlatform 28 = .ok (.aload_n 0, 1) := by decide +kernel
theorem dX0_addPlatform_29 : decode cX0_addPlatform 29 = .ok (.getfield 11, 3) := by decide +kernel
theorem dX0_addPlatform_32 : decode cX0_addPlatform 32 = .ok (.iload 4, 2) := by decide +kernel
theorem dX0_addPlatform_34 : decode cX0_addPlatform 34 = .ok (.aaload, 1) := by decide +kernel
theorem dX0_addPlatform_35 : decode cX0_addPlatform 35 = .ok (.iload_n 3, 1) := by decide +kernel
theorem dX0_addPlatform_36 : decode cX0_addPlatform 36 = .ok (.putfield 46, 3) := by decide +kernel
theorem dX0_addPlatform_39 : decode cX0_addPlatform 39 = .ok (.aload_n 0, 1) := by decide +kernel
theorem dX0_addPlatform_40 : decode cX0_addPlatform 40 = .ok (.dup, 1) := by decide +kernel
theorem dX0_addPlatform_41 : decode cX0_addPlatform 41 = .ok (.getfield 36, 3) := by decide +kernel
theorem dX0_addPlatform_44 : decode cX0_addPlatform 44 = .ok (.iconst 1, 1) := by decide +kernel
theorem dX0_addPlatform_45 : decode cX0_addPlatform 45 = .ok (.iadd, 1) := by decide +kernel
theorem dX0_addPlatform_46 : decode cX0_addPlatform 46 = .ok (.putfield 36, 3) := by decide +kernel
theorem dX0_addPlatform_49 : decode cX0_addPlatform 49 = .ok (.iload 4, 2) := by decide +kernel
theorem dX0_addPlatform_51 : decode cX0_addPlatform 51 = .ok (.ireturn, 1) := by decide +kernel
theorem dX0_addLine_0 : decode cX0_addLine 0 = .ok (.aload_n 0, 1) := by decide +kernel
theorem dX0_addLine_1 : decode cX0_addLine 1 = .ok (.getfield 49, 3) := by decide +kernel
theorem dX0_addLine_4 : decode cX0_addLine 4 = .ok (.istore 4, 2) := by decide +kernel
theorem dX0_addLine_6 : decode cX0_addLine 6 = .ok (.aload_n 0, 1) := by decide +kernel
theorem dX0_addLine_7 : decode cX0_addLine 7 = .ok (.getfield 19, 3) := by decide +kernel
theorem dX0_addLine_10 : decode cX0_addLine 10 = .ok (.iload 4, 2) := by decide +kernel
theorem dX0_addLine_12 : decode cX0_addLine 12 = .ok (.aaload, 1) := by decide +kernel
theorem dX0_addLine_13 : decode cX0_addLine 13 = .ok (.astore 5, 2) := by decide +kernel
theorem dX0_addLine_15 : decode cX0_addLine 15 = .ok (.aload 5, 2) := by decide +kernel
theorem dX0_addLine_17 : decode cX0_addLine 17 = .ok (.iload_n 1, 1) := by decide +kernel
theorem dX0_addLine_18 : decode cX0_addLine 18 = .ok (.putfield 52, 3) := by decide +kernel
theorem dX0_addLine_21 : decode cX0_addLine 21 = .ok (.aload 5, 2) := by decide +kernel
theorem dX0_addLine_23 : decode cX0_addLine 23 = .ok (.iload_n 2, 1) := by decide +kernel
theorem dX0_addLine_24 : decode cX0_addLine 24 = .ok (.putfield 55, 3) := by decide +kernel
theorem dX0_addLine_27 : decode cX0_addLine 27 = .ok (.aload 5, 2) := by decide +kernel
theorem dX0_addLine_29 : decode cX0_addLine 29 = .ok (.iload_n 3, 1) := by decide +kernel
theorem dX0_addLine_30 : decode cX0_addLine 30 = .ok (.putfield 58, 3) := by decide +kernel
theorem dX0_addLine_33 : decode cX0_addLine 33 = .ok (.aload 5, 2) := by decide +kernel
theorem dX0_addLine_35 : decode cX0_addLine 35 = .ok (.aload_n 0, 1) := by decide +kernel
theorem dX0_addLine_36 : decode cX0_addLine 36 = .ok (.getfield 11, 3) := by decide +kernel
theorem dX0_addLine_39 : decode cX0_addLine 39 = .ok (.iload_n 1, 1) := by decide +kernel
theorem dX0_addLine_40 : decode cX0_addLine 40 = .ok (.aaload, 1) := by decide +kernel
theorem dX0_addLine_41 : decode cX0_addLine 41 = .ok (.aload_n 0, 1) := by decide +kernel
theorem dX0_addLine_42 : decode cX0_addLine 42 = .ok (.getfield 11, 3) := by decide +kernel
theorem dX0_addLine_45 : decode cX0_addLine 45 = .ok (.iload_n 2, 1) := by decide +kernel
theorem dX0_addLine_46 : decode cX0_addLine 46 = .ok (.aaload, 1) := by decide +kernel
theorem dX0_addLine_47 : decode cX0_addLine 47 = .ok (.invokevirtual 61, 3) := by decide +kernel
theorem dX0_addLine_50 : decode cX0_addLine 50 = .ok (.putfield 65, 3) := by decide +kernel
theorem dX0_addLine_53 : decode cX0_addLine 53 = .ok (.aload 5, 2) := by decide +kernel
theorem dX0_addLine_55 : decode cX0_addLine 55 = .ok (.aload_n 0, 1) := by decide +kernel
theorem dX0_addLine_56 : decode cX0_addLine 56 = .ok (.getfield 11, 3) := by decide +kernel
theorem dX0_addLine_59 : decode cX0_addLine 59 = .ok (.iload_n 1, 1) := by decide +kernel
theorem dX0_addLine_60 : decode cX0_addLine 60 = .ok (.aaload, 1) := by decide +kernel
theorem dX0_addLine_61 : decode cX0_addLine 61 = .ok (.getfield 46, 3) := by decide +kernel
theorem dX0_addLine_64 : decode cX0_addLine 64 = .ok (.aload_n 0, 1) := by decide +kernel
theorem dX0_addLine_65 : decode cX0_addLine 65 = .ok (.getfield 11, 3) := by decide +kernel
theorem dX0_addLine_68 : decode cX0_addLine 68 = .ok (.iload_n 2, 1) := by decide +kernel
theorem dX0_addLine_69 : decode cX0_addLine 69 = .ok (.aaload, 1) := by decide +kernel
theorem dX0_addLine_70 : decode cX0_addLine 70 = .ok (.getfield 46, 3) := by decide +kernel
theorem dX0_addLine_73 : decode cX0_addLine 73 = .ok (.isub, 1) := by decide +kernel
theorem dX0_addLine_74 : decode cX0_addLine 74 = .ok (.putfield 68, 3) := by decide +kernel
theorem dX0_addLine_77 : decode cX0_addLine 77 = .ok (.aload_n 0, 1) := by decide +kernel
theorem dX0_addLine_78 : decode cX0_addLine 78 = .ok (.dup, 1) := by decide +kernel
theorem dX0_addLine_79 : decode cX0_addLine 79 = .ok (.getfield 49, 3) := by decide +kernel
theorem dX0_addLine_82 : decode cX0_addLine 82 = .ok (.iconst 1, 1) := by decide +kernel
theorem dX0_addLine_83 : decode cX0_addLine 83 = .ok (.iadd, 1) := by decide +kernel
theorem dX0_addLine_84 : decode cX0_addLine 84 = .ok (.putfield 49, 3) := by decide +kernel
theorem dX0_addLine_87 : decode cX0_addLine 87 = .ok (.iconst 0, 1) := by decide +kernel
theorem dX0_addLine_88 : decode cX0_addLine 88 = .ok (.istore 6, 2) := by decide +kernel
theorem dX0_addLine_90 : decode cX0_addLine 90 = .ok (.iload 6, 2) := by decide +kernel
theorem dX0_addLine_92 : decode cX0_addLine 92 = .ok (.aload_n 0, 1) := by decide +kernel
theorem dX0_addLine_93 : decode cX0_addLine 93 = .ok (.getfield 71, 3) := by decide +kernel
theorem dX0_addLine_96 : decode cX0_addLine 96 = .ok (.if_icmp .ge 20, 3) := by decide +kernel
theorem dX0_addLine_99 : decode cX0_addLine 99 = .ok (.aload_n 0, 1) := by decide +kernel
theorem dX0_addLine_100 : decode cX0_addLine 100 = .ok (.getfield 25, 3) := by decide +kernel
theorem dX0_addLine_103 : decode cX0_addLine 103 = .ok (.iload 6, 2) := by decide +kernel
theorem dX0_addLine_105 : decode cX0_addLine 105 = .ok (.aaload, 1) := by decide +kernel
theorem dX0_addLine_106 : decode cX0_addLine 106 = .ok (.aload_n 0, 1) := by decide +kernel
theorem dX0_addLine_107 : decode cX0_addLine 107 = .ok (.invokevirtual 74, 3) := by decide +kernel
theorem dX0_addLine_110 : decode cX0_addLine 110 = .ok (.iinc 6 1, 3) := by decide +kernel
theorem dX0_addLine_113 : decode cX0_addLine 113 = .ok (.goto (-23), 3) := by decide +kernel
theorem dX0_addLine_116 : decode cX0_addLine 116 = .ok (.iload 4, 2) := by decide +kernel
theorem dX0_addLine_118 : decode cX0_addLine 118 = .ok (.ireturn, 1) := by decide +kernel
theorem dX0_addRider_0 : decode cX0_addRider 0 = .ok (.aload_n 0, 1) := by decide +kernel
theorem dX0_addRider_1 : decode cX0_addRider 1 = .ok (.getfield 71, 3) := by decide +kernel
theorem dX0_addRider_4 : decode cX0_addRider 4 = .ok (.istore 4, 2) := by decide +kernel
theorem dX0_addRider_6 : decode cX0_addRider 6 = .ok (.aload_n 0, 1) := by decide +kernel
theorem dX0_addRider_7 : decode cX0_addRider 7 = .ok (.getfield 25, 3) := by decide +kernel
theorem dX0_addRider_10 : decode cX0_addRider 10 = .ok (.iload 4, 2) := by decide +kernel
theorem dX0_addRider_12 : decode cX0_addRider 12 = .ok (.aaload, 1) := by decide +kernel
theorem dX0_addRider_13 : decode cX0_addRider 13 = .ok (.astore 5, 2) := by decide +kernel
theorem dX0_addRider_15 : decode cX0_addRider 15 = .ok (.aload 5, 2) := by decide +kernel
theorem dX0_addRider_17 : decode cX0_addRider 17 = .ok (.iload_n 1, 1) := by decide +kernel
theorem dX0_addRider_18 : decode cX0_addRider 18 = .ok (.putfield 78, 3) := by decide +kernel
theorem dX0_addRider_21 : decode cX0_addRider 21 = .ok (.aload 5, 2) := by decide +kernel
theorem dX0_addRider_23 : decode cX0_addRider 23 = .ok (.iload_n 2, 1) := by decide +kernel
theorem dX0_addRider_24 : decode cX0_addRider 24 = .ok (.putfield 81, 3) := by decide +kernel
theorem dX0_addRider_27 : decode cX0_addRider 27 = .ok (.aload 5, 2) := by decide +kernel
theorem dX0_addRider_29 : decode cX0_addRider 29 = .ok (.iload_n 3, 1) := by decide +kernel
theorem dX0_addRider_30 : decode cX0_addRider 30 = .ok (.putfield 84, 3) := by decide +kernel
theorem dX0_addRider_33 : decode cX0_addRider 33 = .ok (.aload 5, 2) := by decide +kernel
theorem dX0_addRider_35 : decode cX0_addRider 35 = .ok (.aload_n 0, 1) := by decide +kernel
theorem dX0_addRider_36 : decode cX0_addRider 36 = .ok (.invokevirtual 74, 3) := by decide +kernel
theorem dX0_addRider_39 : decode cX0_addRider 39 = .ok (.aload_n 0, 1) := by decide +kernel
theorem dX0_addRider_40 : decode cX0_addRider 40 = .ok (.dup, 1) := by decide +kernel
theorem dX0_addRider_41 : decode cX0_addRider 41 = .ok (.getfield 71, 3) := by decide +kernel
theorem dX0_addRider_44 : decode cX0_addRider 44 = .ok (.iconst 1, 1) := by decide +kernel
theorem dX0_addRider_45 : decode cX0_addRider 45 = .ok (.iadd, 1) := by decide +kernel
theorem dX0_addRider_46 : decode cX0_addRider 46 = .ok (.putfield 71, 3) := by decide +kernel
theorem dX0_addRider_49 : decode cX0_addRider 49 = .ok (.iload 4, 2) := by decide +kernel
theorem dX0_addRider_51 : decode cX0_addRider 51 = .ok (.ireturn, 1) := by decide +kernel
theorem dX0_linesWithTop_0 : decode cX0_linesWithTop 0 = .ok (.iconst 0, 1) := by decide +kernel
theorem dX0_linesWithTop_1 : decode cX0_linesWithTop 1 = .ok (.istore_n 2, 1) := by decide +kernel
theorem dX0_linesWithTop_2 : decode cX0_linesWithTop 2 = .ok (.iconst 0, 1) := by decide +kernel
theorem dX0_linesWithTop_3 : decode cX0_linesWithTop 3 = .ok (.istore_n 3, 1) := by decide +kernel
theorem dX0_linesWithTop_4 : decode cX0_linesWithTop 4 = .ok (.iload_n 3, 1) := by decide +kernel
theorem dX0_linesWithTop_5 : decode cX0_linesWithTop 5 = .ok (.aload_n 0, 1) := by decide +kernel
theorem dX0_linesWithTop_6 : decode cX0_linesWithTop 6 = .ok (.getfield 49, 3) := by decide +kernel
theorem dX0_linesWithTop_9 : decode cX0_linesWithTop 9 = .ok (.if_icmp .ge 25, 3) := by decide +kernel
theorem dX0_linesWithTop_12 : decode cX0_linesWithTop 12 = .ok (.aload_n 0, 1) := by decide +kernel
theorem dX0_linesWithTop_13 : decode cX0_linesWithTop 13 = .ok (.getfield 19, 3) := by decide +kernel
theorem dX0_linesWithTop_16 : decode cX0_linesWithTop 16 = .ok (.iload_n 3, 1) := by decide +kernel
theorem dX0_linesWithTop_17 : decode cX0_linesWithTop 17 = .ok (.aaload, 1) := by decide +kernel
theorem dX0_linesWithTop_18 : decode cX0_linesWithTop 18 = .ok (.getfield 52, 3) := by decide +kernel
theorem dX0_linesWithTop_21 : decode cX0_linesWithTop 21 = .ok (.iload_n 1, 1) := by decide +kernel
theorem dX0_linesWithTop_22 : decode cX0_linesWithTop 22 = .ok (.if_icmp .ne 6, 3) := by decide +kernel
theorem dX0_linesWithTop_25 : decode cX0_linesWithTop 25 = .ok (.iinc 2 1, 3) := by decide +kernel
theorem dX0_linesWithTop_28 : decode cX0_linesWithTop 28 = .ok (.iinc 3 1, 3) := by decide +kernel
theorem dX0_linesWithTop_31 : decode cX0_linesWithTop 31 = .ok (.goto (-27), 3) := by decide +kernel
theorem dX0_linesWithTop_34 : decode cX0_linesWithTop 34 = .ok (.iload_n 2, 1) := by decide +kernel
theorem dX0_linesWithTop_35 : decode cX0_linesWithTop 35 = .ok (.ireturn, 1) := by decide +kernel
theorem dX0_linesWithBottom_0 : decode cX0_linesWithBottom 0 = .ok (.iconst 0, 1) := by decide +kernel
theorem dX0_linesWithBottom_1 : decode cX0_linesWithBottom 1 = .ok (.istore_n 2, 1) := by decide +kernel
theorem dX0_linesWithBottom_2 : decode cX0_linesWithBottom 2 = .ok (.iconst 0, 1) := by decide +kernel
theorem dX0_linesWithBottom_3 : decode cX0_linesWithBottom 3 = .ok (.istore_n 3, 1) := by decide +kernel
theorem dX0_linesWithBottom_4 : decode cX0_linesWithBottom 4 = .ok (.iload_n 3, 1) := by decide +kernel
theorem dX0_linesWithBottom_5 : decode cX0_linesWithBottom 5 = .ok (.aload_n 0, 1) := by decide +kernel
theorem dX0_linesWithBottom_6 : decode cX0_linesWithBottom 6 = .ok (.getfield 49, 3) := by decide +kernel
theorem dX0_linesWithBottom_9 : decode cX0_linesWithBottom 9 = .ok (.if_icmp .ge 25, 3) := by decide +kernel
theorem dX0_linesWithBottom_12 : decode cX0_linesWithBottom 12 = .ok (.aload_n 0, 1) := by decide +kernel
theorem dX0_linesWithBottom_13 : decode cX0_linesWithBottom 13 = .ok (.getfield 19, 3) := by decide +kernel
theorem dX0_linesWithBottom_16 : decode cX0_linesWithBottom 16 = .ok (.iload_n 3, 1) := by decide +kernel
theorem dX0_linesWithBottom_17 : decode cX0_linesWithBottom 17 = .ok (.aaload, 1) := by decide +kernel
theorem dX0_linesWithBottom_18 : decode cX0_linesWithBottom 18 = .ok (.getfield 55, 3) := by decide +kernel
theorem dX0_linesWithBottom_21 : decode cX0_linesWithBottom 21 = .ok (.iload_n 1, 1) := by decide +kernel
theorem dX0_linesWithBottom_22 : decode cX0_linesWithBottom 22 = .ok (.if_icmp .ne 6, 3) := by decide +kernel
theorem dX0_linesWithBottom_25 : decode cX0_linesWithBottom 25 = .ok (.iinc 2 1, 3) := by decide +kernel
theorem dX0_linesWithBottom_28 : decode cX0_linesWithBottom 28 = .ok (.iinc 3 1, 3) := by decide +kernel
theorem dX0_linesWithBottom_31 : decode cX0_linesWithBottom 31 = .ok (.goto (-27), 3) := by decide +kernel
theorem dX0_linesWithBottom_34 : decode cX0_linesWithBottom 34 = .ok (.iload_n 2, 1) := by decide +kernel
theorem dX0_linesWithBottom_35 : decode cX0_linesWithBottom 35 = .ok (.ireturn, 1) := by decide +kernel
theorem dX0_isClosed_0 : decode cX0_isClosed 0 = .ok (.aload_n 0, 1) := by decide +kernel
theorem dX0_isClosed_1 : decode cX0_isClosed 1 = .ok (.getfield 29, 3) := by decide +kernel
theorem dX0_isClosed_4 : decode cX0_isClosed 4 = .ok (.iload_n 2, 1) := by decide +kernel
theorem dX0_isClosed_5 : decode cX0_isClosed 5 = .ok (.bipush 12, 2) := by decide +kernel
theorem dX0_isClosed_7 : decode cX0_isClosed 7 = .ok (.invokestatic 87, 3) := by decide +kernel
theorem dX0_isClosed_10 : decode cX0_isClosed 10 = .ok (.iaload, 1) := by decide +kernel
theorem dX0_isClosed_11 : decode cX0_isClosed 11 = .ok (.istore_n 3, 1) := by decide +kernel
theorem dX0_isClosed_12 : decode cX0_isClosed 12 = .ok (.aload_n 1, 1) := by decide +kernel
theorem dX0_isClosed_13 : decode cX0_isClosed 13 = .ok (.getfield 65, 3) := by decide +kernel
theorem dX0_isClosed_16 : decode cX0_isClosed 16 = .ok (.bipush 80, 2) := by decide +kernel
theorem dX0_isClosed_18 : decode cX0_isClosed 18 = .ok (.bipush 8, 2) := by decide +kernel
theorem dX0_isClosed_20 : decode cX0_isClosed 20 = .ok (.iload_n 3, 1) := by decide +kernel
theorem dX0_isClosed_21 : decode cX0_isClosed 21 = .ok (.imul, 1) := by decide +kernel
theorem dX0_isClosed_22 : decode cX0_isClosed 22 = .ok (.isub, 1) := by decide +kernel
theorem dX0_isClosed_23 : decode cX0_isClosed 23 = .ok (.if_icmp .le 7, 3) := by decide +kernel
theorem dX0_isClosed_26 : decode cX0_isClosed 26 = .ok (.iconst 1, 1) := by decide +kernel
theorem dX0_isClosed_27 : decode cX0_isClosed 27 = .ok (.goto 4, 3) := by decide +kernel
theorem dX0_isClosed_30 : decode cX0_isClosed 30 = .ok (.iconst 0, 1) := by decide +kernel
theorem dX0_isClosed_31 : decode cX0_isClosed 31 = .ok (.ireturn, 1) := by decide +kernel
theorem dX1_init_0 : decode cX1_init 0 = .ok (.aload_n 0, 1) := by decide +kernel
theorem dX1_init_1 : decode cX1_init 1 = .ok (.invokespecial 1, 3) := by decide +kernel
theorem dX1_init_4 : decode cX1_init 4 = .ok (.return_, 1) := by decide +kernel
theorem dX1_carries_0 : decode cX1_carries 0 = .ok (.iload_n 1, 1) := by decide +kernel
theorem dX1_carries_1 : decode cX1_carries 1 = .ok (.aload_n 0, 1) := by decide +kernel
theorem dX1_carries_2 : decode cX1_carries 2 = .ok (.getfield 7, 3) := by decide +kernel
theorem dX1_carries_5 : decode cX1_carries 5 = .ok (.if_icmp .gt 7, 3) := by decide +kernel
theorem dX1_carries_8 : decode cX1_carries 8 = .ok (.iconst 1, 1) := by decide +kernel
theorem dX1_carries_9 : decode cX1_carries 9 = .ok (.goto 4, 3) := by decide +kernel
theorem dX1_carries_12 : decode cX1_carries 12 = .ok (.iconst 0, 1) := by decide +kernel
theorem dX1_carries_13 : decode cX1_carries 13 = .ok (.ireturn, 1) := by decide +kernel
theorem dX1_getsStuck_0 : decode cX1_getsStuck 0 = .ok (.iload_n 1, 1) := by decide +kernel
theorem dX1_getsStuck_1 : decode cX1_getsStuck 1 = .ok (.aload_n 0, 1) := by decide +kernel
theorem dX1_getsStuck_2 : decode cX1_getsStuck 2 = .ok (.getfield 13, 3) := by decide +kernel
theorem dX1_getsStuck_5 : decode cX1_getsStuck 5 = .ok (.imul, 1) := by decide +kernel
theorem dX1_getsStuck_6 : decode cX1_getsStuck 6 = .ok (.bipush 10, 2) := by decide +kernel
theorem dX1_getsStuck_8 : decode cX1_getsStuck 8 = .ok (.aload_n 0, 1) := by decide +kernel
theorem dX1_getsStuck_9 : decode cX1_getsStuck 9 = .ok (.getfield 16, 3) := by decide +kernel
theorem dX1_getsStuck_12 : decode cX1_getsStuck 12 = .ok (.imul, 1) := by decide +kernel
theorem dX1_getsStuck_13 : decode cX1_getsStuck 13 = .ok (.if_icmp .ge 7, 3) := by decide +kernel
theorem dX1_getsStuck_16 : decode cX1_getsStuck 16 = .ok (.iconst 1, 1) := by decide +kernel
theorem dX1_getsStuck_17 : decode cX1_getsStuck 17 = .ok (.goto 4, 3) := by decide +kernel
theorem dX1_getsStuck_20 : decode cX1_getsStuck 20 = .ok (.iconst 0, 1) := by decide +kernel
theorem dX1_getsStuck_21 : decode cX1_getsStuck 21 = .ok (.ireturn, 1) := by decide +kernel
theorem dX1_rideMinutes_0 : decode cX1_rideMinutes 0 = .ok (.aload_n 0, 1) := by decide +kernel
theorem dX1_rideMinutes_1 : decode cX1_rideMinutes 1 = .ok (.getfield 13, 3) := by decide +kernel
theorem dX1_rideMinutes_4 : decode cX1_rideMinutes 4 = .ok (.iload_n 1, 1) := by decide +kernel
theorem dX1_rideMinutes_5 : decode cX1_rideMinutes 5 = .ok (.bipush 10, 2) := by decide +kernel
theorem dX1_rideMinutes_7 : decode cX1_rideMinutes 7 = .ok (.idiv, 1) := by decide +kernel
theorem dX1_rideMinutes_8 : decode cX1_rideMinutes 8 = .ok (.iadd, 1) := by decide +kernel
theorem dX1_rideMinutes_9 : decode cX1_rideMinutes 9 = .ok (.istore_n 2, 1) := by decide +kernel
theorem dX1_rideMinutes_10 : decode cX1_rideMinutes 10 = .ok (.iload_n 2, 1) := by decide +kernel
theorem dX1_rideMinutes_11 : decode cX1_rideMinutes 11 = .ok (.ifCond .gt 5, 3) := by decide +kernel
theorem dX1_rideMinutes_14 : decode cX1_rideMinutes 14 = .ok (.iconst 0, 1) := by decide +kernel
theorem dX1_rideMinutes_15 : decode cX1_rideMinutes 15 = .ok (.ireturn, 1) := by decide +kernel
theorem dX1_rideMinutes_16 : decode cX1_rideMinutes 16 = .ok (.iconst 2, 1) := by decide +kernel
theorem dX1_rideMinutes_17 : decode cX1_rideMinutes 17 = .ok (.aload_n 0, 1) := by decide +kernel
theorem dX1_rideMinutes_18 : decode cX1_rideMinutes 18 = .ok (.getfield 16, 3) := by decide +kernel
theorem dX1_rideMinutes_21 : decode cX1_rideMinutes 21 = .ok (.imul, 1) := by decide +kernel
theorem dX1_rideMinutes_22 : decode cX1_rideMinutes 22 = .ok (.iload_n 2, 1) := by decide +kernel
theorem dX1_rideMinutes_23 : decode cX1_rideMinutes 23 = .ok (.iadd, 1) := by decide +kernel
theorem dX1_rideMinutes_24 : decode cX1_rideMinutes 24 = .ok (.iconst 1, 1) := by decide +kernel
theorem dX1_rideMinutes_25 : decode cX1_rideMinutes 25 = .ok (.isub, 1) := by decide +kernel
theorem dX1_rideMinutes_26 : decode cX1_rideMinutes 26 = .ok (.iload_n 2, 1) := by decide +kernel
theorem dX1_rideMinutes_27 : decode cX1_rideMinutes 27 = .ok (.idiv, 1) := by decide +kernel
theorem dX1_rideMinutes_28 : decode cX1_rideMinutes 28 = .ok (.istore_n 3, 1) := by decide +kernel
theorem dX1_rideMinutes_29 : decode cX1_rideMinutes 29 = .ok (.aload_n 0, 1) := by decide +kernel
theorem dX1_rideMinutes_30 : decode cX1_rideMinutes 30 = .ok (.iload_n 1, 1) := by decide +kernel
theorem dX1_rideMinutes_31 : decode cX1_rideMinutes 31 = .ok (.invokevirtual 19, 3) := by decide +kernel
theorem dX1_rideMinutes_34 : decode cX1_rideMinutes 34 = .ok (.ifCond .eq 9, 3) := by decide +kernel
theorem dX1_rideMinutes_37 : decode cX1_rideMinutes 37 = .ok (.iconst 2, 1) := by decide +kernel
theorem dX1_rideMinutes_38 : decode cX1_rideMinutes 38 = .ok (.iload_n 3, 1) := by decide +kernel
theorem dX1_rideMinutes_39 : decode cX1_rideMinutes 39 = .ok (.imul, 1) := by decide +kernel
theorem dX1_rideMinutes_40 : decode cX1_rideMinutes 40 = .ok (.goto 4, 3) := by decide +kernel
theorem dX1_rideMinutes_43 : decode cX1_rideMinutes 43 = .ok (.iload_n 3, 1) := by decide +kernel
theorem dX1_rideMinutes_44 : decode cX1_rideMinutes 44 = .ok (.ireturn, 1) := by decide +kernel
theorem dX1_pullMinutes_0 : decode cX1_pullMinutes 0 = .ok (.aload_n 0, 1) := by decide +kernel
theorem dX1_pullMinutes_1 : decode cX1_pullMinutes 1 = .ok (.getfield 16, 3) := by decide +kernel
theorem dX1_pullMinutes_4 : decode cX1_pullMinutes 4 = .ok (.bipush 9, 2) := by decide +kernel
theorem dX1_pullMinutes_6 : decode cX1_pullMinutes 6 = .ok (.iadd, 1) := by decide +kernel
theorem dX1_pullMinutes_7 : decode cX1_pullMinutes 7 = .ok (.bipush 10, 2) := by decide +kernel
theorem dX1_pullMinutes_9 : decode cX1_pullMinutes 9 = .ok (.idiv, 1) := by decide +kernel
theorem dX1_pullMinutes_10 : decode cX1_pullMinutes 10 = .ok (.ireturn, 1) := by decide +kernel
theorem dX2_init_0 : decode cX2_init 0 = .ok (.aload_n 0, 1) := by decide +kernel
theorem dX2_init_1 : decode cX2_init 1 = .ok (.invokespecial 1, 3) := by decide +kernel
theorem dX2_init_4 : decode cX2_init 4 = .ok (.return_, 1) := by decide +kernel
theorem dX2_distanceTo_0 : decode cX2_distanceTo 0 = .ok (.aload_n 0, 1) := by decide +kernel
theorem dX2_distanceTo_1 : decode cX2_distanceTo 1 = .ok (.getfield 7, 3) := by decide +kernel
theorem dX2_distanceTo_4 : decode cX2_distanceTo 4 = .ok (.aload_n 1, 1) := by decide +kernel
theorem dX2_distanceTo_5 : decode cX2_distanceTo 5 = .ok (.getfield 7, 3) := by decide +kernel
theorem dX2_distanceTo_8 : decode cX2_distanceTo 8 = .ok (.isub, 1) := by decide +kernel
theorem dX2_distanceTo_9 : decode cX2_distanceTo 9 = .ok (.invokestatic 13, 3) := by decide +kernel
theorem dX2_distanceTo_12 : decode cX2_distanceTo 12 = .ok (.aload_n 0, 1) := by decide +kernel
theorem dX2_distanceTo_13 : decode cX2_distanceTo 13 = .ok (.getfield 19, 3) := by decide +kernel
theorem dX2_distanceTo_16 : decode cX2_distanceTo 16 = .ok (.aload_n 1, 1) := by decide +kernel
theorem dX2_distanceTo_17 : decode cX2_distanceTo 17 = .ok (.getfield 19, 3) := by decide +kernel
theorem dX2_distanceTo_20 : decode cX2_distanceTo 20 = .ok (.isub, 1) := by decide +kernel
theorem dX2_distanceTo_21 : decode cX2_distanceTo 21 = .ok (.invokestatic 13, 3) := by decide +kernel
theorem dX2_distanceTo_24 : decode cX2_distanceTo 24 = .ok (.iadd, 1) := by decide +kernel
theorem dX2_distanceTo_25 : decode cX2_distanceTo 25 = .ok (.ireturn, 1) := by decide +kernel
theorem dX3_init_0 : decode cX3_init 0 = .ok (.aload_n 0, 1) := by decide +kernel
theorem dX3_init_1 : decode cX3_init 1 = .ok (.invokespecial 1, 3) := by decide +kernel
theorem dX3_init_4 : decode cX3_init 4 = .ok (.aload_n 0, 1) := by decide +kernel
theorem dX3_init_5 : decode cX3_init 5 = .ok (.new 7, 3) := by decide +kernel
theorem dX3_init_8 : decode cX3_init 8 = .ok (.dup, 1) := by decide +kernel
theorem dX3_init_9 : decode cX3_init 9 = .ok (.invokespecial 9, 3) := by decide +kernel
theorem dX3_init_12 : decode cX3_init 12 = .ok (.putfield 10, 3) := by decide +kernel
theorem dX3_init_15 : decode cX3_init 15 = .ok (.return_, 1) := by decide +kernel
theorem dX3_planRoute_0 : decode cX3_planRoute 0 = .ok (.aload_n 0, 1) := by decide +kernel
theorem dX3_planRoute_1 : decode cX3_planRoute 1 = .ok (.getfield 10, 3) := by decide +kernel
theorem dX3_planRoute_4 : decode cX3_planRoute 4 = .ok (.aload_n 1, 1) := by decide +kernel
theorem dX3_planRoute_5 : decode cX3_planRoute 5 = .ok (.aload_n 0, 1) := by decide +kernel
theorem dX3_planRoute_6 : decode cX3_planRoute 6 = .ok (.getfield 16, 3) := by decide +kernel
theorem dX3_planRoute_9 : decode cX3_planRoute 9 = .ok (.aload_n 0, 1) := by decide +kernel
theorem dX3_planRoute_10 : decode cX3_planRoute 10 = .ok (.getfield 20, 3) := by decide +kernel
theorem dX3_planRoute_13 : decode cX3_planRoute 13 = .ok (.invokevirtual 23, 3) := by decide +kernel
theorem dX3_planRoute_16 : decode cX3_planRoute 16 = .ok (.return_, 1) := by decide +kernel
theorem dX4_init_0 : decode cX4_init 0 = .ok (.aload_n 0, 1) := by decide +kernel
theorem dX4_init_1 : decode cX4_init 1 = .ok (.invokespecial 3, 3) := by decide +kernel
theorem dX4_init_4 : decode cX4_init 4 = .ok (.aload_n 0, 1) := by decide +kernel
theorem dX4_init_5 : decode cX4_init 5 = .ok (.bipush 8, 2) := by decide +kernel
theorem dX4_init_7 : decode cX4_init 7 = .ok (.newarray .int, 2) := by decide +kernel
theorem dX4_init_9 : decode cX4_init 9 = .ok (.putfield 9, 3) := by decide +kernel
theorem dX4_init_12 : decode cX4_init 12 = .ok (.aload_n 0, 1) := by decide +kernel
theorem dX4_init_13 : decode cX4_init 13 = .ok (.bipush 8, 2) := by decide +kernel
theorem dX4_init_15 : decode cX4_init 15 = .ok (.newarray .int, 2) := by decide +kernel
theorem dX4_init_17 : decode cX4_init 17 = .ok (.putfield 15, 3) := by decide +kernel
theorem dX4_init_20 : decode cX4_init 20 = .ok (.return_, 1) := by decide +kernel
theorem dX4_plan_0 : decode cX4_plan 0 = .ok (.iconst 0, 1) := by decide +kernel
theorem dX4_plan_1 : decode cX4_plan 1 = .ok (.istore 4, 2) := by decide +kernel
theorem dX4_plan_3 : decode cX4_plan 3 = .ok (.iload 4, 2) := by decide +kernel
theorem dX4_plan_5 : decode cX4_plan 5 = .ok (.bipush 8, 2) := by decide +kernel
theorem dX4_plan_7 : decode cX4_plan 7 = .ok (.if_icmp .ge 35, 3) := by decide +kernel
theorem dX4_plan_10 : decode cX4_plan 10 = .ok (.aload_n 0, 1) := by decide +kernel
theorem dX4_plan_11 : decode cX4_plan 11 = .ok (.getfield 9, 3) := by decide +kernel
theorem dX4_plan_14 : decode cX4_plan 14 = .ok (.iload 4, 2) := by decide +kernel
theorem dX4_plan_16 : decode cX4_plan 16 = .ok (.iload 4, 2) := by decide +kernel
theorem dX4_plan_18 : decode cX4_plan 18 = .ok (.iload_n 2, 1) := by decide +kernel
theorem dX4_plan_19 : decode cX4_plan 19 = .ok (.if_icmp .ne 7, 3) := by decide +kernel
theorem dX4_plan_22 : decode cX4_plan 22 = .ok (.iconst 0, 1) := by decide +kernel
theorem dX4_plan_23 : decode cX4_plan 23 = .ok (.goto 4, 3) := by decide +kernel
theorem dX4_plan_26 : decode cX4_plan 26 = .ok (.iconst (-1), 1) := by decide +kernel
theorem dX4_plan_27 : decode cX4_plan 27 = .ok (.iastore, 1) := by decide +kernel
theorem dX4_plan_28 : decode cX4_plan 28 = .ok (.aload_n 0, 1) := by decide +kernel
theorem dX4_plan_29 : decode cX4_plan 29 = .ok (.getfield 15, 3) := by decide +kernel
theorem dX4_plan_32 : decode cX4_plan 32 = .ok (.iload 4, 2) := by decide +kernel
theorem dX4_plan_34 : decode cX4_plan 34 = .ok (.iconst (-1), 1) := by decide +kernel
theorem dX4_plan_35 : decode cX4_plan 35 = .ok (.iastore, 1) := by decide +kernel
theorem dX4_plan_36 : decode cX4_plan 36 = .ok (.iinc 4 1, 3) := by decide +kernel
theorem dX4_plan_39 : decode cX4_plan 39 = .ok (.goto (-36), 3) := by decide +kernel
theorem dX4_plan_42 : decode cX4_plan 42 = .ok (.iconst 1, 1) := by decide +kernel
theorem dX4_plan_43 : decode cX4_plan 43 = .ok (.istore 4, 2) := by decide +kernel
theorem dX4_plan_45 : decode cX4_plan 45 = .ok (.iload 4, 2) := by decide +kernel
theorem dX4_plan_47 : decode cX4_plan 47 = .ok (.aload_n 1, 1) := by decide +kernel
theorem dX4_plan_48 : decode cX4_plan 48 = .ok (.getfield 18, 3) := by decide +kernel
theorem dX4_plan_51 : decode cX4_plan 51 = .ok (.if_icmp .ge 43, 3) := by decide +kernel
theorem dX4_plan_54 : decode cX4_plan 54 = .ok (.iconst 0, 1) := by decide +kernel
theorem dX4_plan_55 : decode cX4_plan 55 = .ok (.istore 5, 2) := by decide +kernel
theorem dX4_plan_57 : decode cX4_plan 57 = .ok (.iload 5, 2) := by decide +kernel
theorem dX4_plan_59 : decode cX4_plan 59 = .ok (.aload_n 1, 1) := by decide +kernel
theorem dX4_plan_60 : decode cX4_plan 60 = .ok (.getfield 24, 3) := by decide +kernel
theorem dX4_plan_63 : decode cX4_plan 63 = .ok (.if_icmp .ge 25, 3) := by decide +kernel
theorem dX4_plan_66 : decode cX4_plan 66 = .ok (.aload_n 0, 1) := by decide +kernel
theorem dX4_plan_67 : decode cX4_plan 67 = .ok (.aload_n 1, 1) := by decide +kernel
theorem dX4_plan_68 : decode cX4_plan 68 = .ok (.getfield 27, 3) := by decide +kernel
theorem dX4_plan_71 : decode cX4_plan 71 = .ok (.iload 5, 2) := by decide +kernel
theorem dX4_plan_73 : decode cX4_plan 73 = .ok (.aaload, 1) := by decide +kernel
theorem dX4_plan_74 : decode cX4_plan 74 = .ok (.iload 5, 2) := by decide +kernel
theorem dX4_plan_76 : decode cX4_plan 76 = .ok (.iload 4, 2) := by decide +kernel
theorem dX4_plan_78 : decode cX4_plan 78 = .ok (.iload_n 3, 1) := by decide +kernel
theorem dX4_plan_79 : decode cX4_plan 79 = .ok (.invokevirtual 30, 3) := by decide +kernel
theorem dX4_plan_82 : decode cX4_plan 82 = .ok (.iinc 5 1, 3) := by decide +kernel
theorem dX4_plan_85 : decode cX4_plan 85 = .ok (.goto (-28), 3) := by decide +kernel
theorem dX4_plan_88 : decode cX4_plan 88 = .ok (.iinc 4 1, 3) := by decide +kernel
theorem dX4_plan_91 : decode cX4_plan 91 = .ok (.goto (-46), 3) := by decide +kernel
theorem dX4_plan_94 : decode cX4_plan 94 = .ok (.return_, 1) := by decide +kernel
theorem dX4_extend_0 : decode cX4_extend 0 = .ok (.aload_n 1, 1) := by decide +kernel
theorem dX4_extend_1 : decode cX4_extend 1 = .ok (.getfield 34, 3) := by decide +kernel
theorem dX4_extend_4 : decode cX4_extend 4 = .ok (.istore 5, 2) := by decide +kernel
theorem dX4_extend_6 : decode cX4_extend 6 = .ok (.iload 5, 2) := by decide +kernel
theorem dX4_extend_8 : decode cX4_extend 8 = .ok (.iconst 0, 1) := by decide +kernel
theorem dX4_extend_9 : decode cX4_extend 9 = .ok (.bipush 7, 2) := by decide +kernel
theorem dX4_extend_11 : decode cX4_extend 11 = .ok (.invokestatic 39, 3) := by decide +kernel
theorem dX4_extend_14 : decode cX4_extend 14 = .ok (.ifCond .eq 14, 3) := by decide +kernel
theorem dX4_extend_17 : decode cX4_extend 17 = .ok (.aload_n 0, 1) := by decide +kernel
theorem dX4_extend_18 : decode cX4_extend 18 = .ok (.getfield 9, 3) := by decide +kernel
theorem dX4_extend_21 : decode cX4_extend 21 = .ok (.iload 5, 2) := by decide +kernel
theorem dX4_extend_23 : decode cX4_extend 23 = .ok (.iaload, 1) := by decide +kernel
theorem dX4_extend_24 : decode cX4_extend 24 = .ok (.iconst (-1), 1) := by decide +kernel
theorem dX4_extend_25 : decode cX4_extend 25 = .ok (.if_icmp .eq 4, 3) := by decide +kernel
theorem dX4_extend_28 : decode cX4_extend 28 = .ok (.return_, 1) := by decide +kernel
theorem dX4_extend_29 : decode cX4_extend 29 = .ok (.aload_n 1, 1) := by decide +kernel
theorem dX4_extend_30 : decode cX4_extend 30 = .ok (.iload 4, 2) := by decide +kernel
theorem dX4_extend_32 : decode cX4_extend 32 = .ok (.invokevirtual 43, 3) := by decide +kernel
theorem dX4_extend_35 : decode cX4_extend 35 = .ok (.ifCond .eq 33, 3) := by decide +kernel
theorem dX4_extend_38 : decode cX4_extend 38 = .ok (.aload_n 0, 1) := by decide +kernel
theorem dX4_extend_39 : decode cX4_extend 39 = .ok (.aload_n 1, 1) := by decide +kernel
theorem dX4_extend_40 : decode cX4_extend 40 = .ok (.getfield 47, 3) := by decide +kernel
theorem dX4_extend_43 : decode cX4_extend 43 = .ok (.invokevirtual 50, 3) := by decide +kernel
theorem dX4_extend_46 : decode cX4_extend 46 = .ok (.iload_n 3, 1) := by decide +kernel
theorem dX4_extend_47 : decode cX4_extend 47 = .ok (.iconst 1, 1) := by decide +kernel
theorem dX4_extend_48 : decode cX4_extend 48 = .ok (.isub, 1) := by decide +kernel
theorem dX4_extend_49 : decode cX4_extend 49 = .ok (.if_icmp .ne 19, 3) := by decide +kernel
theorem dX4_extend_52 : decode cX4_extend 52 = .ok (.aload_n 0, 1) := by decide +kernel
theorem dX4_extend_53 : decode cX4_extend 53 = .ok (.getfield 9, 3) := by decide +kernel
theorem dX4_extend_56 : decode cX4_extend 56 = .ok (.iload 5, 2) := by decide +kernel
theorem dX4_extend_58 : decode cX4_extend 58 = .ok (.iload_n 3, 1) := by decide +kernel
theorem dX4_extend_59 : decode cX4_extend 59 = .ok (.iastore, 1) := by decide +kernel
theorem dX4_extend_60 : decode cX4_extend 60 = .ok (.aload_n 0, 1) := by decide +kernel
theorem dX4_extend_61 : decode cX4_extend 61 = .ok (.getfield 15, 3) := by decide +kernel
theorem dX4_extend_64 : decode cX4_extend 64 = .ok (.iload 5, 2) := by decide +kernel
theorem dX4_extend_66 : decode cX4_extend 66 = .ok (.iload_n 2, 1) := by decide +kernel
theorem dX4_extend_67 : decode cX4_extend 67 = .ok (.iastore, 1) := by decide +kernel
theorem dX4_extend_68 : decode cX4_extend 68 = .ok (.return_, 1) := by decide +kernel
theorem dX4_linesFrom_0 : decode cX4_linesFrom 0 = .ok (.iload_n 1, 1) := by decide +kernel
theorem dX4_linesFrom_1 : decode cX4_linesFrom 1 = .ok (.iconst 0, 1) := by decide +kernel
theorem dX4_linesFrom_2 : decode cX4_linesFrom 2 = .ok (.bipush 7, 2) := by decide +kernel
theorem dX4_linesFrom_4 : decode cX4_linesFrom 4 = .ok (.invokestatic 39, 3) := by decide +kernel
theorem dX4_linesFrom_7 : decode cX4_linesFrom 7 = .ok (.ifCond .eq 12, 3) := by decide +kernel
theorem dX4_linesFrom_10 : decode cX4_linesFrom 10 = .ok (.aload_n 0, 1) := by decide +kernel
theorem dX4_linesFrom_11 : decode cX4_linesFrom 11 = .ok (.getfield 9, 3) := by decide +kernel
theorem dX4_linesFrom_14 : decode cX4_linesFrom 14 = .ok (.iload_n 1, 1) := by decide +kernel
theorem dX4_linesFrom_15 : decode cX4_linesFrom 15 = .ok (.iaload, 1) := by decide +kernel
theorem dX4_linesFrom_16 : decode cX4_linesFrom 16 = .ok (.goto 4, 3) := by decide +kernel
theorem dX4_linesFrom_19 : decode cX4_linesFrom 19 = .ok (.iconst (-1), 1) := by decide +kernel
theorem dX4_linesFrom_20 : decode cX4_linesFrom 20 = .ok (.ireturn, 1) := by decide +kernel
theorem dX4_firstFrom_0 : decode cX4_firstFrom 0 = .ok (.iload_n 1, 1) := by decide +kernel
theorem dX4_firstFrom_1 : decode cX4_firstFrom 1 = .ok (.iconst 0, 1) := by decide +kernel
theorem dX4_firstFrom_2 : decode cX4_firstFrom 2 = .ok (.bipush 7, 2) := by decide +kernel
theorem dX4_firstFrom_4 : decode cX4_firstFrom 4 = .ok (.invokestatic 39, 3) := by decide +kernel
theorem dX4_firstFrom_7 : decode cX4_firstFrom 7 = .ok (.ifCond .eq 12, 3) := by decide +kernel
theorem dX4_firstFrom_10 : decode cX4_firstFrom 10 = .ok (.aload_n 0, 1) := by decide +kernel
theorem dX4_firstFrom_11 : decode cX4_firstFrom 11 = .ok (.getfield 15, 3) := by decide +kernel
theorem dX4_firstFrom_14 : decode cX4_firstFrom 14 = .ok (.iload_n 1, 1) := by decide +kernel
theorem dX4_firstFrom_15 : decode cX4_firstFrom 15 = .ok (.iaload, 1) := by decide +kernel
theorem dX4_firstFrom_16 : decode cX4_firstFrom 16 = .ok (.goto 4, 3) := by decide +kernel
theorem dX4_firstFrom_19 : decode cX4_firstFrom 19 = .ok (.iconst (-1), 1) := by decide +kernel
theorem dX4_firstFrom_20 : decode cX4_firstFrom 20 = .ok (.ireturn, 1) := by decide +kernel
theorem dX6_init_0 : decode cX6_init 0 = .ok (.aload_n 0, 1) := by decide +kernel
theorem dX6_init_1 : decode cX6_init 1 = .ok (.invokespecial 3, 3) := by decide +kernel
theorem dX6_init_4 : decode cX6_init 4 = .ok (.aload_n 0, 1) := by decide +kernel
theorem dX6_init_5 : decode cX6_init 5 = .ok (.iconst (-1), 1) := by decide +kernel
theorem dX6_init_6 : decode cX6_init 6 = .ok (.putfield 9, 3) := by decide +kernel
theorem dX6_init_9 : decode cX6_init 9 = .ok (.return_, 1) := by decide +kernel
theorem dX6_copyFrom_0 : decode cX6_copyFrom 0 = .ok (.aload_n 0, 1) := by decide +kernel
theorem dX6_copyFrom_1 : decode cX6_copyFrom 1 = .ok (.aload_n 1, 1) := by decide +kernel
theorem dX6_copyFrom_2 : decode cX6_copyFrom 2 = .ok (.getfield 15, 3) := by decide +kernel
theorem dX6_copyFrom_5 : decode cX6_copyFrom 5 = .ok (.putfield 15, 3) := by decide +kernel
theorem dX6_copyFrom_8 : decode cX6_copyFrom 8 = .ok (.aload_n 0, 1) := by decide +kernel
theorem dX6_copyFrom_9 : decode cX6_copyFrom 9 = .ok (.aload_n 1, 1) := by decide +kernel
theorem dX6_copyFrom_10 : decode cX6_copyFrom 10 = .ok (.getfield 18, 3) := by decide +kernel
theorem dX6_copyFrom_13 : decode cX6_copyFrom 13 = .ok (.putfield 18, 3) := by decide +kernel
theorem dX6_copyFrom_16 : decode cX6_copyFrom 16 = .ok (.aload_n 0, 1) := by decide +kernel
theorem dX6_copyFrom_17 : decode cX6_copyFrom 17 = .ok (.aload_n 1, 1) := by decide +kernel
theorem dX6_copyFrom_18 : decode cX6_copyFrom 18 = .ok (.getfield 21, 3) := by decide +kernel
theorem dX6_copyFrom_21 : decode cX6_copyFrom 21 = .ok (.putfield 21, 3) := by decide +kernel
theorem dX6_copyFrom_24 : decode cX6_copyFrom 24 = .ok (.aload_n 0, 1) := by decide +kernel
theorem dX6_copyFrom_25 : decode cX6_copyFrom 25 = .ok (.aload_n 1, 1) := by decide +kernel
theorem dX6_copyFrom_26 : decode cX6_copyFrom 26 = .ok (.getfield 24, 3) := by decide +kernel
theorem dX6_copyFrom_29 : decode cX6_copyFrom 29 = .ok (.putfield 24, 3) := by decide +kernel
theorem dX6_copyFrom_32 : decode cX6_copyFrom 32 = .ok (.aload_n 0, 1) := by decide +kernel
theorem dX6_copyFrom_33 : decode cX6_copyFrom 33 = .ok (.aload_n 1, 1) := by decide +kernel
theorem dX6_copyFrom_34 : decode cX6_copyFrom 34 = .ok (.getfield 27, 3) := by decide +kernel
theorem dX6_copyFrom_37 : decode cX6_copyFrom 37 = .ok (.putfield 27, 3) := by decide +kernel
theorem dX6_copyFrom_40 : decode cX6_copyFrom 40 = .ok (.aload_n 0, 1) := by decide +kernel
theorem dX6_copyFrom_41 : decode cX6_copyFrom 41 = .ok (.aload_n 1, 1) := by decide +kernel
theorem dX6_copyFrom_42 : decode cX6_copyFrom 42 = .ok (.getfield 9, 3) := by decide +kernel
theorem dX6_copyFrom_45 : decode cX6_copyFrom 45 = .ok (.putfield 9, 3) := by decide +kernel
theorem dX6_copyFrom_48 : decode cX6_copyFrom 48 = .ok (.return_, 1) := by decide +kernel
theorem dX6_isUnderWay_0 : decode cX6_isUnderWay 0 = .ok (.aload_n 0, 1) := by decide +kernel
theorem dX6_isUnderWay_1 : decode cX6_isUnderWay 1 = .ok (.getfield 15, 3) := by decide +kernel
theorem dX6_isUnderWay_4 : decode cX6_isUnderWay 4 = .ok (.ifCond .eq 11, 3) := by decide +kernel
theorem dX6_isUnderWay_7 : decode cX6_isUnderWay 7 = .ok (.aload_n 0, 1) := by decide +kernel
theorem dX6_isUnderWay_8 : decode cX6_isUnderWay 8 = .ok (.getfield 15, 3) := by decide +kernel
theorem dX6_isUnderWay_11 : decode cX6_isUnderWay 11 = .ok (.iconst 1, 1) := by decide +kernel
theorem dX6_isUnderWay_12 : decode cX6_isUnderWay 12 = .ok (.if_icmp .ne 7, 3) := by decide +kernel
theorem dX6_isUnderWay_15 : decode cX6_isUnderWay 15 = .ok (.iconst 1, 1) := by decide +kernel
theorem dX6_isUnderWay_16 : decode cX6_isUnderWay 16 = .ok (.goto 4, 3) := by decide +kernel
theorem dX6_isUnderWay_19 : decode cX6_isUnderWay 19 = .ok (.iconst 0, 1) := by decide +kernel
theorem dX6_isUnderWay_20 : decode cX6_isUnderWay 20 = .ok (.ireturn, 1) := by decide +kernel
theorem dX6_beginWait_0 : decode cX6_beginWait 0 = .ok (.aload_n 0, 1) := by decide +kernel
theorem dX6_beginWait_1 : decode cX6_beginWait 1 = .ok (.iconst 0, 1) := by decide +kernel
theorem dX6_beginWait_2 : decode cX6_beginWait 2 = .ok (.putfield 15, 3) := by decide +kernel
theorem dX6_beginWait_5 : decode cX6_beginWait 5 = .ok (.aload_n 0, 1) := by decide +kernel
theorem dX6_beginWait_6 : decode cX6_beginWait 6 = .ok (.iload_n 1, 1) := by decide +kernel
theorem dX6_beginWait_7 : decode cX6_beginWait 7 = .ok (.putfield 18, 3) := by decide +kernel
theorem dX6_beginWait_10 : decode cX6_beginWait 10 = .ok (.aload_n 0, 1) := by decide +kernel
theorem dX6_beginWait_11 : decode cX6_beginWait 11 = .ok (.iconst (-1), 1) := by decide +kernel
theorem dX6_beginWait_12 : decode cX6_beginWait 12 = .ok (.putfield 21, 3) := by decide +kernel
theorem dX6_beginWait_15 : decode cX6_beginWait 15 = .ok (.aload_n 0, 1) := by decide +kernel
theorem dX6_beginWait_16 : decode cX6_beginWait 16 = .ok (.iconst 0, 1) := by decide +kernel
theorem dX6_beginWait_17 : decode cX6_beginWait 17 = .ok (.putfield 24, 3) := by decide +kernel
theorem dX6_beginWait_20 : decode cX6_beginWait 20 = .ok (.return_, 1) := by decide +kernel
theorem dX6_beginRide_0 : decode cX6_beginRide 0 = .ok (.aload_n 0, 1) := by decide +kernel
theorem dX6_beginRide_1 : decode cX6_beginRide 1 = .ok (.iconst 1, 1) := by decide +kernel
theorem dX6_beginRide_2 : decode cX6_beginRide 2 = .ok (.putfield 15, 3) := by decide +kernel
theorem dX6_beginRide_5 : decode cX6_beginRide 5 = .ok (.aload_n 0, 1) := by decide +kernel
theorem dX6_beginRide_6 : decode cX6_beginRide 6 = .ok (.iconst (-1), 1) := by decide +kernel
theorem dX6_beginRide_7 : decode cX6_beginRide 7 = .ok (.putfield 18, 3) := by decide +kernel
theorem dX6_beginRide_10 : decode cX6_beginRide 10 = .ok (.aload_n 0, 1) := by decide +kernel
theorem dX6_beginRide_11 : decode cX6_beginRide 11 = .ok (.iload_n 1, 1) := by decide +kernel
theorem dX6_beginRide_12 : decode cX6_beginRide 12 = .ok (.putfield 21, 3) := by decide +kernel
theorem dX6_beginRide_15 : decode cX6_beginRide 15 = .ok (.aload_n 0, 1) := by decide +kernel
theorem dX6_beginRide_16 : decode cX6_beginRide 16 = .ok (.iload_n 2, 1) := by decide +kernel
theorem dX6_beginRide_17 : decode cX6_beginRide 17 = .ok (.putfield 24, 3) := by decide +kernel
theorem dX6_beginRide_20 : decode cX6_beginRide 20 = .ok (.aload_n 0, 1) := by decide +kernel
theorem dX6_beginRide_21 : decode cX6_beginRide 21 = .ok (.dup, 1) := by decide +kernel
theorem dX6_beginRide_22 : decode cX6_beginRide 22 = .ok (.getfield 27, 3) := by decide +kernel
theorem dX6_beginRide_25 : decode cX6_beginRide 25 = .ok (.iconst 1, 1) := by decide +kernel
theorem dX6_beginRide_26 : decode cX6_beginRide 26 = .ok (.iadd, 1) := by decide +kernel
theorem dX6_beginRide_27 : decode cX6_beginRide 27 = .ok (.putfield 27, 3) := by decide +kernel
theorem dX6_beginRide_30 : decode cX6_beginRide 30 = .ok (.return_, 1) := by decide +kernel
theorem dX6_arrive_0 : decode cX6_arrive 0 = .ok (.aload_n 0, 1) := by decide +kernel
theorem dX6_arrive_1 : decode cX6_arrive 1 = .ok (.iconst 2, 1) := by decide +kernel
theorem dX6_arrive_2 : decode cX6_arrive 2 = .ok (.putfield 15, 3) := by decide +kernel
theorem dX6_arrive_5 : decode cX6_arrive 5 = .ok (.aload_n 0, 1) := by decide +kernel
theorem dX6_arrive_6 : decode cX6_arrive 6 = .ok (.iload_n 1, 1) := by decide +kernel
theorem dX6_arrive_7 : decode cX6_arrive 7 = .ok (.putfield 18, 3) := by decide +kernel
theorem dX6_arrive_10 : decode cX6_arrive 10 = .ok (.aload_n 0, 1) := by decide +kernel
theorem dX6_arrive_11 : decode cX6_arrive 11 = .ok (.iconst (-1), 1) := by decide +kernel
theorem dX6_arrive_12 : decode cX6_arrive 12 = .ok (.putfield 21, 3) := by decide +kernel
theorem dX6_arrive_15 : decode cX6_arrive 15 = .ok (.aload_n 0, 1) := by decide +kernel
theorem dX6_arrive_16 : decode cX6_arrive 16 = .ok (.iconst 0, 1) := by decide +kernel
theorem dX6_arrive_17 : decode cX6_arrive 17 = .ok (.putfield 24, 3) := by decide +kernel
theorem dX6_arrive_20 : decode cX6_arrive 20 = .ok (.aload_n 0, 1) := by decide +kernel
theorem dX6_arrive_21 : decode cX6_arrive 21 = .ok (.iload_n 2, 1) := by decide +kernel
theorem dX6_arrive_22 : decode cX6_arrive 22 = .ok (.putfield 9, 3) := by decide +kernel
theorem dX6_arrive_25 : decode cX6_arrive 25 = .ok (.return_, 1) := by decide +kernel
theorem dX6_giveUp_0 : decode cX6_giveUp 0 = .ok (.aload_n 0, 1) := by decide +kernel
theorem dX6_giveUp_1 : decode cX6_giveUp 1 = .ok (.iconst 3, 1) := by decide +kernel
theorem dX6_giveUp_2 : decode cX6_giveUp 2 = .ok (.putfield 15, 3) := by decide +kernel
theorem dX6_giveUp_5 : decode cX6_giveUp 5 = .ok (.aload_n 0, 1) := by decide +kernel
theorem dX6_giveUp_6 : decode cX6_giveUp 6 = .ok (.iconst (-1), 1) := by decide +kernel
theorem dX6_giveUp_7 : decode cX6_giveUp 7 = .ok (.putfield 18, 3) := by decide +kernel
theorem dX6_giveUp_10 : decode cX6_giveUp 10 = .ok (.aload_n 0, 1) := by decide +kernel
theorem dX6_giveUp_11 : decode cX6_giveUp 11 = .ok (.iconst 0, 1) := by decide +kernel
theorem dX6_giveUp_12 : decode cX6_giveUp 12 = .ok (.putfield 24, 3) := by decide +kernel
theorem dX6_giveUp_15 : decode cX6_giveUp 15 = .ok (.return_, 1) := by decide +kernel
theorem dX7_init_0 : decode cX7_init 0 = .ok (.aload_n 0, 1) := by decide +kernel
theorem dX7_init_1 : decode cX7_init 1 = .ok (.invokespecial 3, 3) := by decide +kernel
theorem dX7_init_4 : decode cX7_init 4 = .ok (.aload_n 0, 1) := by decide +kernel
theorem dX7_init_5 : decode cX7_init 5 = .ok (.iconst 3, 1) := by decide +kernel
theorem dX7_init_6 : decode cX7_init 6 = .ok (.newarray .int, 2) := by decide +kernel
theorem dX7_init_8 : decode cX7_init 8 = .ok (.putfield 9, 3) := by decide +kernel
theorem dX7_init_11 : decode cX7_init 11 = .ok (.aload_n 0, 1) := by decide +kernel
theorem dX7_init_12 : decode cX7_init 12 = .ok (.iconst 3, 1) := by decide +kernel
theorem dX7_init_13 : decode cX7_init 13 = .ok (.newarray .int, 2) := by decide +kernel
theorem dX7_init_15 : decode cX7_init 15 = .ok (.putfield 15, 3) := by decide +kernel
theorem dX7_init_18 : decode cX7_init 18 = .ok (.return_, 1) := by decide +kernel
theorem dX7_copyFrom_0 : decode cX7_copyFrom 0 = .ok (.aload_n 0, 1) := by decide +kernel
theorem dX7_copyFrom_1 : decode cX7_copyFrom 1 = .ok (.aload_n 1, 1) := by decide +kernel
theorem dX7_copyFrom_2 : decode cX7_copyFrom 2 = .ok (.getfield 18, 3) := by decide +kernel
theorem dX7_copyFrom_5 : decode cX7_copyFrom 5 = .ok (.putfield 18, 3) := by decide +kernel
theorem dX7_copyFrom_8 : decode cX7_copyFrom 8 = .ok (.aload_n 0, 1) := by decide +kernel
theorem dX7_copyFrom_9 : decode cX7_copyFrom 9 = .ok (.aload_n 1, 1) := by decide +kernel
theorem dX7_copyFrom_10 : decode cX7_copyFrom 10 = .ok (.getfield 22, 3) := by decide +kernel
theorem dX7_copyFrom_13 : decode cX7_copyFrom 13 = .ok (.putfield 22, 3) := by decide +kernel
theorem dX7_copyFrom_16 : decode cX7_copyFrom 16 = .ok (.iconst 0, 1) := by decide +kernel
theorem dX7_copyFrom_17 : decode cX7_copyFrom 17 = .ok (.istore_n 2, 1) := by decide +kernel
theorem dX7_copyFrom_18 : decode cX7_copyFrom 18 = .ok (.iload_n 2, 1) := by decide +kernel
theorem dX7_copyFrom_19 : decode cX7_copyFrom 19 = .ok (.aload_n 0, 1) := by decide +kernel
theorem dX7_copyFrom_20 : decode cX7_copyFrom 20 = .ok (.getfield 22, 3) := by decide +kernel
theorem dX7_copyFrom_23 : decode cX7_copyFrom 23 = .ok (.if_icmp .ge 33, 3) := by decide +kernel
theorem dX7_copyFrom_26 : decode cX7_copyFrom 26 = .ok (.aload_n 0, 1) := by decide +kernel
theorem dX7_copyFrom_27 : decode cX7_copyFrom 27 = .ok (.getfield 9, 3) := by decide +kernel
theorem dX7_copyFrom_30 : decode cX7_copyFrom 30 = .ok (.iload_n 2, 1) := by decide +kernel
theorem dX7_copyFrom_31 : decode cX7_copyFrom 31 = .ok (.aload_n 1, 1) := by decide +kernel
theorem dX7_copyFrom_32 : decode cX7_copyFrom 32 = .ok (.getfield 9, 3) := by decide +kernel
theorem dX7_copyFrom_35 : decode cX7_copyFrom 35 = .ok (.iload_n 2, 1) := by decide +kernel
theorem dX7_copyFrom_36 : decode cX7_copyFrom 36 = .ok (.iaload, 1) := by decide +kernel
theorem dX7_copyFrom_37 : decode cX7_copyFrom 37 = .ok (.iastore, 1) := by decide +kernel
theorem dX7_copyFrom_38 : decode cX7_copyFrom 38 = .ok (.aload_n 0, 1) := by decide +kernel
theorem dX7_copyFrom_39 : decode cX7_copyFrom 39 = .ok (.getfield 15, 3) := by decide +kernel
theorem dX7_copyFrom_42 : decode cX7_copyFrom 42 = .ok (.iload_n 2, 1) := by decide +kernel
theorem dX7_copyFrom_43 : decode cX7_copyFrom 43 = .ok (.aload_n 1, 1) := by decide +kernel
theorem dX7_copyFrom_44 : decode cX7_copyFrom 44 = .ok (.getfield 15, 3) := by decide +kernel
theorem dX7_copyFrom_47 : decode cX7_copyFrom 47 = .ok (.iload_n 2, 1) := by decide +kernel
theorem dX7_copyFrom_48 : decode cX7_copyFrom 48 = .ok (.iaload, 1) := by decide +kernel
theorem dX7_copyFrom_49 : decode cX7_copyFrom 49 = .ok (.iastore, 1) := by decide +kernel
theorem dX7_copyFrom_50 : decode cX7_copyFrom 50 = .ok (.iinc 2 1, 3) := by decide +kernel
theorem dX7_copyFrom_53 : decode cX7_copyFrom 53 = .ok (.goto (-35), 3) := by decide +kernel
theorem dX7_copyFrom_56 : decode cX7_copyFrom 56 = .ok (.aload_n 0, 1) := by decide +kernel
theorem dX7_copyFrom_57 : decode cX7_copyFrom 57 = .ok (.aload_n 1, 1) := by decide +kernel
theorem dX7_copyFrom_58 : decode cX7_copyFrom 58 = .ok (.getfield 25, 3) := by decide +kernel
theorem dX7_copyFrom_61 : decode cX7_copyFrom 61 = .ok (.putfield 25, 3) := by decide +kernel
theorem dX7_copyFrom_64 : decode cX7_copyFrom 64 = .ok (.aload_n 0, 1) := by decide +kernel
theorem dX7_copyFrom_65 : decode cX7_copyFrom 65 = .ok (.aload_n 1, 1) := by decide +kernel
theorem dX7_copyFrom_66 : decode cX7_copyFrom 66 = .ok (.getfield 28, 3) := by decide +kernel
theorem dX7_copyFrom_69 : decode cX7_copyFrom 69 = .ok (.putfield 28, 3) := by decide +kernel
theorem dX7_copyFrom_72 : decode cX7_copyFrom 72 = .ok (.return_, 1) := by decide +kernel
theorem dX7_inAll_0 : decode cX7_inAll 0 = .ok (.aload_n 0, 1) := by decide +kernel
theorem dX7_inAll_1 : decode cX7_inAll 1 = .ok (.getfield 18, 3) := by decide +kernel
theorem dX7_inAll_4 : decode cX7_inAll 4 = .ok (.aload_n 0, 1) := by decide +kernel
theorem dX7_inAll_5 : decode cX7_inAll 5 = .ok (.getfield 22, 3) := by decide +kernel
theorem dX7_inAll_8 : decode cX7_inAll 8 = .ok (.iadd, 1) := by decide +kernel
theorem dX7_inAll_9 : decode cX7_inAll 9 = .ok (.ireturn, 1) := by decide +kernel
theorem dX7_ridden_0 : decode cX7_ridden 0 = .ok (.iconst 0, 1) := by decide +kernel
theorem dX7_ridden_1 : decode cX7_ridden 1 = .ok (.istore_n 1, 1) := by decide +kernel
theorem dX7_ridden_2 : decode cX7_ridden 2 = .ok (.iconst 0, 1) := by decide +kernel
theorem dX7_ridden_3 : decode cX7_ridden 3 = .ok (.istore_n 2, 1) := by decide +kernel
theorem dX7_ridden_4 : decode cX7_ridden 4 = .ok (.iload_n 2, 1) := by decide +kernel
theorem dX7_ridden_5 : decode cX7_ridden 5 = .ok (.aload_n 0, 1) := by decide +kernel
theorem dX7_ridden_6 : decode cX7_ridden 6 = .ok (.getfield 22, 3) := by decide +kernel
theorem dX7_ridden_9 : decode cX7_ridden 9 = .ok (.if_icmp .ge 22, 3) := by decide +kernel
theorem dX7_ridden_12 : decode cX7_ridden 12 = .ok (.aload_n 0, 1) := by decide +kernel
theorem dX7_ridden_13 : decode cX7_ridden 13 = .ok (.getfield 9, 3) := by decide +kernel
theorem dX7_ridden_16 : decode cX7_ridden 16 = .ok (.iload_n 2, 1) := by decide +kernel
theorem dX7_ridden_17 : decode cX7_ridden 17 = .ok (.iaload, 1) := by decide +kernel
theorem dX7_ridden_18 : decode cX7_ridden 18 = .ok (.iconst (-1), 1) := by decide +kernel
theorem dX7_ridden_19 : decode cX7_ridden 19 = .ok (.if_icmp .eq 6, 3) := by decide +kernel
theorem dX7_ridden_22 : decode cX7_ridden 22 = .ok (.iinc 1 1, 3) := by decide +kernel
theorem dX7_ridden_25 : decode cX7_ridden 25 = .ok (.iinc 2 1, 3) := by decide +kernel
theorem dX7_ridden_28 : decode cX7_ridden 28 = .ok (.goto (-24), 3) := by decide +kernel
theorem dX7_ridden_31 : decode cX7_ridden 31 = .ok (.iload_n 1, 1) := by decide +kernel
theorem dX7_ridden_32 : decode cX7_ridden 32 = .ok (.ireturn, 1) := by decide +kernel
theorem dX7_canLeaveTop_0 : decode cX7_canLeaveTop 0 = .ok (.aload_n 0, 1) := by decide +kernel
theorem dX7_canLeaveTop_1 : decode cX7_canLeaveTop 1 = .ok (.getfield 18, 3) := by decide +kernel
theorem dX7_canLeaveTop_4 : decode cX7_canLeaveTop 4 = .ok (.ifCond .le 15, 3) := by decide +kernel
theorem dX7_canLeaveTop_7 : decode cX7_canLeaveTop 7 = .ok (.aload_n 0, 1) := by decide +kernel
theorem dX7_canLeaveTop_8 : decode cX7_canLeaveTop 8 = .ok (.getfield 22, 3) := by decide +kernel
theorem dX7_canLeaveTop_11 : decode cX7_canLeaveTop 11 = .ok (.iconst 3, 1) := by decide +kernel
theorem dX7_canLeaveTop_12 : decode cX7_canLeaveTop 12 = .ok (.if_icmp .ge 7, 3) := by decide +kernel
theorem dX7_canLeaveTop_15 : decode cX7_canLeaveTop 15 = .ok (.iconst 1, 1) := by decide +kernel
theorem dX7_canLeaveTop_16 : decode cX7_canLeaveTop 16 = .ok (.goto 4, 3) := by decide +kernel
theorem dX7_canLeaveTop_19 : decode cX7_canLeaveTop 19 = .ok (.iconst 0, 1) := by decide +kernel
theorem dX7_canLeaveTop_20 : decode cX7_canLeaveTop 20 = .ok (.ireturn, 1) := by decide +kernel
theorem dX7_leaveTop_0 : decode cX7_leaveTop 0 = .ok (.aload_n 0, 1) := by decide +kernel
theorem dX7_leaveTop_1 : decode cX7_leaveTop 1 = .ok (.getfield 9, 3) := by decide +kernel
theorem dX7_leaveTop_4 : decode cX7_leaveTop 4 = .ok (.aload_n 0, 1) := by decide +kernel
theorem dX7_leaveTop_5 : decode cX7_leaveTop 5 = .ok (.getfield 22, 3) := by decide +kernel
theorem dX7_leaveTop_8 : decode cX7_leaveTop 8 = .ok (.iload_n 1, 1) := by decide +kernel
theorem dX7_leaveTop_9 : decode cX7_leaveTop 9 = .ok (.iastore, 1) := by decide +kernel
theorem dX7_leaveTop_10 : decode cX7_leaveTop 10 = .ok (.aload_n 0, 1) := by decide +kernel
theorem dX7_leaveTop_11 : decode cX7_leaveTop 11 = .ok (.getfield 15, 3) := by decide +kernel
theorem dX7_leaveTop_14 : decode cX7_leaveTop 14 = .ok (.aload_n 0, 1) := by decide +kernel
theorem dX7_leaveTop_15 : decode cX7_leaveTop 15 = .ok (.getfield 22, 3) := by decide +kernel
theorem dX7_leaveTop_18 : decode cX7_leaveTop 18 = .ok (.iload_n 2, 1) := by decide +kernel
theorem dX7_leaveTop_19 : decode cX7_leaveTop 19 = .ok (.iastore, 1) := by decide +kernel
theorem dX7_leaveTop_20 : decode cX7_leaveTop 20 = .ok (.aload_n 0, 1) := by decide +kernel
theorem dX7_leaveTop_21 : decode cX7_leaveTop 21 = .ok (.dup, 1) := by decide +kernel
theorem dX7_leaveTop_22 : decode cX7_leaveTop 22 = .ok (.getfield 22, 3) := by decide +kernel
theorem dX7_leaveTop_25 : decode cX7_leaveTop 25 = .ok (.iconst 1, 1) := by decide +kernel
theorem dX7_leaveTop_26 : decode cX7_leaveTop 26 = .ok (.iadd, 1) := by decide +kernel
theorem dX7_leaveTop_27 : decode cX7_leaveTop 27 = .ok (.putfield 22, 3) := by decide +kernel
theorem dX7_leaveTop_30 : decode cX7_leaveTop 30 = .ok (.aload_n 0, 1) := by decide +kernel
theorem dX7_leaveTop_31 : decode cX7_leaveTop 31 = .ok (.dup, 1) := by decide +kernel
theorem dX7_leaveTop_32 : decode cX7_leaveTop 32 = .ok (.getfield 18, 3) := by decide +kernel
theorem dX7_leaveTop_35 : decode cX7_leaveTop 35 = .ok (.iconst 1, 1) := by decide +kernel
theorem dX7_leaveTop_36 : decode cX7_leaveTop 36 = .ok (.isub, 1) := by decide +kernel
theorem dX7_leaveTop_37 : decode cX7_leaveTop 37 = .ok (.putfield 18, 3) := by decide +kernel
theorem dX7_leaveTop_40 : decode cX7_leaveTop 40 = .ok (.aload_n 0, 1) := by decide +kernel
theorem dX7_leaveTop_41 : decode cX7_leaveTop 41 = .ok (.dup, 1) := by decide +kernel
theorem dX7_leaveTop_42 : decode cX7_leaveTop 42 = .ok (.getfield 25, 3) := by decide +kernel
theorem dX7_leaveTop_45 : decode cX7_leaveTop 45 = .ok (.iconst 1, 1) := by decide +kernel
theorem dX7_leaveTop_46 : decode cX7_leaveTop 46 = .ok (.iadd, 1) := by decide +kernel
theorem dX7_leaveTop_47 : decode cX7_leaveTop 47 = .ok (.putfield 25, 3) := by decide +kernel
theorem dX7_leaveTop_50 : decode cX7_leaveTop 50 = .ok (.return_, 1) := by decide +kernel
theorem dX7_beginPull_0 : decode cX7_beginPull 0 = .ok (.aload_n 0, 1) := by decide +kernel
theorem dX7_beginPull_1 : decode cX7_beginPull 1 = .ok (.getfield 9, 3) := by decide +kernel
theorem dX7_beginPull_4 : decode cX7_beginPull 4 = .ok (.iload_n 1, 1) := by decide +kernel
theorem dX7_beginPull_5 : decode cX7_beginPull 5 = .ok (.iconst (-1), 1) := by decide +kernel
theorem dX7_beginPull_6 : decode cX7_beginPull 6 = .ok (.iastore, 1) := by decide +kernel
theorem dX7_beginPull_7 : decode cX7_beginPull 7 = .ok (.aload_n 0, 1) := by decide +kernel
theorem dX7_beginPull_8 : decode cX7_beginPull 8 = .ok (.getfield 15, 3) := by decide +kernel
theorem dX7_beginPull_11 : decode cX7_beginPull 11 = .ok (.iload_n 1, 1) := by decide +kernel
theorem dX7_beginPull_12 : decode cX7_beginPull 12 = .ok (.iload_n 2, 1) := by decide +kernel
theorem dX7_beginPull_13 : decode cX7_beginPull 13 = .ok (.iastore, 1) := by decide +kernel
theorem dX7_beginPull_14 : decode cX7_beginPull 14 = .ok (.return_, 1) := by decide +kernel
theorem dX7_dropPulled_0 : decode cX7_dropPulled 0 = .ok (.iconst 0, 1) := by decide +kernel
theorem dX7_dropPulled_1 : decode cX7_dropPulled 1 = .ok (.istore_n 1, 1) := by decide +kernel
theorem dX7_dropPulled_2 : decode cX7_dropPulled 2 = .ok (.iconst 0, 1) := by decide +kernel
theorem dX7_dropPulled_3 : decode cX7_dropPulled 3 = .ok (.istore_n 2, 1) := by decide +kernel
theorem dX7_dropPulled_4 : decode cX7_dropPulled 4 = .ok (.iload_n 2, 1) := by decide +kernel
theorem dX7_dropPulled_5 : decode cX7_dropPulled 5 = .ok (.aload_n 0, 1) := by decide +kernel
theorem dX7_dropPulled_6 : decode cX7_dropPulled 6 = .ok (.getfield 22, 3) := by decide +kernel
theorem dX7_dropPulled_9 : decode cX7_dropPulled 9 = .ok (.if_icmp .ge 45, 3) := by decide +kernel
theorem dX7_dropPulled_12 : decode cX7_dropPulled 12 = .ok (.aload_n 0, 1) := by decide +kernel
theorem dX7_dropPulled_13 : decode cX7_dropPulled 13 = .ok (.getfield 15, 3) := by decide +kernel
theorem dX7_dropPulled_16 : decode cX7_dropPulled 16 = .ok (.iload_n 2, 1) := by decide +kernel
theorem dX7_dropPulled_17 : decode cX7_dropPulled 17 = .ok (.iaload, 1) := by decide +kernel
theorem dX7_dropPulled_18 : decode cX7_dropPulled 18 = .ok (.ifCond .le 30, 3) := by decide +kernel
theorem dX7_dropPulled_21 : decode cX7_dropPulled 21 = .ok (.aload_n 0, 1) := by decide +kernel
theorem dX7_dropPulled_22 : decode cX7_dropPulled 22 = .ok (.getfield 9, 3) := by decide +kernel
theorem dX7_dropPulled_25 : decode cX7_dropPulled 25 = .ok (.iload_n 1, 1) := by decide +kernel
theorem dX7_dropPulled_26 : decode cX7_dropPulled 26 = .ok (.aload_n 0, 1) := by decide +kernel
theorem dX7_dropPulled_27 : decode cX7_dropPulled 27 = .ok (.getfield 9, 3) := by decide +kernel
theorem dX7_dropPulled_30 : decode cX7_dropPulled 30 = .ok (.iload_n 2, 1) := by decide +kernel
theorem dX7_dropPulled_31 : decode cX7_dropPulled 31 = .ok (.iaload, 1) := by decide +kernel
theorem dX7_dropPulled_32 : decode cX7_dropPulled 32 = .ok (.iastore, 1) := by decide +kernel
theorem dX7_dropPulled_33 : decode cX7_dropPulled 33 = .ok (.aload_n 0, 1) := by decide +kernel
theorem dX7_dropPulled_34 : decode cX7_dropPulled 34 = .ok (.getfield 15, 3) := by decide +kernel
theorem dX7_dropPulled_37 : decode cX7_dropPulled 37 = .ok (.iload_n 1, 1) := by decide +kernel
theorem dX7_dropPulled_38 : decode cX7_dropPulled 38 = .ok (.aload_n 0, 1) := by decide +kernel
theorem dX7_dropPulled_39 : decode cX7_dropPulled 39 = .ok (.getfield 15, 3) := by decide +kernel
theorem dX7_dropPulled_42 : decode cX7_dropPulled 42 = .ok (.iload_n 2, 1) := by decide +kernel
theorem dX7_dropPulled_43 : decode cX7_dropPulled 43 = .ok (.iaload, 1) := by decide +kernel
theorem dX7_dropPulled_44 : decode cX7_dropPulled 44 = .ok (.iastore, 1) := by decide +kernel
theorem dX7_dropPulled_45 : decode cX7_dropPulled 45 = .ok (.iinc 1 1, 3) := by decide +kernel
theorem dX7_dropPulled_48 : decode cX7_dropPulled 48 = .ok (.iinc 2 1, 3) := by decide +kernel
theorem dX7_dropPulled_51 : decode cX7_dropPulled 51 = .ok (.goto (-47), 3) := by decide +kernel
theorem dX7_dropPulled_54 : decode cX7_dropPulled 54 = .ok (.aload_n 0, 1) := by decide +kernel
theorem dX7_dropPulled_55 : decode cX7_dropPulled 55 = .ok (.dup, 1) := by decide +kernel
theorem dX7_dropPulled_56 : decode cX7_dropPulled 56 = .ok (.getfield 18, 3) := by decide +kernel
theorem dX7_dropPulled_59 : decode cX7_dropPulled 59 = .ok (.aload_n 0, 1) := by decide +kernel
theorem dX7_dropPulled_60 : decode cX7_dropPulled 60 = .ok (.getfield 22, 3) := by decide +kernel
theorem dX7_dropPulled_63 : decode cX7_dropPulled 63 = .ok (.iload_n 1, 1) := by decide +kernel
theorem dX7_dropPulled_64 : decode cX7_dropPulled 64 = .ok (.isub, 1) := by decide +kernel
theorem dX7_dropPulled_65 : decode cX7_dropPulled 65 = .ok (.iadd, 1) := by decide +kernel
theorem dX7_dropPulled_66 : decode cX7_dropPulled 66 = .ok (.putfield 18, 3) := by decide +kernel
theorem dX7_dropPulled_69 : decode cX7_dropPulled 69 = .ok (.aload_n 0, 1) := by decide +kernel
theorem dX7_dropPulled_70 : decode cX7_dropPulled 70 = .ok (.iload_n 1, 1) := by decide +kernel
theorem dX7_dropPulled_71 : decode cX7_dropPulled 71 = .ok (.putfield 22, 3) := by decide +kernel
theorem dX7_dropPulled_74 : decode cX7_dropPulled 74 = .ok (.return_, 1) := by decide +kernel
theorem dJ9_floorMod_7cf53_0 : decode cJ9_floorMod_7cf53 0 = .ok (.iload_n 0, 1) := by decide +kernel
theorem dJ9_floorMod_7cf53_1 : decode cJ9_floorMod_7cf53 1 = .ok (.iload_n 1, 1) := by decide +kernel
theorem dJ9_floorMod_7cf53_2 : decode cJ9_floorMod_7cf53 2 = .ok (.irem, 1) := by decide +kernel
theorem dJ9_floorMod_7cf53_3 : decode cJ9_floorMod_7cf53 3 = .ok (.istore_n 2, 1) := by decide +kernel
theorem dJ9_floorMod_7cf53_4 : decode cJ9_floorMod_7cf53 4 = .ok (.iload_n 0, 1) := by decide +kernel
theorem dJ9_floorMod_7cf53_5 : decode cJ9_floorMod_7cf53 5 = .ok (.iload_n 1, 1) := by decide +kernel
theorem dJ9_floorMod_7cf53_6 : decode cJ9_floorMod_7cf53 6 = .ok (.ixor, 1) := by decide +kernel
theorem dJ9_floorMod_7cf53_7 : decode cJ9_floorMod_7cf53 7 = .ok (.ifCond .ge 11, 3) := by decide +kernel
theorem dJ9_floorMod_7cf53_10 : decode cJ9_floorMod_7cf53 10 = .ok (.iload_n 2, 1) := by decide +kernel
theorem dJ9_floorMod_7cf53_11 : decode cJ9_floorMod_7cf53 11 = .ok (.ifCond .eq 7, 3) := by decide +kernel
theorem dJ9_floorMod_7cf53_14 : decode cJ9_floorMod_7cf53 14 = .ok (.iload_n 2, 1) := by decide +kernel
theorem dJ9_floorMod_7cf53_15 : decode cJ9_floorMod_7cf53 15 = .ok (.iload_n 1, 1) := by decide +kernel
theorem dJ9_floorMod_7cf53_16 : decode cJ9_floorMod_7cf53 16 = .ok (.iadd, 1) := by decide +kernel
theorem dJ9_floorMod_7cf53_17 : decode cJ9_floorMod_7cf53 17 = .ok (.ireturn, 1) := by decide +kernel
theorem dJ9_floorMod_7cf53_18 : decode cJ9_floorMod_7cf53 18 = .ok (.iload_n 2, 1) := by decide +kernel
theorem dJ9_floorMod_7cf53_19 : decode cJ9_floorMod_7cf53 19 = .ok (.ireturn, 1) := by decide +kernel
theorem dJ9_abs_0f7a4_0 : decode cJ9_abs_0f7a4 0 = .ok (.iload_n 0, 1) := by decide +kernel
theorem dJ9_abs_0f7a4_1 : decode cJ9_abs_0f7a4 1 = .ok (.ifCond .ge 8, 3) := by decide +kernel
theorem dJ9_abs_0f7a4_4 : decode cJ9_abs_0f7a4 4 = .ok (.iload_n 0, 1) := by decide +kernel
theorem dJ9_abs_0f7a4_5 : decode cJ9_abs_0f7a4 5 = .ok (.ineg, 1) := by decide +kernel
theorem dJ9_abs_0f7a4_6 : decode cJ9_abs_0f7a4 6 = .ok (.goto 4, 3) := by decide +kernel
theorem dJ9_abs_0f7a4_9 : decode cJ9_abs_0f7a4 9 = .ok (.iload_n 0, 1) := by decide +kernel
theorem dJ9_abs_0f7a4_10 : decode cJ9_abs_0f7a4 10 = .ok (.ireturn, 1) := by decide +kernel
theorem dJ9_max_7cf53_0 : decode cJ9_max_7cf53 0 = .ok (.iload_n 0, 1) := by decide +kernel
theorem dJ9_max_7cf53_1 : decode cJ9_max_7cf53 1 = .ok (.iload_n 1, 1) := by decide +kernel
theorem dJ9_max_7cf53_2 : decode cJ9_max_7cf53 2 = .ok (.if_icmp .lt 7, 3) := by decide +kernel
theorem dJ9_max_7cf53_5 : decode cJ9_max_7cf53 5 = .ok (.iload_n 0, 1) := by decide +kernel
theorem dJ9_max_7cf53_6 : decode cJ9_max_7cf53 6 = .ok (.goto 4, 3) := by decide +kernel
theorem dJ9_max_7cf53_9 : decode cJ9_max_7cf53 9 = .ok (.iload_n 1, 1) := by decide +kernel
theorem dJ9_max_7cf53_10 : decode cJ9_max_7cf53 10 = .ok (.ireturn, 1) := by decide +kernel
end
section
theorem dX5_init_0 : decode cX5_init 0 = .ok (.aload_n 0, 1) := by decide +kernel
theorem dX5_init_1 : decode cX5_init 1 = .ok (.invokespecial 3, 3) := by decide +kernel
theorem dX5_init_4 : decode cX5_init 4 = .ok (.aload_n 0, 1) := by decide +kernel
theorem dX5_init_5 : decode cX5_init 5 = .ok (.bipush 12, 2) := by decide +kernel
theorem dX5_init_7 : decode cX5_init 7 = .ok (.anewarray 9, 3) := by decide +kernel
theorem dX5_init_10 : decode cX5_init 10 = .ok (.putfield 11, 3) := by decide +kernel
theorem dX5_init_13 : decode cX5_init 13 = .ok (.aload_n 0, 1) := by decide +kernel
theorem dX5_init_14 : decode cX5_init 14 = .ok (.bipush 12, 2) := by decide +kernel
theorem dX5_init_16 : decode cX5_init 16 = .ok (.anewarray 17, 3) := by decide +kernel
theorem dX5_init_19 : decode cX5_init 19 = .ok (.putfield 19, 3) := by decide +kernel
theorem dX5_init_22 : decode cX5_init 22 = .ok (.aload_n 0, 1) := by decide +kernel
theorem dX5_init_23 : decode cX5_init 23 = .ok (.bipush 12, 2) := by decide +kernel
theorem dX5_init_25 : decode cX5_init 25 = .ok (.newarray .int, 2) := by decide +kernel
theorem dX5_init_27 : decode cX5_init 27 = .ok (.putfield 23, 3) := by decide +kernel
theorem dX5_init_30 : decode cX5_init 30 = .ok (.aload_n 0, 1) := by decide +kernel
theorem dX5_init_31 : decode cX5_init 31 = .ok (.aload_n 1, 1) := by decide +kernel
theorem dX5_init_32 : decode cX5_init 32 = .ok (.putfield 27, 3) := by decide +kernel
theorem dX5_init_35 : decode cX5_init 35 = .ok (.iconst 0, 1) := by decide +kernel
theorem dX5_init_36 : decode cX5_init 36 = .ok (.istore_n 2, 1) := by decide +kernel
theorem dX5_init_37 : decode cX5_init 37 = .ok (.iload_n 2, 1) := by decide +kernel
theorem dX5_init_38 : decode cX5_init 38 = .ok (.bipush 12, 2) := by decide +kernel
theorem dX5_init_40 : decode cX5_init 40 = .ok (.if_icmp .ge 22, 3) := by decide +kernel
theorem dX5_init_43 : decode cX5_init 43 = .ok (.aload_n 0, 1) := by decide +kernel
theorem dX5_init_44 : decode cX5_init 44 = .ok (.getfield 11, 3) := by decide +kernel
theorem dX5_init_47 : decode cX5_init 47 = .ok (.iload_n 2, 1) := by decide +kernel
theorem dX5_init_48 : decode cX5_init 48 = .ok (.new 9, 3) := by decide +kernel
theorem dX5_init_51 : decode cX5_init 51 = .ok (.dup, 1) := by decide +kernel
theorem dX5_init_52 : decode cX5_init 52 = .ok (.invokespecial 31, 3) := by decide +kernel
theorem dX5_init_55 : decode cX5_init 55 = .ok (.aastore, 1) := by decide +kernel
theorem dX5_init_56 : decode cX5_init 56 = .ok (.iinc 2 1, 3) := by decide +kernel
theorem dX5_init_59 : decode cX5_init 59 = .ok (.goto (-22), 3) := by decide +kernel
theorem dX5_init_62 : decode cX5_init 62 = .ok (.iconst 0, 1) := by decide +kernel
theorem dX5_init_63 : decode cX5_init 63 = .ok (.istore_n 2, 1) := by decide +kernel
theorem dX5_init_64 : decode cX5_init 64 = .ok (.iload_n 2, 1) := by decide +kernel
theorem dX5_init_65 : decode cX5_init 65 = .ok (.bipush 12, 2) := by decide +kernel
theorem dX5_init_67 : decode cX5_init 67 = .ok (.if_icmp .ge 22, 3) := by decide +kernel
theorem dX5_init_70 : decode cX5_init 70 = .ok (.aload_n 0, 1) := by decide +kernel
theorem dX5_init_71 : decode cX5_init 71 = .ok (.getfield 19, 3) := by decide +kernel
theorem dX5_init_74 : decode cX5_init 74 = .ok (.iload_n 2, 1) := by decide +kernel
theorem dX5_init_75 : decode cX5_init 75 = .ok (.new 17, 3) := by decide +kernel
theorem dX5_init_78 : decode cX5_init 78 = .ok (.dup, 1) := by decide +kernel
theorem dX5_init_79 : decode cX5_init 79 = .ok (.invokespecial 32, 3) := by decide +kernel
theorem dX5_init_82 : decode cX5_init 82 = .ok (.aastore, 1) := by decide +kernel
theorem dX5_init_83 : decode cX5_init 83 = .ok (.iinc 2 1, 3) := by decide +kernel
theorem dX5_init_86 : decode cX5_init 86 = .ok (.goto (-22), 3) := by decide +kernel
theorem dX5_init_89 : decode cX5_init 89 = .ok (.return_, 1) := by decide +kernel
theorem dX5_copyFrom_0 : decode cX5_copyFrom 0 = .ok (.iconst 0, 1) := by decide +kernel
theorem dX5_copyFrom_1 : decode cX5_copyFrom 1 = .ok (.istore_n 2, 1) := by decide +kernel
theorem dX5_copyFrom_2 : decode cX5_copyFrom 2 = .ok (.iload_n 2, 1) := by decide +kernel
theorem dX5_copyFrom_3 : decode cX5_copyFrom 3 = .ok (.aload_n 0, 1) := by decide +kernel
theorem dX5_copyFrom_4 : decode cX5_copyFrom 4 = .ok (.getfield 27, 3) := by decide +kernel
theorem dX5_copyFrom_7 : decode cX5_copyFrom 7 = .ok (.getfield 33, 3) := by decide +kernel
theorem dX5_copyFrom_10 : decode cX5_copyFrom 10 = .ok (.if_icmp .ge 24, 3) := by decide +kernel
theorem dX5_copyFrom_13 : decode cX5_copyFrom 13 = .ok (.aload_n 0, 1) := by decide +kernel
theorem dX5_copyFrom_14 : decode cX5_copyFrom 14 = .ok (.getfield 11, 3) := by decide +kernel
theorem dX5_copyFrom_17 : decode cX5_copyFrom 17 = .ok (.iload_n 2, 1) := by decide +kernel
theorem dX5_copyFrom_18 : decode cX5_copyFrom 18 = .ok (.aaload, 1) := by decide +kernel
theorem dX5_copyFrom_19 : decode cX5_copyFrom 19 = .ok (.aload_n 1, 1) := by decide +kernel
theorem dX5_copyFrom_20 : decode cX5_copyFrom 20 = .ok (.getfield 11, 3) := by decide +kernel
theorem dX5_copyFrom_23 : decode cX5_copyFrom 23 = .ok (.iload_n 2, 1) := by decide +kernel
theorem dX5_copyFrom_24 : decode cX5_copyFrom 24 = .ok (.aaload, 1) := by decide +kernel
theorem dX5_copyFrom_25 : decode cX5_copyFrom 25 = .ok (.invokevirtual 39, 3) := by decide +kernel
theorem dX5_copyFrom_28 : decode cX5_copyFrom 28 = .ok (.iinc 2 1, 3) := by decide +kernel
theorem dX5_copyFrom_31 : decode cX5_copyFrom 31 = .ok (.goto (-29), 3) := by decide +kernel
theorem dX5_copyFrom_34 : decode cX5_copyFrom 34 = .ok (.iconst 0, 1) := by decide +kernel
theorem dX5_copyFrom_35 : decode cX5_copyFrom 35 = .ok (.istore_n 2, 1) := by decide +kernel
theorem dX5_copyFrom_36 : decode cX5_copyFrom 36 = .ok (.iload_n 2, 1) := by decide +kernel
theorem dX5_copyFrom_37 : decode cX5_copyFrom 37 = .ok (.aload_n 0, 1) := by decide +kernel
theorem dX5_copyFrom_38 : decode cX5_copyFrom 38 = .ok (.getfield 27, 3) := by decide +kernel
theorem dX5_copyFrom_41 : decode cX5_copyFrom 41 = .ok (.getfield 43, 3) := by decide +kernel
theorem dX5_copyFrom_44 : decode cX5_copyFrom 44 = .ok (.if_icmp .ge 24, 3) := by decide +kernel
theorem dX5_copyFrom_47 : decode cX5_copyFrom 47 = .ok (.aload_n 0, 1) := by decide +kernel
theorem dX5_copyFrom_48 : decode cX5_copyFrom 48 = .ok (.getfield 19, 3) := by decide +kernel
theorem dX5_copyFrom_51 : decode cX5_copyFrom 51 = .ok (.iload_n 2, 1) := by decide +kernel
theorem dX5_copyFrom_52 : decode cX5_copyFrom 52 = .ok (.aaload, 1) := by decide +kernel
theorem dX5_copyFrom_53 : decode cX5_copyFrom 53 = .ok (.aload_n 1, 1) := by decide +kernel
theorem dX5_copyFrom_54 : decode cX5_copyFrom 54 = .ok (.getfield 19, 3) := by decide +kernel
theorem dX5_copyFrom_57 : decode cX5_copyFrom 57 = .ok (.iload_n 2, 1) := by decide +kernel
theorem dX5_copyFrom_58 : decode cX5_copyFrom 58 = .ok (.aaload, 1) := by decide +kernel
theorem dX5_copyFrom_59 : decode cX5_copyFrom 59 = .ok (.invokevirtual 46, 3) := by decide +kernel
theorem dX5_copyFrom_62 : decode cX5_copyFrom 62 = .ok (.iinc 2 1, 3) := by decide +kernel
theorem dX5_copyFrom_65 : decode cX5_copyFrom 65 = .ok (.goto (-29), 3) := by decide +kernel
theorem dX5_copyFrom_68 : decode cX5_copyFrom 68 = .ok (.aload_n 0, 1) := by decide +kernel
theorem dX5_copyFrom_69 : decode cX5_copyFrom 69 = .ok (.aload_n 1, 1) := by decide +kernel
theorem dX5_copyFrom_70 : decode cX5_copyFrom 70 = .ok (.getfield 49, 3) := by decide +kernel
theorem dX5_copyFrom_73 : decode cX5_copyFrom 73 = .ok (.putfield 49, 3) := by decide +kernel
theorem dX5_copyFrom_76 : decode cX5_copyFrom 76 = .ok (.iconst 0, 1) := by decide +kernel
theorem dX5_copyFrom_77 : decode cX5_copyFrom 77 = .ok (.istore_n 2, 1) := by decide +kernel
theorem dX5_copyFrom_78 : decode cX5_copyFrom 78 = .ok (.iload_n 2, 1) := by decide +kernel
theorem dX5_copyFrom_79 : decode cX5_copyFrom 79 = .ok (.aload_n 0, 1) := by decide +kernel
theorem dX5_copyFrom_80 : decode cX5_copyFrom 80 = .ok (.getfield 49, 3) := by decide +kernel
theorem dX5_copyFrom_83 : decode cX5_copyFrom 83 = .ok (.if_icmp .ge 21, 3) := by decide +kernel
theorem dX5_copyFrom_86 : decode cX5_copyFrom 86 = .ok (.aload_n 0, 1) := by decide +kernel
theorem dX5_copyFrom_87 : decode cX5_copyFrom 87 = .ok (.getfield 23, 3) := by decide +kernel
theorem dX5_copyFrom_90 : decode cX5_copyFrom 90 = .ok (.iload_n 2, 1) := by decide +kernel
theorem dX5_copyFrom_91 : decode cX5_copyFrom 91 = .ok (.aload_n 1, 1) := by decide +kernel
theorem dX5_copyFrom_92 : decode cX5_copyFrom 92 = .ok (.getfield 23, 3) := by decide +kernel
theorem dX5_copyFrom_95 : decode cX5_copyFrom 95 = .ok (.iload_n 2, 1) := by decide +kernel
theorem dX5_copyFrom_96 : decode cX5_copyFrom 96 = .ok (.iaload, 1) := by decide +kernel
theorem dX5_copyFrom_97 : decode cX5_copyFrom 97 = .ok (.iastore, 1) := by decide +kernel
theorem dX5_copyFrom_98 : decode cX5_copyFrom 98 = .ok (.iinc 2 1, 3) := by decide +kernel
theorem dX5_copyFrom_101 : decode cX5_copyFrom 101 = .ok (.goto (-23), 3) := by decide +kernel
theorem dX5_copyFrom_104 : decode cX5_copyFrom 104 = .ok (.aload_n 0, 1) := by decide +kernel
theorem dX5_copyFrom_105 : decode cX5_copyFrom 105 = .ok (.aload_n 1, 1) := by decide +kernel
theorem dX5_copyFrom_106 : decode cX5_copyFrom 106 = .ok (.getfield 52, 3) := by decide +kernel
theorem dX5_copyFrom_109 : decode cX5_copyFrom 109 = .ok (.putfield 52, 3) := by decide +kernel
theorem dX5_copyFrom_112 : decode cX5_copyFrom 112 = .ok (.return_, 1) := by decide +kernel
theorem dX5_addTrolleys_0 : decode cX5_addTrolleys 0 = .ok (.aload_n 0, 1) := by decide +kernel
theorem dX5_addTrolleys_1 : decode cX5_addTrolleys 1 = .ok (.getfield 19, 3) := by decide +kernel
theorem dX5_addTrolleys_4 : decode cX5_addTrolleys 4 = .ok (.iload_n 1, 1) := by decide +kernel
theorem dX5_addTrolleys_5 : decode cX5_addTrolleys 5 = .ok (.aaload, 1) := by decide +kernel
theorem dX5_addTrolleys_6 : decode cX5_addTrolleys 6 = .ok (.dup, 1) := by decide +kernel
theorem dX5_addTrolleys_7 : decode cX5_addTrolleys 7 = .ok (.getfield 55, 3) := by decide +kernel
theorem dX5_addTrolleys_10 : decode cX5_addTrolleys 10 = .ok (.iload_n 2, 1) := by decide +kernel
theorem dX5_addTrolleys_11 : decode cX5_addTrolleys 11 = .ok (.iadd, 1) := by decide +kernel
theorem dX5_addTrolleys_12 : decode cX5_addTrolleys 12 = .ok (.putfield 55, 3) := by decide +kernel
theorem dX5_addTrolleys_15 : decode cX5_addTrolleys 15 = .ok (.return_, 1) := by decide +kernel
theorem dX5_reach_0 : decode cX5_reach 0 = .ok (.iload_n 2, 1) := by decide +kernel
theorem dX5_reach_1 : decode cX5_reach 1 = .ok (.aload_n 0, 1) := by decide +kernel
theorem dX5_reach_2 : decode cX5_reach 2 = .ok (.getfield 27, 3) := by decide +kernel
theorem dX5_reach_5 : decode cX5_reach 5 = .ok (.getfield 58, 3) := by decide +kernel
theorem dX5_reach_8 : decode cX5_reach 8 = .ok (.iload_n 1, 1) := by decide +kernel
theorem dX5_reach_9 : decode cX5_reach 9 = .ok (.aaload, 1) := by decide +kernel
theorem dX5_reach_10 : decode cX5_reach 10 = .ok (.getfield 62, 3) := by decide +kernel
theorem dX5_reach_13 : decode cX5_reach 13 = .ok (.if_icmp .ne 20, 3) := by decide +kernel
theorem dX5_reach_16 : decode cX5_reach 16 = .ok (.aload_n 0, 1) := by decide +kernel
theorem dX5_reach_17 : decode cX5_reach 17 = .ok (.getfield 11, 3) := by decide +kernel
theorem dX5_reach_20 : decode cX5_reach 20 = .ok (.iload_n 1, 1) := by decide +kernel
theorem dX5_reach_21 : decode cX5_reach 21 = .ok (.aaload, 1) := by decide +kernel
theorem dX5_reach_22 : decode cX5_reach 22 = .ok (.iload_n 2, 1) := by decide +kernel
theorem dX5_reach_23 : decode cX5_reach 23 = .ok (.aload_n 0, 1) := by decide +kernel
theorem dX5_reach_24 : decode cX5_reach 24 = .ok (.getfield 52, 3) := by decide +kernel
theorem dX5_reach_27 : decode cX5_reach 27 = .ok (.invokevirtual 67, 3) := by decide +kernel
theorem dX5_reach_30 : decode cX5_reach 30 = .ok (.goto 42, 3) := by decide +kernel
theorem dX5_reach_33 : decode cX5_reach 33 = .ok (.aload_n 0, 1) := by decide +kernel
theorem dX5_reach_34 : decode cX5_reach 34 = .ok (.getfield 49, 3) := by decide +kernel
theorem dX5_reach_37 : decode cX5_reach 37 = .ok (.bipush 12, 2) := by decide +kernel
theorem dX5_reach_39 : decode cX5_reach 39 = .ok (.if_icmp .ge 33, 3) := by decide +kernel
theorem dX5_reach_42 : decode cX5_reach 42 = .ok (.aload_n 0, 1) := by decide +kernel
theorem dX5_reach_43 : decode cX5_reach 43 = .ok (.getfield 11, 3) := by decide +kernel
theorem dX5_reach_46 : decode cX5_reach 46 = .ok (.iload_n 1, 1) := by decide +kernel
theorem dX5_reach_47 : decode cX5_reach 47 = .ok (.aaload, 1) := by decide +kernel
theorem dX5_reach_48 : decode cX5_reach 48 = .ok (.iload_n 2, 1) := by decide +kernel
theorem dX5_reach_49 : decode cX5_reach 49 = .ok (.invokevirtual 71, 3) := by decide +kernel
theorem dX5_reach_52 : decode cX5_reach 52 = .ok (.aload_n 0, 1) := by decide +kernel
theorem dX5_reach_53 : decode cX5_reach 53 = .ok (.getfield 23, 3) := by decide +kernel
theorem dX5_reach_56 : decode cX5_reach 56 = .ok (.aload_n 0, 1) := by decide +kernel
theorem dX5_reach_57 : decode cX5_reach 57 = .ok (.getfield 49, 3) := by decide +kernel
theorem dX5_reach_60 : decode cX5_reach 60 = .ok (.iload_n 1, 1) := by decide +kernel
theorem dX5_reach_61 : decode cX5_reach 61 = .ok (.iastore, 1) := by decide +kernel
theorem dX5_reach_62 : decode cX5_reach 62 = .ok (.aload_n 0, 1) := by decide +kernel
theorem dX5_reach_63 : decode cX5_reach 63 = .ok (.dup, 1) := by decide +kernel
theorem dX5_reach_64 : decode cX5_reach 64 = .ok (.getfield 49, 3) := by decide +kernel
theorem dX5_reach_67 : decode cX5_reach 67 = .ok (.iconst 1, 1) := by decide +kernel
theorem dX5_reach_68 : decode cX5_reach 68 = .ok (.iadd, 1) := by decide +kernel
theorem dX5_reach_69 : decode cX5_reach 69 = .ok (.putfield 49, 3) := by decide +kernel
theorem dX5_reach_72 : decode cX5_reach 72 = .ok (.return_, 1) := by decide +kernel
theorem dX5_goOn_0 : decode cX5_goOn 0 = .ok (.aload_n 0, 1) := by decide +kernel
theorem dX5_goOn_1 : decode cX5_goOn 1 = .ok (.iconst 2, 1) := by decide +kernel
theorem dX5_goOn_2 : decode cX5_goOn 2 = .ok (.invokevirtual 75, 3) := by decide +kernel
theorem dX5_goOn_5 : decode cX5_goOn 5 = .ok (.istore_n 2, 1) := by decide +kernel
theorem dX5_goOn_6 : decode cX5_goOn 6 = .ok (.iconst 0, 1) := by decide +kernel
theorem dX5_goOn_7 : decode cX5_goOn 7 = .ok (.istore_n 3, 1) := by decide +kernel
theorem dX5_goOn_8 : decode cX5_goOn 8 = .ok (.iload_n 3, 1) := by decide +kernel
theorem dX5_goOn_9 : decode cX5_goOn 9 = .ok (.iload_n 1, 1) := by decide +kernel
theorem dX5_goOn_10 : decode cX5_goOn 10 = .ok (.if_icmp .ge 13, 3) := by decide +kernel
theorem dX5_goOn_13 : decode cX5_goOn 13 = .ok (.aload_n 0, 1) := by decide +kernel
theorem dX5_goOn_14 : decode cX5_goOn 14 = .ok (.invokevirtual 79, 3) := by decide +kernel
theorem dX5_goOn_17 : decode cX5_goOn 17 = .ok (.iinc 3 1, 3) := by decide +kernel
theorem dX5_goOn_20 : decode cX5_goOn 20 = .ok (.goto (-12), 3) := by decide +kernel
theorem dX5_goOn_23 : decode cX5_goOn 23 = .ok (.aload_n 0, 1) := by decide +kernel
theorem dX5_goOn_24 : decode cX5_goOn 24 = .ok (.iconst 2, 1) := by decide +kernel
theorem dX5_goOn_25 : decode cX5_goOn 25 = .ok (.invokevirtual 75, 3) := by decide +kernel
theorem dX5_goOn_28 : decode cX5_goOn 28 = .ok (.iload_n 2, 1) := by decide +kernel
theorem dX5_goOn_29 : decode cX5_goOn 29 = .ok (.isub, 1) := by decide +kernel
theorem dX5_goOn_30 : decode cX5_goOn 30 = .ok (.ireturn, 1) := by decide +kernel
theorem dX5_passMinute_0 : decode cX5_passMinute 0 = .ok (.iconst 0, 1) := by decide +kernel
theorem dX5_passMinute_1 : decode cX5_passMinute 1 = .ok (.istore_n 1, 1) := by decide +kernel
theorem dX5_passMinute_2 : decode cX5_passMinute 2 = .ok (.iload_n 1, 1) := by decide +kernel
theorem dX5_passMinute_3 : decode cX5_passMinute 3 = .ok (.aload_n 0, 1) := by decide +kernel
theorem dX5_passMinute_4 : decode cX5_passMinute 4 = .ok (.getfield 27, 3) := by decide +kernel
theorem dX5_passMinute_7 : decode cX5_passMinute 7 = .ok (.getfield 43, 3) := by decide +kernel
theorem dX5_passMinute_10 : decode cX5_passMinute 10 = .ok (.if_icmp .ge 28, 3) := by decide +kernel
theorem dX5_passMinute_13 : decode cX5_passMinute 13 = .ok (.aload_n 0, 1) := by decide +kernel
theorem dX5_passMinute_14 : decode cX5_passMinute 14 = .ok (.aload_n 0, 1) := by decide +kernel
theorem dX5_passMinute_15 : decode cX5_passMinute 15 = .ok (.getfield 27, 3) := by decide +kernel
theorem dX5_passMinute_18 : decode cX5_passMinute 18 = .ok (.getfield 82, 3) := by decide +kernel
theorem dX5_passMinute_21 : decode cX5_passMinute 21 = .ok (.iload_n 1, 1) := by decide +kernel
theorem dX5_passMinute_22 : decode cX5_passMinute 22 = .ok (.aaload, 1) := by decide +kernel
theorem dX5_passMinute_23 : decode cX5_passMinute 23 = .ok (.aload_n 0, 1) := by decide +kernel
theorem dX5_passMinute_24 : decode cX5_passMinute 24 = .ok (.getfield 19, 3) := by decide +kernel
theorem dX5_passMinute_27 : decode cX5_passMinute 27 = .ok (.iload_n 1, 1) := by decide +kernel
theorem dX5_passMinute_28 : decode cX5_passMinute 28 = .ok (.aaload, 1) := by decide +kernel
theorem dX5_passMinute_29 : decode cX5_passMinute 29 = .ok (.invokevirtual 86, 3) := by decide +kernel
theorem dX5_passMinute_32 : decode cX5_passMinute 32 = .ok (.iinc 1 1, 3) := by decide +kernel
theorem dX5_passMinute_35 : decode cX5_passMinute 35 = .ok (.goto (-33), 3) := by decide +kernel
theorem dX5_passMinute_38 : decode cX5_passMinute 38 = .ok (.iconst 0, 1) := by decide +kernel
theorem dX5_passMinute_39 : decode cX5_passMinute 39 = .ok (.istore_n 1, 1) := by decide +kernel
theorem dX5_passMinute_40 : decode cX5_passMinute 40 = .ok (.iload_n 1, 1) := by decide +kernel
theorem dX5_passMinute_41 : decode cX5_passMinute 41 = .ok (.aload_n 0, 1) := by decide +kernel
theorem dX5_passMinute_42 : decode cX5_passMinute 42 = .ok (.getfield 27, 3) := by decide +kernel
theorem dX5_passMinute_45 : decode cX5_passMinute 45 = .ok (.getfield 43, 3) := by decide +kernel
theorem dX5_passMinute_48 : decode cX5_passMinute 48 = .ok (.if_icmp .ge 46, 3) := by decide +kernel
theorem dX5_passMinute_51 : decode cX5_passMinute 51 = .ok (.aload_n 0, 1) := by decide +kernel
theorem dX5_passMinute_52 : decode cX5_passMinute 52 = .ok (.getfield 27, 3) := by decide +kernel
theorem dX5_passMinute_55 : decode cX5_passMinute 55 = .ok (.aload_n 0, 1) := by decide +kernel
theorem dX5_passMinute_56 : decode cX5_passMinute 56 = .ok (.getfield 27, 3) := by decide +kernel
theorem dX5_passMinute_59 : decode cX5_passMinute 59 = .ok (.getfield 82, 3) := by decide +kernel
theorem dX5_passMinute_62 : decode cX5_passMinute 62 = .ok (.iload_n 1, 1) := by decide +kernel
theorem dX5_passMinute_63 : decode cX5_passMinute 63 = .ok (.aaload, 1) := by decide +kernel
theorem dX5_passMinute_64 : decode cX5_passMinute 64 = .ok (.aload_n 0, 1) := by decide +kernel
theorem dX5_passMinute_65 : decode cX5_passMinute 65 = .ok (.getfield 52, 3) := by decide +kernel
theorem dX5_passMinute_68 : decode cX5_passMinute 68 = .ok (.invokevirtual 90, 3) := by decide +kernel
theorem dX5_passMinute_71 : decode cX5_passMinute 71 = .ok (.ifCond .ne 17, 3) := by decide +kernel
theorem dX5_passMinute_74 : decode cX5_passMinute 74 = .ok (.aload_n 0, 1) := by decide +kernel
theorem dX5_passMinute_75 : decode cX5_passMinute 75 = .ok (.aload_n 0, 1) := by decide +kernel
theorem dX5_passMinute_76 : decode cX5_passMinute 76 = .ok (.getfield 27, 3) := by decide +kernel
theorem dX5_passMinute_79 : decode cX5_passMinute 79 = .ok (.getfield 82, 3) := by decide +kernel
theorem dX5_passMinute_82 : decode cX5_passMinute 82 = .ok (.iload_n 1, 1) := by decide +kernel
theorem dX5_passMinute_83 : decode cX5_passMinute 83 = .ok (.aaload, 1) := by decide +kernel
theorem dX5_passMinute_84 : decode cX5_passMinute 84 = .ok (.iload_n 1, 1) := by decide +kernel
theorem dX5_passMinute_85 : decode cX5_passMinute 85 = .ok (.invokevirtual 94, 3) := by decide +kernel
theorem dX5_passMinute_88 : decode cX5_passMinute 88 = .ok (.iinc 1 1, 3) := by decide +kernel
theorem dX5_passMinute_91 : decode cX5_passMinute 91 = .ok (.goto (-51), 3) := by decide +kernel
theorem dX5_passMinute_94 : decode cX5_passMinute 94 = .ok (.aload_n 0, 1) := by decide +kernel
theorem dX5_passMinute_95 : decode cX5_passMinute 95 = .ok (.invokevirtual 98, 3) := by decide +kernel
theorem dX5_passMinute_98 : decode cX5_passMinute 98 = .ok (.aload_n 0, 1) := by decide +kernel
theorem dX5_passMinute_99 : decode cX5_passMinute 99 = .ok (.dup, 1) := by decide +kernel
theorem dX5_passMinute_100 : decode cX5_passMinute 100 = .ok (.getfield 52, 3) := by decide +kernel
theorem dX5_passMinute_103 : decode cX5_passMinute 103 = .ok (.iconst 1, 1) := by decide +kernel
theorem dX5_passMinute_104 : decode cX5_passMinute 104 = .ok (.iadd, 1) := by decide +kernel
theorem dX5_passMinute_105 : decode cX5_passMinute 105 = .ok (.putfield 52, 3) := by decide +kernel
theorem dX5_passMinute_108 : decode cX5_passMinute 108 = .ok (.return_, 1) := by decide +kernel
theorem dX5_moveTrolleys_0 : decode cX5_moveTrolleys 0 = .ok (.iconst 0, 1) := by decide +kernel
theorem dX5_moveTrolleys_1 : decode cX5_moveTrolleys 1 = .ok (.istore_n 3, 1) := by decide +kernel
theorem dX5_moveTrolleys_2 : decode cX5_moveTrolleys 2 = .ok (.iload_n 3, 1) := by decide +kernel
theorem dX5_moveTrolleys_3 : decode cX5_moveTrolleys 3 = .ok (.aload_n 2, 1) := by decide +kernel
theorem dX5_moveTrolleys_4 : decode cX5_moveTrolleys 4 = .ok (.getfield 101, 3) := by decide +kernel
theorem dX5_moveTrolleys_7 : decode cX5_moveTrolleys 7 = .ok (.if_icmp .ge 77, 3) := by decide +kernel
theorem dX5_moveTrolleys_10 : decode cX5_moveTrolleys 10 = .ok (.aload_n 2, 1) := by decide +kernel
theorem dX5_moveTrolleys_11 : decode cX5_moveTrolleys 11 = .ok (.getfield 104, 3) := by decide +kernel
theorem dX5_moveTrolleys_14 : decode cX5_moveTrolleys 14 = .ok (.iload_n 3, 1) := by decide +kernel
theorem dX5_moveTrolleys_15 : decode cX5_moveTrolleys 15 = .ok (.dup2, 1) := by decide +kernel
theorem dX5_moveTrolleys_16 : decode cX5_moveTrolleys 16 = .ok (.iaload, 1) := by decide +kernel
theorem dX5_moveTrolleys_17 : decode cX5_moveTrolleys 17 = .ok (.iconst 1, 1) := by decide +kernel
theorem dX5_moveTrolleys_18 : decode cX5_moveTrolleys 18 = .ok (.isub, 1) := by decide +kernel
theorem dX5_moveTrolleys_19 : decode cX5_moveTrolleys 19 = .ok (.iastore, 1) := by decide +kernel
theorem dX5_moveTrolleys_20 : decode cX5_moveTrolleys 20 = .ok (.aload_n 2, 1) := by decide +kernel
theorem dX5_moveTrolleys_21 : decode cX5_moveTrolleys 21 = .ok (.getfield 107, 3) := by decide +kernel
theorem dX5_moveTrolleys_24 : decode cX5_moveTrolleys 24 = .ok (.iload_n 3, 1) := by decide +kernel
theorem dX5_moveTrolleys_25 : decode cX5_moveTrolleys 25 = .ok (.iaload, 1) := by decide +kernel
theorem dX5_moveTrolleys_26 : decode cX5_moveTrolleys 26 = .ok (.istore 4, 2) := by decide +kernel
theorem dX5_moveTrolleys_28 : decode cX5_moveTrolleys 28 = .ok (.iload 4, 2) := by decide +kernel
theorem dX5_moveTrolleys_30 : decode cX5_moveTrolleys 30 = .ok (.iconst (-1), 1) := by decide +kernel
theorem dX5_moveTrolleys_31 : decode cX5_moveTrolleys 31 = .ok (.if_icmp .eq 47, 3) := by decide +kernel
theorem dX5_moveTrolleys_34 : decode cX5_moveTrolleys 34 = .ok (.aload_n 0, 1) := by decide +kernel
theorem dX5_moveTrolleys_35 : decode cX5_moveTrolleys 35 = .ok (.getfield 11, 3) := by decide +kernel
theorem dX5_moveTrolleys_38 : decode cX5_moveTrolleys 38 = .ok (.iload 4, 2) := by decide +kernel
theorem dX5_moveTrolleys_40 : decode cX5_moveTrolleys 40 = .ok (.aaload, 1) := by decide +kernel
theorem dX5_moveTrolleys_41 : decode cX5_moveTrolleys 41 = .ok (.aload_n 2, 1) := by decide +kernel
theorem dX5_moveTrolleys_42 : decode cX5_moveTrolleys 42 = .ok (.getfield 104, 3) := by decide +kernel
theorem dX5_moveTrolleys_45 : decode cX5_moveTrolleys 45 = .ok (.iload_n 3, 1) := by decide +kernel
theorem dX5_moveTrolleys_46 : decode cX5_moveTrolleys 46 = .ok (.iaload, 1) := by decide +kernel
theorem dX5_moveTrolleys_47 : decode cX5_moveTrolleys 47 = .ok (.putfield 109, 3) := by decide +kernel
theorem dX5_moveTrolleys_50 : decode cX5_moveTrolleys 50 = .ok (.aload_n 2, 1) := by decide +kernel
theorem dX5_moveTrolleys_51 : decode cX5_moveTrolleys 51 = .ok (.getfield 104, 3) := by decide +kernel
theorem dX5_moveTrolleys_54 : decode cX5_moveTrolleys 54 = .ok (.iload_n 3, 1) := by decide +kernel
theorem dX5_moveTrolleys_55 : decode cX5_moveTrolleys 55 = .ok (.iaload, 1) := by decide +kernel
theorem dX5_moveTrolleys_56 : decode cX5_moveTrolleys 56 = .ok (.ifCond .gt 22, 3) := by decide +kernel
theorem dX5_moveTrolleys_59 : decode cX5_moveTrolleys 59 = .ok (.aload_n 2, 1) := by decide +kernel
theorem dX5_moveTrolleys_60 : decode cX5_moveTrolleys 60 = .ok (.iload_n 3, 1) := by decide +kernel
theorem dX5_moveTrolleys_61 : decode cX5_moveTrolleys 61 = .ok (.aload_n 1, 1) := by decide +kernel
theorem dX5_moveTrolleys_62 : decode cX5_moveTrolleys 62 = .ok (.invokevirtual 112, 3) := by decide +kernel
theorem dX5_moveTrolleys_65 : decode cX5_moveTrolleys 65 = .ok (.invokevirtual 118, 3) := by decide +kernel
theorem dX5_moveTrolleys_68 : decode cX5_moveTrolleys 68 = .ok (.aload_n 0, 1) := by decide +kernel
theorem dX5_moveTrolleys_69 : decode cX5_moveTrolleys 69 = .ok (.iload 4, 2) := by decide +kernel
theorem dX5_moveTrolleys_71 : decode cX5_moveTrolleys 71 = .ok (.aload_n 1, 1) := by decide +kernel
theorem dX5_moveTrolleys_72 : decode cX5_moveTrolleys 72 = .ok (.getfield 121, 3) := by decide +kernel
theorem dX5_moveTrolleys_75 : decode cX5_moveTrolleys 75 = .ok (.invokevirtual 124, 3) := by decide +kernel
theorem dX5_moveTrolleys_78 : decode cX5_moveTrolleys 78 = .ok (.iinc 3 1, 3) := by decide +kernel
theorem dX5_moveTrolleys_81 : decode cX5_moveTrolleys 81 = .ok (.goto (-79), 3) := by decide +kernel
theorem dX5_moveTrolleys_84 : decode cX5_moveTrolleys 84 = .ok (.aload_n 2, 1) := by decide +kernel
theorem dX5_moveTrolleys_85 : decode cX5_moveTrolleys 85 = .ok (.invokevirtual 127, 3) := by decide +kernel
theorem dX5_moveTrolleys_88 : decode cX5_moveTrolleys 88 = .ok (.return_, 1) := by decide +kernel
theorem dX5_beginRide_0 : decode cX5_beginRide 0 = .ok (.aload_n 0, 1) := by decide +kernel
theorem dX5_beginRide_1 : decode cX5_beginRide 1 = .ok (.iload_n 2, 1) := by decide +kernel
theorem dX5_beginRide_2 : decode cX5_beginRide 2 = .ok (.invokevirtual 130, 3) := by decide +kernel
theorem dX5_beginRide_5 : decode cX5_beginRide 5 = .ok (.istore_n 3, 1) := by decide +kernel
theorem dX5_beginRide_6 : decode cX5_beginRide 6 = .ok (.iload_n 3, 1) := by decide +kernel
theorem dX5_beginRide_7 : decode cX5_beginRide 7 = .ok (.iconst (-1), 1) := by decide +kernel
theorem dX5_beginRide_8 : decode cX5_beginRide 8 = .ok (.if_icmp .eq 15, 3) := by decide +kernel
theorem dX5_beginRide_11 : decode cX5_beginRide 11 = .ok (.aload_n 0, 1) := by decide +kernel
theorem dX5_beginRide_12 : decode cX5_beginRide 12 = .ok (.getfield 19, 3) := by decide +kernel
theorem dX5_beginRide_15 : decode cX5_beginRide 15 = .ok (.iload_n 2, 1) := by decide +kernel
theorem dX5_beginRide_16 : decode cX5_beginRide 16 = .ok (.aaload, 1) := by decide +kernel
theorem dX5_beginRide_17 : decode cX5_beginRide 17 = .ok (.invokevirtual 133, 3) := by decide +kernel
theorem dX5_beginRide_20 : decode cX5_beginRide 20 = .ok (.ifCond .ne 4, 3) := by decide +kernel
theorem dX5_beginRide_23 : decode cX5_beginRide 23 = .ok (.return_, 1) := by decide +kernel
theorem dX5_beginRide_24 : decode cX5_beginRide 24 = .ok (.aload_n 0, 1) := by decide +kernel
theorem dX5_beginRide_25 : decode cX5_beginRide 25 = .ok (.getfield 23, 3) := by decide +kernel
theorem dX5_beginRide_28 : decode cX5_beginRide 28 = .ok (.iload_n 3, 1) := by decide +kernel
theorem dX5_beginRide_29 : decode cX5_beginRide 29 = .ok (.iaload, 1) := by decide +kernel
theorem dX5_beginRide_30 : decode cX5_beginRide 30 = .ok (.istore 4, 2) := by decide +kernel
theorem dX5_beginRide_32 : decode cX5_beginRide 32 = .ok (.aload_n 0, 1) := by decide +kernel
theorem dX5_beginRide_33 : decode cX5_beginRide 33 = .ok (.getfield 27, 3) := by decide +kernel
theorem dX5_beginRide_36 : decode cX5_beginRide 36 = .ok (.getfield 58, 3) := by decide +kernel
theorem dX5_beginRide_39 : decode cX5_beginRide 39 = .ok (.iload 4, 2) := by decide +kernel
theorem dX5_beginRide_41 : decode cX5_beginRide 41 = .ok (.aaload, 1) := by decide +kernel
theorem dX5_beginRide_42 : decode cX5_beginRide 42 = .ok (.getfield 137, 3) := by decide +kernel
theorem dX5_beginRide_45 : decode cX5_beginRide 45 = .ok (.istore 5, 2) := by decide +kernel
theorem dX5_beginRide_47 : decode cX5_beginRide 47 = .ok (.aload_n 1, 1) := by decide +kernel
theorem dX5_beginRide_48 : decode cX5_beginRide 48 = .ok (.iload 5, 2) := by decide +kernel
theorem dX5_beginRide_50 : decode cX5_beginRide 50 = .ok (.invokevirtual 140, 3) := by decide +kernel
theorem dX5_beginRide_53 : decode cX5_beginRide 53 = .ok (.istore 6, 2) := by decide +kernel
theorem dX5_beginRide_55 : decode cX5_beginRide 55 = .ok (.aload_n 0, 1) := by decide +kernel
theorem dX5_beginRide_56 : decode cX5_beginRide 56 = .ok (.iload_n 3, 1) := by decide +kernel
theorem dX5_beginRide_57 : decode cX5_beginRide 57 = .ok (.invokevirtual 143, 3) := by decide +kernel
theorem dX5_beginRide_60 : decode cX5_beginRide 60 = .ok (.aload_n 0, 1) := by decide +kernel
theorem dX5_beginRide_61 : decode cX5_beginRide 61 = .ok (.getfield 11, 3) := by decide +kernel
theorem dX5_beginRide_64 : decode cX5_beginRide 64 = .ok (.iload 4, 2) := by decide +kernel
theorem dX5_beginRide_66 : decode cX5_beginRide 66 = .ok (.aaload, 1) := by decide +kernel
theorem dX5_beginRide_67 : decode cX5_beginRide 67 = .ok (.iload_n 2, 1) := by decide +kernel
theorem dX5_beginRide_68 : decode cX5_beginRide 68 = .ok (.iload 6, 2) := by decide +kernel
theorem dX5_beginRide_70 : decode cX5_beginRide 70 = .ok (.invokevirtual 146, 3) := by decide +kernel
theorem dX5_beginRide_73 : decode cX5_beginRide 73 = .ok (.aload_n 0, 1) := by decide +kernel
theorem dX5_beginRide_74 : decode cX5_beginRide 74 = .ok (.getfield 19, 3) := by decide +kernel
theorem dX5_beginRide_77 : decode cX5_beginRide 77 = .ok (.iload_n 2, 1) := by decide +kernel
theorem dX5_beginRide_78 : decode cX5_beginRide 78 = .ok (.aaload, 1) := by decide +kernel
theorem dX5_beginRide_79 : decode cX5_beginRide 79 = .ok (.iload 4, 2) := by decide +kernel
theorem dX5_beginRide_81 : decode cX5_beginRide 81 = .ok (.iload 6, 2) := by decide +kernel
theorem dX5_beginRide_83 : decode cX5_beginRide 83 = .ok (.invokevirtual 148, 3) := by decide +kernel
theorem dX5_beginRide_86 : decode cX5_beginRide 86 = .ok (.aload_n 0, 1) := by decide +kernel
theorem dX5_beginRide_87 : decode cX5_beginRide 87 = .ok (.getfield 19, 3) := by decide +kernel
theorem dX5_beginRide_90 : decode cX5_beginRide 90 = .ok (.iload_n 2, 1) := by decide +kernel
theorem dX5_beginRide_91 : decode cX5_beginRide 91 = .ok (.aaload, 1) := by decide +kernel
theorem dX5_beginRide_92 : decode cX5_beginRide 92 = .ok (.dup, 1) := by decide +kernel
theorem dX5_beginRide_93 : decode cX5_beginRide 93 = .ok (.getfield 151, 3) := by decide +kernel
theorem dX5_beginRide_96 : decode cX5_beginRide 96 = .ok (.aload_n 1, 1) := by decide +kernel
theorem dX5_beginRide_97 : decode cX5_beginRide 97 = .ok (.iload 5, 2) := by decide +kernel
theorem dX5_beginRide_99 : decode cX5_beginRide 99 = .ok (.invokevirtual 154, 3) := by decide +kernel
theorem dX5_beginRide_102 : decode cX5_beginRide 102 = .ok (.ifCond .eq 7, 3) := by decide +kernel
theorem dX5_beginRide_105 : decode cX5_beginRide 105 = .ok (.iconst 1, 1) := by decide +kernel
theorem dX5_beginRide_106 : decode cX5_beginRide 106 = .ok (.goto 4, 3) := by decide +kernel
theorem dX5_beginRide_109 : decode cX5_beginRide 109 = .ok (.iconst 0, 1) := by decide +kernel
theorem dX5_beginRide_110 : decode cX5_beginRide 110 = .ok (.iadd, 1) := by decide +kernel
theorem dX5_beginRide_111 : decode cX5_beginRide 111 = .ok (.putfield 151, 3) := by decide +kernel
theorem dX5_beginRide_114 : decode cX5_beginRide 114 = .ok (.return_, 1) := by decide +kernel
theorem dX5_firstWaitingFor_0 : decode cX5_firstWaitingFor 0 = .ok (.iconst 0, 1) := by decide +kernel
theorem dX5_firstWaitingFor_1 : decode cX5_firstWaitingFor 1 = .ok (.istore_n 2, 1) := by decide +kernel
theorem dX5_firstWaitingFor_2 : decode cX5_firstWaitingFor 2 = .ok (.iload_n 2, 1) := by decide +kernel
theorem dX5_firstWaitingFor_3 : decode cX5_firstWaitingFor 3 = .ok (.aload_n 0, 1) := by decide +kernel
theorem dX5_firstWaitingFor_4 : decode cX5_firstWaitingFor 4 = .ok (.getfield 49, 3) := by decide +kernel
theorem dX5_firstWaitingFor_7 : decode cX5_firstWaitingFor 7 = .ok (.if_icmp .ge 46, 3) := by decide +kernel
theorem dX5_firstWaitingFor_10 : decode cX5_firstWaitingFor 10 = .ok (.aload_n 0, 1) := by decide +kernel
theorem dX5_firstWaitingFor_11 : decode cX5_firstWaitingFor 11 = .ok (.getfield 23, 3) := by decide +kernel
theorem dX5_firstWaitingFor_14 : decode cX5_firstWaitingFor 14 = .ok (.iload_n 2, 1) := by decide +kernel
theorem dX5_firstWaitingFor_15 : decode cX5_firstWaitingFor 15 = .ok (.iaload, 1) := by decide +kernel
theorem dX5_firstWaitingFor_16 : decode cX5_firstWaitingFor 16 = .ok (.istore_n 3, 1) := by decide +kernel
theorem dX5_firstWaitingFor_17 : decode cX5_firstWaitingFor 17 = .ok (.aload_n 0, 1) := by decide +kernel
theorem dX5_firstWaitingFor_18 : decode cX5_firstWaitingFor 18 = .ok (.getfield 27, 3) := by decide +kernel
theorem dX5_firstWaitingFor_21 : decode cX5_firstWaitingFor 21 = .ok (.getfield 58, 3) := by decide +kernel
theorem dX5_firstWaitingFor_24 : decode cX5_firstWaitingFor 24 = .ok (.iload_n 3, 1) := by decide +kernel
theorem dX5_firstWaitingFor_25 : decode cX5_firstWaitingFor 25 = .ok (.aaload, 1) := by decide +kernel
theorem dX5_firstWaitingFor_26 : decode cX5_firstWaitingFor 26 = .ok (.getfield 158, 3) := by decide +kernel
theorem dX5_firstWaitingFor_29 : decode cX5_firstWaitingFor 29 = .ok (.aload_n 0, 1) := by decide +kernel
theorem dX5_firstWaitingFor_30 : decode cX5_firstWaitingFor 30 = .ok (.getfield 11, 3) := by decide +kernel
theorem dX5_firstWaitingFor_33 : decode cX5_firstWaitingFor 33 = .ok (.iload_n 3, 1) := by decide +kernel
theorem dX5_firstWaitingFor_34 : decode cX5_firstWaitingFor 34 = .ok (.aaload, 1) := by decide +kernel
theorem dX5_firstWaitingFor_35 : decode cX5_firstWaitingFor 35 = .ok (.getfield 162, 3) := by decide +kernel
theorem dX5_firstWaitingFor_38 : decode cX5_firstWaitingFor 38 = .ok (.invokevirtual 165, 3) := by decide +kernel
theorem dX5_firstWaitingFor_41 : decode cX5_firstWaitingFor 41 = .ok (.iload_n 1, 1) := by decide +kernel
theorem dX5_firstWaitingFor_42 : decode cX5_firstWaitingFor 42 = .ok (.if_icmp .ne 5, 3) := by decide +kernel
theorem dX5_firstWaitingFor_45 : decode cX5_firstWaitingFor 45 = .ok (.iload_n 2, 1) := by decide +kernel
theorem dX5_firstWaitingFor_46 : decode cX5_firstWaitingFor 46 = .ok (.ireturn, 1) := by decide +kernel
theorem dX5_firstWaitingFor_47 : decode cX5_firstWaitingFor 47 = .ok (.iinc 2 1, 3) := by decide +kernel
theorem dX5_firstWaitingFor_50 : decode cX5_firstWaitingFor 50 = .ok (.goto (-48), 3) := by decide +kernel
theorem dX5_firstWaitingFor_53 : decode cX5_firstWaitingFor 53 = .ok (.iconst (-1), 1) := by decide +kernel
theorem dX5_firstWaitingFor_54 : decode cX5_firstWaitingFor 54 = .ok (.ireturn, 1) := by decide +kernel
theorem dX5_leaveWaiting_0 : decode cX5_leaveWaiting 0 = .ok (.iload_n 1, 1) := by decide +kernel
theorem dX5_leaveWaiting_1 : decode cX5_leaveWaiting 1 = .ok (.istore_n 2, 1) := by decide +kernel
theorem dX5_leaveWaiting_2 : decode cX5_leaveWaiting 2 = .ok (.iload_n 2, 1) := by decide +kernel
theorem dX5_leaveWaiting_3 : decode cX5_leaveWaiting 3 = .ok (.iconst 1, 1) := by decide +kernel
theorem dX5_leaveWaiting_4 : decode cX5_leaveWaiting 4 = .ok (.iadd, 1) := by decide +kernel
theorem dX5_leaveWaiting_5 : decode cX5_leaveWaiting 5 = .ok (.aload_n 0, 1) := by decide +kernel
theorem dX5_leaveWaiting_6 : decode cX5_leaveWaiting 6 = .ok (.getfield 49, 3) := by decide +kernel
theorem dX5_leaveWaiting_9 : decode cX5_leaveWaiting 9 = .ok (.if_icmp .ge 23, 3) := by decide +kernel
theorem dX5_leaveWaiting_12 : decode cX5_leaveWaiting 12 = .ok (.aload_n 0, 1) := by decide +kernel
theorem dX5_leaveWaiting_13 : decode cX5_leaveWaiting 13 = .ok (.getfield 23, 3) := by decide +kernel
theorem dX5_leaveWaiting_16 : decode cX5_leaveWaiting 16 = .ok (.iload_n 2, 1) := by decide +kernel
theorem dX5_leaveWaiting_17 : decode cX5_leaveWaiting 17 = .ok (.aload_n 0, 1) := by decide +kernel
theorem dX5_leaveWaiting_18 : decode cX5_leaveWaiting 18 = .ok (.getfield 23, 3) := by decide +kernel
theorem dX5_leaveWaiting_21 : decode cX5_leaveWaiting 21 = .ok (.iload_n 2, 1) := by decide +kernel
theorem dX5_leaveWaiting_22 : decode cX5_leaveWaiting 22 = .ok (.iconst 1, 1) := by decide +kernel
theorem dX5_leaveWaiting_23 : decode cX5_leaveWaiting 23 = .ok (.iadd, 1) := by decide +kernel
theorem dX5_leaveWaiting_24 : decode cX5_leaveWaiting 24 = .ok (.iaload, 1) := by decide +kernel
theorem dX5_leaveWaiting_25 : decode cX5_leaveWaiting 25 = .ok (.iastore, 1) := by decide +kernel
theorem dX5_leaveWaiting_26 : decode cX5_leaveWaiting 26 = .ok (.iinc 2 1, 3) := by decide +kernel
theorem dX5_leaveWaiting_29 : decode cX5_leaveWaiting 29 = .ok (.goto (-27), 3) := by decide +kernel
theorem dX5_leaveWaiting_32 : decode cX5_leaveWaiting 32 = .ok (.aload_n 0, 1) := by decide +kernel
theorem dX5_leaveWaiting_33 : decode cX5_leaveWaiting 33 = .ok (.dup, 1) := by decide +kernel
theorem dX5_leaveWaiting_34 : decode cX5_leaveWaiting 34 = .ok (.getfield 49, 3) := by decide +kernel
theorem dX5_leaveWaiting_37 : decode cX5_leaveWaiting 37 = .ok (.iconst 1, 1) := by decide +kernel
theorem dX5_leaveWaiting_38 : decode cX5_leaveWaiting 38 = .ok (.isub, 1) := by decide +kernel
theorem dX5_leaveWaiting_39 : decode cX5_leaveWaiting 39 = .ok (.putfield 49, 3) := by decide +kernel
theorem dX5_leaveWaiting_42 : decode cX5_leaveWaiting 42 = .ok (.return_, 1) := by decide +kernel
theorem dX5_tireWaiting_0 : decode cX5_tireWaiting 0 = .ok (.iconst 0, 1) := by decide +kernel
theorem dX5_tireWaiting_1 : decode cX5_tireWaiting 1 = .ok (.istore_n 1, 1) := by decide +kernel
theorem dX5_tireWaiting_2 : decode cX5_tireWaiting 2 = .ok (.iconst 0, 1) := by decide +kernel
theorem dX5_tireWaiting_3 : decode cX5_tireWaiting 3 = .ok (.istore_n 2, 1) := by decide +kernel
theorem dX5_tireWaiting_4 : decode cX5_tireWaiting 4 = .ok (.iload_n 2, 1) := by decide +kernel
theorem dX5_tireWaiting_5 : decode cX5_tireWaiting 5 = .ok (.aload_n 0, 1) := by decide +kernel
theorem dX5_tireWaiting_6 : decode cX5_tireWaiting 6 = .ok (.getfield 49, 3) := by decide +kernel
theorem dX5_tireWaiting_9 : decode cX5_tireWaiting 9 = .ok (.if_icmp .ge 70, 3) := by decide +kernel
theorem dX5_tireWaiting_12 : decode cX5_tireWaiting 12 = .ok (.aload_n 0, 1) := by decide +kernel
theorem dX5_tireWaiting_13 : decode cX5_tireWaiting 13 = .ok (.getfield 23, 3) := by decide +kernel
theorem dX5_tireWaiting_16 : decode cX5_tireWaiting 16 = .ok (.iload_n 2, 1) := by decide +kernel
theorem dX5_tireWaiting_17 : decode cX5_tireWaiting 17 = .ok (.iaload, 1) := by decide +kernel
theorem dX5_tireWaiting_18 : decode cX5_tireWaiting 18 = .ok (.istore_n 3, 1) := by decide +kernel
theorem dX5_tireWaiting_19 : decode cX5_tireWaiting 19 = .ok (.aload_n 0, 1) := by decide +kernel
theorem dX5_tireWaiting_20 : decode cX5_tireWaiting 20 = .ok (.getfield 11, 3) := by decide +kernel
theorem dX5_tireWaiting_23 : decode cX5_tireWaiting 23 = .ok (.iload_n 3, 1) := by decide +kernel
theorem dX5_tireWaiting_24 : decode cX5_tireWaiting 24 = .ok (.aaload, 1) := by decide +kernel
theorem dX5_tireWaiting_25 : decode cX5_tireWaiting 25 = .ok (.astore 4, 2) := by decide +kernel
theorem dX5_tireWaiting_27 : decode cX5_tireWaiting 27 = .ok (.aload 4, 2) := by decide +kernel
theorem dX5_tireWaiting_29 : decode cX5_tireWaiting 29 = .ok (.dup, 1) := by decide +kernel
theorem dX5_tireWaiting_30 : decode cX5_tireWaiting 30 = .ok (.getfield 109, 3) := by decide +kernel
theorem dX5_tireWaiting_33 : decode cX5_tireWaiting 33 = .ok (.iconst 1, 1) := by decide +kernel
theorem dX5_tireWaiting_34 : decode cX5_tireWaiting 34 = .ok (.iadd, 1) := by decide +kernel
theorem dX5_tireWaiting_35 : decode cX5_tireWaiting 35 = .ok (.putfield 109, 3) := by decide +kernel
theorem dX5_tireWaiting_38 : decode cX5_tireWaiting 38 = .ok (.aload_n 0, 1) := by decide +kernel
theorem dX5_tireWaiting_39 : decode cX5_tireWaiting 39 = .ok (.getfield 27, 3) := by decide +kernel
theorem dX5_tireWaiting_42 : decode cX5_tireWaiting 42 = .ok (.getfield 58, 3) := by decide +kernel
theorem dX5_tireWaiting_45 : decode cX5_tireWaiting 45 = .ok (.iload_n 3, 1) := by decide +kernel
theorem dX5_tireWaiting_46 : decode cX5_tireWaiting 46 = .ok (.aaload, 1) := by decide +kernel
theorem dX5_tireWaiting_47 : decode cX5_tireWaiting 47 = .ok (.aload 4, 2) := by decide +kernel
theorem dX5_tireWaiting_49 : decode cX5_tireWaiting 49 = .ok (.invokestatic 170, 3) := by decide +kernel
theorem dX5_tireWaiting_52 : decode cX5_tireWaiting 52 = .ok (.ifCond .eq 11, 3) := by decide +kernel
theorem dX5_tireWaiting_55 : decode cX5_tireWaiting 55 = .ok (.aload 4, 2) := by decide +kernel
theorem dX5_tireWaiting_57 : decode cX5_tireWaiting 57 = .ok (.invokevirtual 174, 3) := by decide +kernel
theorem dX5_tireWaiting_60 : decode cX5_tireWaiting 60 = .ok (.goto 13, 3) := by decide +kernel
theorem dX5_tireWaiting_63 : decode cX5_tireWaiting 63 = .ok (.aload_n 0, 1) := by decide +kernel
theorem dX5_tireWaiting_64 : decode cX5_tireWaiting 64 = .ok (.getfield 23, 3) := by decide +kernel
theorem dX5_tireWaiting_67 : decode cX5_tireWaiting 67 = .ok (.iload_n 1, 1) := by decide +kernel
theorem dX5_tireWaiting_68 : decode cX5_tireWaiting 68 = .ok (.iload_n 3, 1) := by decide +kernel
theorem dX5_tireWaiting_69 : decode cX5_tireWaiting 69 = .ok (.iastore, 1) := by decide +kernel
theorem dX5_tireWaiting_70 : decode cX5_tireWaiting 70 = .ok (.iinc 1 1, 3) := by decide +kernel
theorem dX5_tireWaiting_73 : decode cX5_tireWaiting 73 = .ok (.iinc 2 1, 3) := by decide +kernel
theorem dX5_tireWaiting_76 : decode cX5_tireWaiting 76 = .ok (.goto (-72), 3) := by decide +kernel
theorem dX5_tireWaiting_79 : decode cX5_tireWaiting 79 = .ok (.aload_n 0, 1) := by decide +kernel
theorem dX5_tireWaiting_80 : decode cX5_tireWaiting 80 = .ok (.iload_n 1, 1) := by decide +kernel
theorem dX5_tireWaiting_81 : decode cX5_tireWaiting 81 = .ok (.putfield 49, 3) := by decide +kernel
theorem dX5_tireWaiting_84 : decode cX5_tireWaiting 84 = .ok (.return_, 1) := by decide +kernel
theorem dX5_givesUp_0 : decode cX5_givesUp 0 = .ok (.aload_n 0, 1) := by decide +kernel
theorem dX5_givesUp_1 : decode cX5_givesUp 1 = .ok (.getfield 158, 3) := by decide +kernel
theorem dX5_givesUp_4 : decode cX5_givesUp 4 = .ok (.aload_n 1, 1) := by decide +kernel
theorem dX5_givesUp_5 : decode cX5_givesUp 5 = .ok (.getfield 162, 3) := by decide +kernel
theorem dX5_givesUp_8 : decode cX5_givesUp 8 = .ok (.invokevirtual 177, 3) := by decide +kernel
theorem dX5_givesUp_11 : decode cX5_givesUp 11 = .ok (.iconst (-1), 1) := by decide +kernel
theorem dX5_givesUp_12 : decode cX5_givesUp 12 = .ok (.if_icmp .eq 14, 3) := by decide +kernel
theorem dX5_givesUp_15 : decode cX5_givesUp 15 = .ok (.aload_n 1, 1) := by decide +kernel
theorem dX5_givesUp_16 : decode cX5_givesUp 16 = .ok (.getfield 109, 3) := by decide +kernel
theorem dX5_givesUp_19 : decode cX5_givesUp 19 = .ok (.aload_n 0, 1) := by decide +kernel
theorem dX5_givesUp_20 : decode cX5_givesUp 20 = .ok (.getfield 180, 3) := by decide +kernel
theorem dX5_givesUp_23 : decode cX5_givesUp 23 = .ok (.if_icmp .lt 7, 3) := by decide +kernel
theorem dX5_givesUp_26 : decode cX5_givesUp 26 = .ok (.iconst 1, 1) := by decide +kernel
theorem dX5_givesUp_27 : decode cX5_givesUp 27 = .ok (.goto 4, 3) := by decide +kernel
theorem dX5_givesUp_30 : decode cX5_givesUp 30 = .ok (.iconst 0, 1) := by decide +kernel
theorem dX5_givesUp_31 : decode cX5_givesUp 31 = .ok (.ireturn, 1) := by decide +kernel
theorem dX5_queueLength_0 : decode cX5_queueLength 0 = .ok (.iconst 0, 1) := by decide +kernel
theorem dX5_queueLength_1 : decode cX5_queueLength 1 = .ok (.istore_n 2, 1) := by decide +kernel
theorem dX5_queueLength_2 : decode cX5_queueLength 2 = .ok (.iconst 0, 1) := by decide +kernel
theorem dX5_queueLength_3 : decode cX5_queueLength 3 = .ok (.istore_n 3, 1) := by decide +kernel
theorem dX5_queueLength_4 : decode cX5_queueLength 4 = .ok (.iload_n 3, 1) := by decide +kernel
theorem dX5_queueLength_5 : decode cX5_queueLength 5 = .ok (.aload_n 0, 1) := by decide +kernel
theorem dX5_queueLength_6 : decode cX5_queueLength 6 = .ok (.getfield 49, 3) := by decide +kernel
theorem dX5_queueLength_9 : decode cX5_queueLength 9 = .ok (.if_icmp .ge 30, 3) := by decide +kernel
theorem dX5_queueLength_12 : decode cX5_queueLength 12 = .ok (.aload_n 0, 1) := by decide +kernel
theorem dX5_queueLength_13 : decode cX5_queueLength 13 = .ok (.getfield 11, 3) := by decide +kernel
theorem dX5_queueLength_16 : decode cX5_queueLength 16 = .ok (.aload_n 0, 1) := by decide +kernel
theorem dX5_queueLength_17 : decode cX5_queueLength 17 = .ok (.getfield 23, 3) := by decide +kernel
theorem dX5_queueLength_20 : decode cX5_queueLength 20 = .ok (.iload_n 3, 1) := by decide +kernel
theorem dX5_queueLength_21 : decode cX5_queueLength 21 = .ok (.iaload, 1) := by decide +kernel
theorem dX5_queueLength_22 : decode cX5_queueLength 22 = .ok (.aaload, 1) := by decide +kernel
theorem dX5_queueLength_23 : decode cX5_queueLength 23 = .ok (.getfield 162, 3) := by decide +kernel
theorem dX5_queueLength_26 : decode cX5_queueLength 26 = .ok (.iload_n 1, 1) := by decide +kernel
theorem dX5_queueLength_27 : decode cX5_queueLength 27 = .ok (.if_icmp .ne 6, 3) := by decide +kernel
theorem dX5_queueLength_30 : decode cX5_queueLength 30 = .ok (.iinc 2 1, 3) := by decide +kernel
theorem dX5_queueLength_33 : decode cX5_queueLength 33 = .ok (.iinc 3 1, 3) := by decide +kernel
theorem dX5_queueLength_36 : decode cX5_queueLength 36 = .ok (.goto (-32), 3) := by decide +kernel
theorem dX5_queueLength_39 : decode cX5_queueLength 39 = .ok (.iload_n 2, 1) := by decide +kernel
theorem dX5_queueLength_40 : decode cX5_queueLength 40 = .ok (.ireturn, 1) := by decide +kernel
theorem dX5_inQueue_0 : decode cX5_inQueue 0 = .ok (.iconst 0, 1) := by decide +kernel
theorem dX5_inQueue_1 : decode cX5_inQueue 1 = .ok (.istore_n 3, 1) := by decide +kernel
theorem dX5_inQueue_2 : decode cX5_inQueue 2 = .ok (.iconst 0, 1) := by decide +kernel
theorem dX5_inQueue_3 : decode cX5_inQueue 3 = .ok (.istore 4, 2) := by decide +kernel
theorem dX5_inQueue_5 : decode cX5_inQueue 5 = .ok (.iload 4, 2) := by decide +kernel
theorem dX5_inQueue_7 : decode cX5_inQueue 7 = .ok (.aload_n 0, 1) := by decide +kernel
theorem dX5_inQueue_8 : decode cX5_inQueue 8 = .ok (.getfield 49, 3) := by decide +kernel
theorem dX5_inQueue_11 : decode cX5_inQueue 11 = .ok (.if_icmp .ge 44, 3) := by decide +kernel
theorem dX5_inQueue_14 : decode cX5_inQueue 14 = .ok (.aload_n 0, 1) := by decide +kernel
theorem dX5_inQueue_15 : decode cX5_inQueue 15 = .ok (.getfield 11, 3) := by decide +kernel
theorem dX5_inQueue_18 : decode cX5_inQueue 18 = .ok (.aload_n 0, 1) := by decide +kernel
theorem dX5_inQueue_19 : decode cX5_inQueue 19 = .ok (.getfield 23, 3) := by decide +kernel
theorem dX5_inQueue_22 : decode cX5_inQueue 22 = .ok (.iload 4, 2) := by decide +kernel
theorem dX5_inQueue_24 : decode cX5_inQueue 24 = .ok (.iaload, 1) := by decide +kernel
theorem dX5_inQueue_25 : decode cX5_inQueue 25 = .ok (.aaload, 1) := by decide +kernel
theorem dX5_inQueue_26 : decode cX5_inQueue 26 = .ok (.getfield 162, 3) := by decide +kernel
theorem dX5_inQueue_29 : decode cX5_inQueue 29 = .ok (.iload_n 1, 1) := by decide +kernel
theorem dX5_inQueue_30 : decode cX5_inQueue 30 = .ok (.if_icmp .ne 19, 3) := by decide +kernel
theorem dX5_inQueue_33 : decode cX5_inQueue 33 = .ok (.iload_n 3, 1) := by decide +kernel
theorem dX5_inQueue_34 : decode cX5_inQueue 34 = .ok (.iload_n 2, 1) := by decide +kernel
theorem dX5_inQueue_35 : decode cX5_inQueue 35 = .ok (.if_icmp .ne 11, 3) := by decide +kernel
theorem dX5_inQueue_38 : decode cX5_inQueue 38 = .ok (.aload_n 0, 1) := by decide +kernel
theorem dX5_inQueue_39 : decode cX5_inQueue 39 = .ok (.getfield 23, 3) := by decide +kernel
theorem dX5_inQueue_42 : decode cX5_inQueue 42 = .ok (.iload 4, 2) := by decide +kernel
theorem dX5_inQueue_44 : decode cX5_inQueue 44 = .ok (.iaload, 1) := by decide +kernel
theorem dX5_inQueue_45 : decode cX5_inQueue 45 = .ok (.ireturn, 1) := by decide +kernel
theorem dX5_inQueue_46 : decode cX5_inQueue 46 = .ok (.iinc 3 1, 3) := by decide +kernel
theorem dX5_inQueue_49 : decode cX5_inQueue 49 = .ok (.iinc 4 1, 3) := by decide +kernel
theorem dX5_inQueue_52 : decode cX5_inQueue 52 = .ok (.goto (-47), 3) := by decide +kernel
theorem dX5_inQueue_55 : decode cX5_inQueue 55 = .ok (.iconst (-1), 1) := by decide +kernel
theorem dX5_inQueue_56 : decode cX5_inQueue 56 = .ok (.ireturn, 1) := by decide +kernel
theorem dX5_arrivedAt_0 : decode cX5_arrivedAt 0 = .ok (.iconst 0, 1) := by decide +kernel
theorem dX5_arrivedAt_1 : decode cX5_arrivedAt 1 = .ok (.istore_n 2, 1) := by decide +kernel
theorem dX5_arrivedAt_2 : decode cX5_arrivedAt 2 = .ok (.iconst 0, 1) := by decide +kernel
theorem dX5_arrivedAt_3 : decode cX5_arrivedAt 3 = .ok (.istore_n 3, 1) := by decide +kernel
theorem dX5_arrivedAt_4 : decode cX5_arrivedAt 4 = .ok (.iload_n 3, 1) := by decide +kernel
theorem dX5_arrivedAt_5 : decode cX5_arrivedAt 5 = .ok (.aload_n 0, 1) := by decide +kernel
theorem dX5_arrivedAt_6 : decode cX5_arrivedAt 6 = .ok (.getfield 27, 3) := by decide +kernel
theorem dX5_arrivedAt_9 : decode cX5_arrivedAt 9 = .ok (.getfield 33, 3) := by decide +kernel
theorem dX5_arrivedAt_12 : decode cX5_arrivedAt 12 = .ok (.if_icmp .ge 38, 3) := by decide +kernel
theorem dX5_arrivedAt_15 : decode cX5_arrivedAt 15 = .ok (.aload_n 0, 1) := by decide +kernel
theorem dX5_arrivedAt_16 : decode cX5_arrivedAt 16 = .ok (.getfield 11, 3) := by decide +kernel
theorem dX5_arrivedAt_19 : decode cX5_arrivedAt 19 = .ok (.iload_n 3, 1) := by decide +kernel
theorem dX5_arrivedAt_20 : decode cX5_arrivedAt 20 = .ok (.aaload, 1) := by decide +kernel
theorem dX5_arrivedAt_21 : decode cX5_arrivedAt 21 = .ok (.getfield 183, 3) := by decide +kernel
theorem dX5_arrivedAt_24 : decode cX5_arrivedAt 24 = .ok (.iconst 2, 1) := by decide +kernel
theorem dX5_arrivedAt_25 : decode cX5_arrivedAt 25 = .ok (.if_icmp .ne 19, 3) := by decide +kernel
theorem dX5_arrivedAt_28 : decode cX5_arrivedAt 28 = .ok (.aload_n 0, 1) := by decide +kernel
theorem dX5_arrivedAt_29 : decode cX5_arrivedAt 29 = .ok (.getfield 11, 3) := by decide +kernel
theorem dX5_arrivedAt_32 : decode cX5_arrivedAt 32 = .ok (.iload_n 3, 1) := by decide +kernel
theorem dX5_arrivedAt_33 : decode cX5_arrivedAt 33 = .ok (.aaload, 1) := by decide +kernel
theorem dX5_arrivedAt_34 : decode cX5_arrivedAt 34 = .ok (.getfield 162, 3) := by decide +kernel
theorem dX5_arrivedAt_37 : decode cX5_arrivedAt 37 = .ok (.iload_n 1, 1) := by decide +kernel
theorem dX5_arrivedAt_38 : decode cX5_arrivedAt 38 = .ok (.if_icmp .ne 6, 3) := by decide +kernel
theorem dX5_arrivedAt_41 : decode cX5_arrivedAt 41 = .ok (.iinc 2 1, 3) := by decide +kernel
theorem dX5_arrivedAt_44 : decode cX5_arrivedAt 44 = .ok (.iinc 3 1, 3) := by decide +kernel
theorem dX5_arrivedAt_47 : decode cX5_arrivedAt 47 = .ok (.goto (-43), 3) := by decide +kernel
theorem dX5_arrivedAt_50 : decode cX5_arrivedAt 50 = .ok (.iload_n 2, 1) := by decide +kernel
theorem dX5_arrivedAt_51 : decode cX5_arrivedAt 51 = .ok (.ireturn, 1) := by decide +kernel
theorem dX5_ridersIn_0 : decode cX5_ridersIn 0 = .ok (.iconst 0, 1) := by decide +kernel
theorem dX5_ridersIn_1 : decode cX5_ridersIn 1 = .ok (.istore_n 2, 1) := by decide +kernel
theorem dX5_ridersIn_2 : decode cX5_ridersIn 2 = .ok (.iconst 0, 1) := by decide +kernel
theorem dX5_ridersIn_3 : decode cX5_ridersIn 3 = .ok (.istore_n 3, 1) := by decide +kernel
theorem dX5_ridersIn_4 : decode cX5_ridersIn 4 = .ok (.iload_n 3, 1) := by decide +kernel
theorem dX5_ridersIn_5 : decode cX5_ridersIn 5 = .ok (.aload_n 0, 1) := by decide +kernel
theorem dX5_ridersIn_6 : decode cX5_ridersIn 6 = .ok (.getfield 27, 3) := by decide +kernel
theorem dX5_ridersIn_9 : decode cX5_ridersIn 9 = .ok (.getfield 33, 3) := by decide +kernel
theorem dX5_ridersIn_12 : decode cX5_ridersIn 12 = .ok (.if_icmp .ge 25, 3) := by decide +kernel
theorem dX5_ridersIn_15 : decode cX5_ridersIn 15 = .ok (.aload_n 0, 1) := by decide +kernel
theorem dX5_ridersIn_16 : decode cX5_ridersIn 16 = .ok (.getfield 11, 3) := by decide +kernel
theorem dX5_ridersIn_19 : decode cX5_ridersIn 19 = .ok (.iload_n 3, 1) := by decide +kernel
theorem dX5_ridersIn_20 : decode cX5_ridersIn 20 = .ok (.aaload, 1) := by decide +kernel
theorem dX5_ridersIn_21 : decode cX5_ridersIn 21 = .ok (.getfield 183, 3) := by decide +kernel
theorem dX5_ridersIn_24 : decode cX5_ridersIn 24 = .ok (.iload_n 1, 1) := by decide +kernel
theorem dX5_ridersIn_25 : decode cX5_ridersIn 25 = .ok (.if_icmp .ne 6, 3) := by decide +kernel
theorem dX5_ridersIn_28 : decode cX5_ridersIn 28 = .ok (.iinc 2 1, 3) := by decide +kernel
theorem dX5_ridersIn_31 : decode cX5_ridersIn 31 = .ok (.iinc 3 1, 3) := by decide +kernel
theorem dX5_ridersIn_34 : decode cX5_ridersIn 34 = .ok (.goto (-30), 3) := by decide +kernel
theorem dX5_ridersIn_37 : decode cX5_ridersIn 37 = .ok (.iload_n 2, 1) := by decide +kernel
theorem dX5_ridersIn_38 : decode cX5_ridersIn 38 = .ok (.ireturn, 1) := by decide +kernel
theorem dX5_trolleysInAll_0 : decode cX5_trolleysInAll 0 = .ok (.iconst 0, 1) := by decide +kernel
theorem dX5_trolleysInAll_1 : decode cX5_trolleysInAll 1 = .ok (.istore_n 1, 1) := by decide +kernel
theorem dX5_trolleysInAll_2 : decode cX5_trolleysInAll 2 = .ok (.iconst 0, 1) := by decide +kernel
theorem dX5_trolleysInAll_3 : decode cX5_trolleysInAll 3 = .ok (.istore_n 2, 1) := by decide +kernel
theorem dX5_trolleysInAll_4 : decode cX5_trolleysInAll 4 = .ok (.iload_n 2, 1) := by decide +kernel
theorem dX5_trolleysInAll_5 : decode cX5_trolleysInAll 5 = .ok (.aload_n 0, 1) := by decide +kernel
theorem dX5_trolleysInAll_6 : decode cX5_trolleysInAll 6 = .ok (.getfield 27, 3) := by decide +kernel
theorem dX5_trolleysInAll_9 : decode cX5_trolleysInAll 9 = .ok (.getfield 43, 3) := by decide +kernel
theorem dX5_trolleysInAll_12 : decode cX5_trolleysInAll 12 = .ok (.if_icmp .ge 21, 3) := by decide +kernel
theorem dX5_trolleysInAll_15 : decode cX5_trolleysInAll 15 = .ok (.iload_n 1, 1) := by decide +kernel
theorem dX5_trolleysInAll_16 : decode cX5_trolleysInAll 16 = .ok (.aload_n 0, 1) := by decide +kernel
theorem dX5_trolleysInAll_17 : decode cX5_trolleysInAll 17 = .ok (.getfield 19, 3) := by decide +kernel
theorem dX5_trolleysInAll_20 : decode cX5_trolleysInAll 20 = .ok (.iload_n 2, 1) := by decide +kernel
theorem dX5_trolleysInAll_21 : decode cX5_trolleysInAll 21 = .ok (.aaload, 1) := by decide +kernel
theorem dX5_trolleysInAll_22 : decode cX5_trolleysInAll 22 = .ok (.invokevirtual 186, 3) := by decide +kernel
theorem dX5_trolleysInAll_25 : decode cX5_trolleysInAll 25 = .ok (.iadd, 1) := by decide +kernel
theorem dX5_trolleysInAll_26 : decode cX5_trolleysInAll 26 = .ok (.istore_n 1, 1) := by decide +kernel
theorem dX5_trolleysInAll_27 : decode cX5_trolleysInAll 27 = .ok (.iinc 2 1, 3) := by decide +kernel
theorem dX5_trolleysInAll_30 : decode cX5_trolleysInAll 30 = .ok (.goto (-26), 3) := by decide +kernel
theorem dX5_trolleysInAll_33 : decode cX5_trolleysInAll 33 = .ok (.iload_n 1, 1) := by decide +kernel
theorem dX5_trolleysInAll_34 : decode cX5_trolleysInAll 34 = .ok (.ireturn, 1) := by decide +kernel
theorem dX5_ridesInAll_0 : decode cX5_ridesInAll 0 = .ok (.iconst 0, 1) := by decide +kernel
theorem dX5_ridesInAll_1 : decode cX5_ridesInAll 1 = .ok (.istore_n 1, 1) := by decide +kernel
theorem dX5_ridesInAll_2 : decode cX5_ridesInAll 2 = .ok (.iconst 0, 1) := by decide +kernel
theorem dX5_ridesInAll_3 : decode cX5_ridesInAll 3 = .ok (.istore_n 2, 1) := by decide +kernel
theorem dX5_ridesInAll_4 : decode cX5_ridesInAll 4 = .ok (.iload_n 2, 1) := by decide +kernel
theorem dX5_ridesInAll_5 : decode cX5_ridesInAll 5 = .ok (.aload_n 0, 1) := by decide +kernel
theorem dX5_ridesInAll_6 : decode cX5_ridesInAll 6 = .ok (.getfield 27, 3) := by decide +kernel
theorem dX5_ridesInAll_9 : decode cX5_ridesInAll 9 = .ok (.getfield 43, 3) := by decide +kernel
theorem dX5_ridesInAll_12 : decode cX5_ridesInAll 12 = .ok (.if_icmp .ge 21, 3) := by decide +kernel
theorem dX5_ridesInAll_15 : decode cX5_ridesInAll 15 = .ok (.iload_n 1, 1) := by decide +kernel
theorem dX5_ridesInAll_16 : decode cX5_ridesInAll 16 = .ok (.aload_n 0, 1) := by decide +kernel
theorem dX5_ridesInAll_17 : decode cX5_ridesInAll 17 = .ok (.getfield 19, 3) := by decide +kernel
theorem dX5_ridesInAll_20 : decode cX5_ridesInAll 20 = .ok (.iload_n 2, 1) := by decide +kernel
theorem dX5_ridesInAll_21 : decode cX5_ridesInAll 21 = .ok (.aaload, 1) := by decide +kernel
theorem dX5_ridesInAll_22 : decode cX5_ridesInAll 22 = .ok (.getfield 189, 3) := by decide +kernel
theorem dX5_ridesInAll_25 : decode cX5_ridesInAll 25 = .ok (.iadd, 1) := by decide +kernel
theorem dX5_ridesInAll_26 : decode cX5_ridesInAll 26 = .ok (.istore_n 1, 1) := by decide +kernel
theorem dX5_ridesInAll_27 : decode cX5_ridesInAll 27 = .ok (.iinc 2 1, 3) := by decide +kernel
theorem dX5_ridesInAll_30 : decode cX5_ridesInAll 30 = .ok (.goto (-26), 3) := by decide +kernel
theorem dX5_ridesInAll_33 : decode cX5_ridesInAll 33 = .ok (.iload_n 1, 1) := by decide +kernel
theorem dX5_ridesInAll_34 : decode cX5_ridesInAll 34 = .ok (.ireturn, 1) := by decide +kernel
theorem dX8_init_0 : decode cX8_init 0 = .ok (.aload_n 0, 1) := by decide +kernel
theorem dX8_init_1 : decode cX8_init 1 = .ok (.invokespecial 1, 3) := by decide +kernel
theorem dX8_init_4 : decode cX8_init 4 = .ok (.aload_n 0, 1) := by decide +kernel
theorem dX8_init_5 : decode cX8_init 5 = .ok (.new 7, 3) := by decide +kernel
theorem dX8_init_8 : decode cX8_init 8 = .ok (.dup, 1) := by decide +kernel
theorem dX8_init_9 : decode cX8_init 9 = .ok (.invokespecial 9, 3) := by decide +kernel
theorem dX8_init_12 : decode cX8_init 12 = .ok (.putfield 10, 3) := by decide +kernel
theorem dX8_init_15 : decode cX8_init 15 = .ok (.aload_n 0, 1) := by decide +kernel
theorem dX8_init_16 : decode cX8_init 16 = .ok (.new 16, 3) := by decide +kernel
theorem dX8_init_19 : decode cX8_init 19 = .ok (.dup, 1) := by decide +kernel
theorem dX8_init_20 : decode cX8_init 20 = .ok (.aload_n 0, 1) := by decide +kernel
theorem dX8_init_21 : decode cX8_init 21 = .ok (.getfield 10, 3) := by decide +kernel
theorem dX8_init_24 : decode cX8_init 24 = .ok (.invokespecial 18, 3) := by decide +kernel
theorem dX8_init_27 : decode cX8_init 27 = .ok (.putfield 21, 3) := by decide +kernel
theorem dX8_init_30 : decode cX8_init 30 = .ok (.aload_n 0, 1) := by decide +kernel
theorem dX8_init_31 : decode cX8_init 31 = .ok (.new 16, 3) := by decide +kernel
theorem dX8_init_34 : decode cX8_init 34 = .ok (.dup, 1) := by decide +kernel
theorem dX8_init_35 : decode cX8_init 35 = .ok (.aload_n 0, 1) := by decide +kernel
theorem dX8_init_36 : decode cX8_init 36 = .ok (.getfield 10, 3) := by decide +kernel
theorem dX8_init_39 : decode cX8_init 39 = .ok (.invokespecial 18, 3) := by decide +kernel
theorem dX8_init_42 : decode cX8_init 42 = .ok (.putfield 25, 3) := by decide +kernel
theorem dX8_init_45 : decode cX8_init 45 = .ok (.aload_n 0, 1) := by decide +kernel
theorem dX8_init_46 : decode cX8_init 46 = .ok (.new 28, 3) := by decide +kernel
theorem dX8_init_49 : decode cX8_init 49 = .ok (.dup, 1) := by decide +kernel
theorem dX8_init_50 : decode cX8_init 50 = .ok (.invokespecial 30, 3) := by decide +kernel
theorem dX8_init_53 : decode cX8_init 53 = .ok (.putfield 31, 3) := by decide +kernel
theorem dX8_init_56 : decode cX8_init 56 = .ok (.return_, 1) := by decide +kernel
theorem dX8_build_0 : decode cX8_build 0 = .ok (.iload_n 1, 1) := by decide +kernel
theorem dX8_build_1 : decode cX8_build 1 = .ok (.iconst 0, 1) := by decide +kernel
theorem dX8_build_2 : decode cX8_build 2 = .ok (.bipush 40, 2) := by decide +kernel
theorem dX8_build_4 : decode cX8_build 4 = .ok (.invokestatic 35, 3) := by decide +kernel
theorem dX8_build_7 : decode cX8_build 7 = .ok (.ifCond .eq 23, 3) := by decide +kernel
theorem dX8_build_10 : decode cX8_build 10 = .ok (.iload_n 2, 1) := by decide +kernel
theorem dX8_build_11 : decode cX8_build 11 = .ok (.iconst 0, 1) := by decide +kernel
theorem dX8_build_12 : decode cX8_build 12 = .ok (.bipush 40, 2) := by decide +kernel
theorem dX8_build_14 : decode cX8_build 14 = .ok (.invokestatic 35, 3) := by decide +kernel
theorem dX8_build_17 : decode cX8_build 17 = .ok (.ifCond .eq 13, 3) := by decide +kernel
theorem dX8_build_20 : decode cX8_build 20 = .ok (.iload_n 3, 1) := by decide +kernel
theorem dX8_build_21 : decode cX8_build 21 = .ok (.iconst 0, 1) := by decide +kernel
theorem dX8_build_22 : decode cX8_build 22 = .ok (.bipush 60, 2) := by decide +kernel
theorem dX8_build_24 : decode cX8_build 24 = .ok (.invokestatic 35, 3) := by decide +kernel
theorem dX8_build_27 : decode cX8_build 27 = .ok (.ifCond .ne 13, 3) := by decide +kernel
theorem dX8_build_30 : decode cX8_build 30 = .ok (.new 39, 3) := by decide +kernel
theorem dX8_build_33 : decode cX8_build 33 = .ok (.dup, 1) := by decide +kernel
theorem dX8_build_34 : decode cX8_build 34 = .ok (.ldc 41, 2) := by decide +kernel
theorem dX8_build_36 : decode cX8_build 36 = .ok (.invokespecial 43, 3) := by decide +kernel
theorem dX8_build_39 : decode cX8_build 39 = .ok (.athrow, 1) := by decide +kernel
theorem dX8_build_40 : decode cX8_build 40 = .ok (.aload_n 0, 1) := by decide +kernel
theorem dX8_build_41 : decode cX8_build 41 = .ok (.getfield 10, 3) := by decide +kernel
theorem dX8_build_44 : decode cX8_build 44 = .ok (.iload_n 1, 1) := by decide +kernel
theorem dX8_build_45 : decode cX8_build 45 = .ok (.iload_n 2, 1) := by decide +kernel
theorem dX8_build_46 : decode cX8_build 46 = .ok (.invokevirtual 46, 3) := by decide +kernel
theorem dX8_build_49 : decode cX8_build 49 = .ok (.ifCond .ne 15, 3) := by decide +kernel
theorem dX8_build_52 : decode cX8_build 52 = .ok (.aload_n 0, 1) := by decide +kernel
theorem dX8_build_53 : decode cX8_build 53 = .ok (.getfield 10, 3) := by decide +kernel
theorem dX8_build_56 : decode cX8_build 56 = .ok (.getfield 50, 3) := by decide +kernel
theorem dX8_build_59 : decode cX8_build 59 = .ok (.bipush 8, 2) := by decide +kernel
theorem dX8_build_61 : decode cX8_build 61 = .ok (.if_icmp .lt 13, 3) := by decide +kernel
theorem dX8_build_64 : decode cX8_build 64 = .ok (.new 54, 3) := by decide +kernel
theorem dX8_build_67 : decode cX8_build 67 = .ok (.dup, 1) := by decide +kernel
theorem dX8_build_68 : decode cX8_build 68 = .ok (.ldc 56, 2) := by decide +kernel
theorem dX8_build_70 : decode cX8_build 70 = .ok (.invokespecial 58, 3) := by decide +kernel
theorem dX8_build_73 : decode cX8_build 73 = .ok (.athrow, 1) := by decide +kernel
theorem dX8_build_74 : decode cX8_build 74 = .ok (.aload_n 0, 1) := by decide +kernel
theorem dX8_build_75 : decode cX8_build 75 = .ok (.getfield 10, 3) := by decide +kernel
theorem dX8_build_78 : decode cX8_build 78 = .ok (.iload_n 1, 1) := by decide +kernel
theorem dX8_build_79 : decode cX8_build 79 = .ok (.iload_n 2, 1) := by decide +kernel
theorem dX8_build_80 : decode cX8_build 80 = .ok (.iload_n 3, 1) := by decide +kernel
theorem dX8_build_81 : decode cX8_build 81 = .ok (.invokevirtual 59, 3) := by decide +kernel
theorem dX8_build_84 : decode cX8_build 84 = .ok (.ireturn, 1) := by decide +kernel
theorem dX8_span_0 : decode cX8_span 0 = .ok (.aload_n 0, 1) := by decide +kernel
theorem dX8_span_1 : decode cX8_span 1 = .ok (.iload_n 1, 1) := by decide +kernel
theorem dX8_span_2 : decode cX8_span 2 = .ok (.invokevirtual 63, 3) := by decide +kernel
theorem dX8_span_5 : decode cX8_span 5 = .ok (.ifCond .eq 11, 3) := by decide +kernel
theorem dX8_span_8 : decode cX8_span 8 = .ok (.aload_n 0, 1) := by decide +kernel
theorem dX8_span_9 : decode cX8_span 9 = .ok (.iload_n 2, 1) := by decide +kernel
theorem dX8_span_10 : decode cX8_span 10 = .ok (.invokevirtual 63, 3) := by decide +kernel
theorem dX8_span_13 : decode cX8_span 13 = .ok (.ifCond .ne 13, 3) := by decide +kernel
theorem dX8_span_16 : decode cX8_span 16 = .ok (.new 67, 3) := by decide +kernel
theorem dX8_span_19 : decode cX8_span 19 = .ok (.dup, 1) := by decide +kernel
theorem dX8_span_20 : decode cX8_span 20 = .ok (.ldc 69, 2) := by decide +kernel
theorem dX8_span_22 : decode cX8_span 22 = .ok (.invokespecial 71, 3) := by decide +kernel
theorem dX8_span_25 : decode cX8_span 25 = .ok (.athrow, 1) := by decide +kernel
theorem dX8_span_26 : decode cX8_span 26 = .ok (.aload_n 0, 1) := by decide +kernel
theorem dX8_span_27 : decode cX8_span 27 = .ok (.getfield 10, 3) := by decide +kernel
theorem dX8_span_30 : decode cX8_span 30 = .ok (.iload_n 2, 1) := by decide +kernel
theorem dX8_span_31 : decode cX8_span 31 = .ok (.iload_n 1, 1) := by decide +kernel
theorem dX8_span_32 : decode cX8_span 32 = .ok (.invokevirtual 72, 3) := by decide +kernel
theorem dX8_span_35 : decode cX8_span 35 = .ok (.ifCond .eq 25, 3) := by decide +kernel
theorem dX8_span_38 : decode cX8_span 38 = .ok (.iload_n 3, 1) := by decide +kernel
theorem dX8_span_39 : decode cX8_span 39 = .ok (.bipush 20, 2) := by decide +kernel
theorem dX8_span_41 : decode cX8_span 41 = .ok (.sipush 150, 3) := by decide +kernel
theorem dX8_span_44 : decode cX8_span 44 = .ok (.invokestatic 35, 3) := by decide +kernel
theorem dX8_span_47 : decode cX8_span 47 = .ok (.ifCond .eq 13, 3) := by decide +kernel
theorem dX8_span_50 : decode cX8_span 50 = .ok (.iload 4, 2) := by decide +kernel
theorem dX8_span_52 : decode cX8_span 52 = .ok (.iconst 1, 1) := by decide +kernel
theorem dX8_span_53 : decode cX8_span 53 = .ok (.iconst 3, 1) := by decide +kernel
theorem dX8_span_54 : decode cX8_span 54 = .ok (.invokestatic 35, 3) := by decide +kernel
theorem dX8_span_57 : decode cX8_span 57 = .ok (.ifCond .ne 13, 3) := by decide +kernel
theorem dX8_span_60 : decode cX8_span 60 = .ok (.new 39, 3) := by decide +kernel
theorem dX8_span_63 : decode cX8_span 63 = .ok (.dup, 1) := by decide +kernel
theorem dX8_span_64 : decode cX8_span 64 = .ok (.ldc 75, 2) := by decide +kernel
theorem dX8_span_66 : decode cX8_span 66 = .ok (.invokespecial 43, 3) := by decide +kernel
theorem dX8_span_69 : decode cX8_span 69 = .ok (.athrow, 1) := by decide +kernel
theorem dX8_span_70 : decode cX8_span 70 = .ok (.aload_n 0, 1) := by decide +kernel
theorem dX8_span_71 : decode cX8_span 71 = .ok (.getfield 10, 3) := by decide +kernel
theorem dX8_span_74 : decode cX8_span 74 = .ok (.getfield 77, 3) := by decide +kernel
theorem dX8_span_77 : decode cX8_span 77 = .ok (.bipush 12, 2) := by decide +kernel
theorem dX8_span_79 : decode cX8_span 79 = .ok (.if_icmp .lt 13, 3) := by decide +kernel
theorem dX8_span_82 : decode cX8_span 82 = .ok (.new 54, 3) := by decide +kernel
theorem dX8_span_85 : decode cX8_span 85 = .ok (.dup, 1) := by decide +kernel
theorem dX8_span_86 : decode cX8_span 86 = .ok (.ldc 80, 2) := by decide +kernel
theorem dX8_span_88 : decode cX8_span 88 = .ok (.invokespecial 58, 3) := by decide +kernel
theorem dX8_span_91 : decode cX8_span 91 = .ok (.athrow, 1) := by decide +kernel
theorem dX8_span_92 : decode cX8_span 92 = .ok (.aload_n 0, 1) := by decide +kernel
theorem dX8_span_93 : decode cX8_span 93 = .ok (.getfield 10, 3) := by decide +kernel
theorem dX8_span_96 : decode cX8_span 96 = .ok (.iload_n 1, 1) := by decide +kernel
theorem dX8_span_97 : decode cX8_span 97 = .ok (.iload_n 2, 1) := by decide +kernel
theorem dX8_span_98 : decode cX8_span 98 = .ok (.iload_n 3, 1) := by decide +kernel
theorem dX8_span_99 : decode cX8_span 99 = .ok (.invokevirtual 82, 3) := by decide +kernel
theorem dX8_span_102 : decode cX8_span 102 = .ok (.istore 5, 2) := by decide +kernel
theorem dX8_span_104 : decode cX8_span 104 = .ok (.aload_n 0, 1) := by decide +kernel
theorem dX8_span_105 : decode cX8_span 105 = .ok (.getfield 21, 3) := by decide +kernel
theorem dX8_span_108 : decode cX8_span 108 = .ok (.iload 5, 2) := by decide +kernel
theorem dX8_span_110 : decode cX8_span 110 = .ok (.iload 4, 2) := by decide +kernel
theorem dX8_span_112 : decode cX8_span 112 = .ok (.invokevirtual 85, 3) := by decide +kernel
theorem dX8_span_115 : decode cX8_span 115 = .ok (.iload 5, 2) := by decide +kernel
theorem dX8_span_117 : decode cX8_span 117 = .ok (.ireturn, 1) := by decide +kernel
theorem dX8_add_0 : decode cX8_add 0 = .ok (.aload_n 0, 1) := by decide +kernel
theorem dX8_add_1 : decode cX8_add 1 = .ok (.iload_n 1, 1) := by decide +kernel
theorem dX8_add_2 : decode cX8_add 2 = .ok (.invokevirtual 89, 3) := by decide +kernel
theorem dX8_add_5 : decode cX8_add 5 = .ok (.ifCond .ne 13, 3) := by decide +kernel
theorem dX8_add_8 : decode cX8_add 8 = .ok (.new 67, 3) := by decide +kernel
theorem dX8_add_11 : decode cX8_add 11 = .ok (.dup, 1) := by decide +kernel
theorem dX8_add_12 : decode cX8_add 12 = .ok (.ldc 92, 2) := by decide +kernel
theorem dX8_add_14 : decode cX8_add 14 = .ok (.invokespecial 71, 3) := by decide +kernel
theorem dX8_add_17 : decode cX8_add 17 = .ok (.athrow, 1) := by decide +kernel
theorem dX8_add_18 : decode cX8_add 18 = .ok (.aload_n 0, 1) := by decide +kernel
theorem dX8_add_19 : decode cX8_add 19 = .ok (.getfield 21, 3) := by decide +kernel
theorem dX8_add_22 : decode cX8_add 22 = .ok (.getfield 94, 3) := by decide +kernel
theorem dX8_add_25 : decode cX8_add 25 = .ok (.iload_n 1, 1) := by decide +kernel
theorem dX8_add_26 : decode cX8_add 26 = .ok (.aaload, 1) := by decide +kernel
theorem dX8_add_27 : decode cX8_add 27 = .ok (.invokevirtual 98, 3) := by decide +kernel
theorem dX8_add_30 : decode cX8_add 30 = .ok (.iconst 3, 1) := by decide +kernel
theorem dX8_add_31 : decode cX8_add 31 = .ok (.if_icmp .lt 13, 3) := by decide +kernel
theorem dX8_add_34 : decode cX8_add 34 = .ok (.new 54, 3) := by decide +kernel
theorem dX8_add_37 : decode cX8_add 37 = .ok (.dup, 1) := by decide +kernel
theorem dX8_add_38 : decode cX8_add 38 = .ok (.ldc 104, 2) := by decide +kernel
theorem dX8_add_40 : decode cX8_add 40 = .ok (.invokespecial 58, 3) := by decide +kernel
theorem dX8_add_43 : decode cX8_add 43 = .ok (.athrow, 1) := by decide +kernel
theorem dX8_add_44 : decode cX8_add 44 = .ok (.aload_n 0, 1) := by decide +kernel
theorem dX8_add_45 : decode cX8_add 45 = .ok (.getfield 21, 3) := by decide +kernel
theorem dX8_add_48 : decode cX8_add 48 = .ok (.iload_n 1, 1) := by decide +kernel
theorem dX8_add_49 : decode cX8_add 49 = .ok (.iconst 1, 1) := by decide +kernel
theorem dX8_add_50 : decode cX8_add 50 = .ok (.invokevirtual 85, 3) := by decide +kernel
theorem dX8_add_53 : decode cX8_add 53 = .ok (.aload_n 0, 1) := by decide +kernel
theorem dX8_add_54 : decode cX8_add 54 = .ok (.getfield 21, 3) := by decide +kernel
theorem dX8_add_57 : decode cX8_add 57 = .ok (.getfield 94, 3) := by decide +kernel
theorem dX8_add_60 : decode cX8_add 60 = .ok (.iload_n 1, 1) := by decide +kernel
theorem dX8_add_61 : decode cX8_add 61 = .ok (.aaload, 1) := by decide +kernel
theorem dX8_add_62 : decode cX8_add 62 = .ok (.invokevirtual 98, 3) := by decide +kernel
theorem dX8_add_65 : decode cX8_add 65 = .ok (.ireturn, 1) := by decide +kernel
theorem dX8_setWind_0 : decode cX8_setWind 0 = .ok (.iload_n 1, 1) := by decide +kernel
theorem dX8_setWind_1 : decode cX8_setWind 1 = .ok (.iconst 0, 1) := by decide +kernel
theorem dX8_setWind_2 : decode cX8_setWind 2 = .ok (.bipush 11, 2) := by decide +kernel
theorem dX8_setWind_4 : decode cX8_setWind 4 = .ok (.invokestatic 35, 3) := by decide +kernel
theorem dX8_setWind_7 : decode cX8_setWind 7 = .ok (.ifCond .ne 13, 3) := by decide +kernel
theorem dX8_setWind_10 : decode cX8_setWind 10 = .ok (.new 67, 3) := by decide +kernel
theorem dX8_setWind_13 : decode cX8_setWind 13 = .ok (.dup, 1) := by decide +kernel
theorem dX8_setWind_14 : decode cX8_setWind 14 = .ok (.ldc 106, 2) := by decide +kernel
theorem dX8_setWind_16 : decode cX8_setWind 16 = .ok (.invokespecial 71, 3) := by decide +kernel
theorem dX8_setWind_19 : decode cX8_setWind 19 = .ok (.athrow, 1) := by decide +kernel
theorem dX8_setWind_20 : decode cX8_setWind 20 = .ok (.iload_n 2, 1) := by decide +kernel
theorem dX8_setWind_21 : decode cX8_setWind 21 = .ok (.iconst 0, 1) := by decide +kernel
theorem dX8_setWind_22 : decode cX8_setWind 22 = .ok (.bipush 9, 2) := by decide +kernel
theorem dX8_setWind_24 : decode cX8_setWind 24 = .ok (.invokestatic 35, 3) := by decide +kernel
theorem dX8_setWind_27 : decode cX8_setWind 27 = .ok (.ifCond .ne 13, 3) := by decide +kernel
theorem dX8_setWind_30 : decode cX8_setWind 30 = .ok (.new 39, 3) := by decide +kernel
theorem dX8_setWind_33 : decode cX8_setWind 33 = .ok (.dup, 1) := by decide +kernel
theorem dX8_setWind_34 : decode cX8_setWind 34 = .ok (.ldc 108, 2) := by decide +kernel
theorem dX8_setWind_36 : decode cX8_setWind 36 = .ok (.invokespecial 43, 3) := by decide +kernel
theorem dX8_setWind_39 : decode cX8_setWind 39 = .ok (.athrow, 1) := by decide +kernel
theorem dX8_setWind_40 : decode cX8_setWind 40 = .ok (.aload_n 0, 1) := by decide +kernel
theorem dX8_setWind_41 : decode cX8_setWind 41 = .ok (.getfield 10, 3) := by decide +kernel
theorem dX8_setWind_44 : decode cX8_setWind 44 = .ok (.getfield 110, 3) := by decide +kernel
theorem dX8_setWind_47 : decode cX8_setWind 47 = .ok (.iload_n 1, 1) := by decide +kernel
theorem dX8_setWind_48 : decode cX8_setWind 48 = .ok (.iaload, 1) := by decide +kernel
theorem dX8_setWind_49 : decode cX8_setWind 49 = .ok (.istore_n 3, 1) := by decide +kernel
theorem dX8_setWind_50 : decode cX8_setWind 50 = .ok (.aload_n 0, 1) := by decide +kernel
theorem dX8_setWind_51 : decode cX8_setWind 51 = .ok (.getfield 10, 3) := by decide +kernel
theorem dX8_setWind_54 : decode cX8_setWind 54 = .ok (.getfield 110, 3) := by decide +kernel
theorem dX8_setWind_57 : decode cX8_setWind 57 = .ok (.iload_n 1, 1) := by decide +kernel
theorem dX8_setWind_58 : decode cX8_setWind 58 = .ok (.iload_n 2, 1) := by decide +kernel
theorem dX8_setWind_59 : decode cX8_setWind 59 = .ok (.iastore, 1) := by decide +kernel
theorem dX8_setWind_60 : decode cX8_setWind 60 = .ok (.iload_n 3, 1) := by decide +kernel
theorem dX8_setWind_61 : decode cX8_setWind 61 = .ok (.ireturn, 1) := by decide +kernel
theorem dX8_platform_0 : decode cX8_platform 0 = .ok (.aload_n 0, 1) := by decide +kernel
theorem dX8_platform_1 : decode cX8_platform 1 = .ok (.iload_n 1, 1) := by decide +kernel
theorem dX8_platform_2 : decode cX8_platform 2 = .ok (.invokevirtual 63, 3) := by decide +kernel
theorem dX8_platform_5 : decode cX8_platform 5 = .ok (.ifCond .eq 13, 3) := by decide +kernel
theorem dX8_platform_8 : decode cX8_platform 8 = .ok (.iload_n 2, 1) := by decide +kernel
theorem dX8_platform_9 : decode cX8_platform 9 = .ok (.iconst 0, 1) := by decide +kernel
theorem dX8_platform_10 : decode cX8_platform 10 = .ok (.bipush 7, 2) := by decide +kernel
theorem dX8_platform_12 : decode cX8_platform 12 = .ok (.invokestatic 35, 3) := by decide +kernel
theorem dX8_platform_15 : decode cX8_platform 15 = .ok (.ifCond .ne 13, 3) := by decide +kernel
theorem dX8_platform_18 : decode cX8_platform 18 = .ok (.new 67, 3) := by decide +kernel
theorem dX8_platform_21 : decode cX8_platform 21 = .ok (.dup, 1) := by decide +kernel
theorem dX8_platform_22 : decode cX8_platform 22 = .ok (.ldc 114, 2) := by decide +kernel
theorem dX8_platform_24 : decode cX8_platform 24 = .ok (.invokespecial 71, 3) := by decide +kernel
theorem dX8_platform_27 : decode cX8_platform 27 = .ok (.athrow, 1) := by decide +kernel
theorem dX8_platform_28 : decode cX8_platform 28 = .ok (.aload_n 0, 1) := by decide +kernel
theorem dX8_platform_29 : decode cX8_platform 29 = .ok (.iload_n 1, 1) := by decide +kernel
theorem dX8_platform_30 : decode cX8_platform 30 = .ok (.iload_n 2, 1) := by decide +kernel
theorem dX8_platform_31 : decode cX8_platform 31 = .ok (.invokevirtual 116, 3) := by decide +kernel
theorem dX8_platform_34 : decode cX8_platform 34 = .ok (.ireturn, 1) := by decide +kernel
theorem dX8_line_0 : decode cX8_line 0 = .ok (.aload_n 0, 1) := by decide +kernel
theorem dX8_line_1 : decode cX8_line 1 = .ok (.iload_n 1, 1) := by decide +kernel
theorem dX8_line_2 : decode cX8_line 2 = .ok (.invokevirtual 89, 3) := by decide +kernel
theorem dX8_line_5 : decode cX8_line 5 = .ok (.ifCond .eq 13, 3) := by decide +kernel
theorem dX8_line_8 : decode cX8_line 8 = .ok (.iload_n 2, 1) := by decide +kernel
theorem dX8_line_9 : decode cX8_line 9 = .ok (.iconst 0, 1) := by decide +kernel
theorem dX8_line_10 : decode cX8_line 10 = .ok (.bipush 10, 2) := by decide +kernel
theorem dX8_line_12 : decode cX8_line 12 = .ok (.invokestatic 35, 3) := by decide +kernel
theorem dX8_line_15 : decode cX8_line 15 = .ok (.ifCond .ne 13, 3) := by decide +kernel
theorem dX8_line_18 : decode cX8_line 18 = .ok (.new 67, 3) := by decide +kernel
theorem dX8_line_21 : decode cX8_line 21 = .ok (.dup, 1) := by decide +kernel
theorem dX8_line_22 : decode cX8_line 22 = .ok (.ldc 120, 2) := by decide +kernel
theorem dX8_line_24 : decode cX8_line 24 = .ok (.invokespecial 71, 3) := by decide +kernel
theorem dX8_line_27 : decode cX8_line 27 = .ok (.athrow, 1) := by decide +kernel
theorem dX8_line_28 : decode cX8_line 28 = .ok (.aload_n 0, 1) := by decide +kernel
theorem dX8_line_29 : decode cX8_line 29 = .ok (.iload_n 1, 1) := by decide +kernel
theorem dX8_line_30 : decode cX8_line 30 = .ok (.iload_n 2, 1) := by decide +kernel
theorem dX8_line_31 : decode cX8_line 31 = .ok (.invokevirtual 122, 3) := by decide +kernel
theorem dX8_line_34 : decode cX8_line 34 = .ok (.ireturn, 1) := by decide +kernel
theorem dX8_ride_0 : decode cX8_ride 0 = .ok (.aload_n 0, 1) := by decide +kernel
theorem dX8_ride_1 : decode cX8_ride 1 = .ok (.iload_n 1, 1) := by decide +kernel
theorem dX8_ride_2 : decode cX8_ride 2 = .ok (.invokevirtual 89, 3) := by decide +kernel
theorem dX8_ride_5 : decode cX8_ride 5 = .ok (.ifCond .ne 13, 3) := by decide +kernel
theorem dX8_ride_8 : decode cX8_ride 8 = .ok (.new 67, 3) := by decide +kernel
theorem dX8_ride_11 : decode cX8_ride 11 = .ok (.dup, 1) := by decide +kernel
theorem dX8_ride_12 : decode cX8_ride 12 = .ok (.ldc 92, 2) := by decide +kernel
theorem dX8_ride_14 : decode cX8_ride 14 = .ok (.invokespecial 71, 3) := by decide +kernel
theorem dX8_ride_17 : decode cX8_ride 17 = .ok (.athrow, 1) := by decide +kernel
theorem dX8_ride_18 : decode cX8_ride 18 = .ok (.iload_n 2, 1) := by decide +kernel
theorem dX8_ride_19 : decode cX8_ride 19 = .ok (.invokestatic 125, 3) := by decide +kernel
theorem dX8_ride_22 : decode cX8_ride 22 = .ok (.ifCond .ne 13, 3) := by decide +kernel
theorem dX8_ride_25 : decode cX8_ride 25 = .ok (.new 39, 3) := by decide +kernel
theorem dX8_ride_28 : decode cX8_ride 28 = .ok (.dup, 1) := by decide +kernel
theorem dX8_ride_29 : decode cX8_ride 29 = .ok (.ldc 128, 2) := by decide +kernel
theorem dX8_ride_31 : decode cX8_ride 31 = .ok (.invokespecial 43, 3) := by decide +kernel
theorem dX8_ride_34 : decode cX8_ride 34 = .ok (.athrow, 1) := by decide +kernel
theorem dX8_ride_35 : decode cX8_ride 35 = .ok (.aload_n 0, 1) := by decide +kernel
theorem dX8_ride_36 : decode cX8_ride 36 = .ok (.getfield 10, 3) := by decide +kernel
theorem dX8_ride_39 : decode cX8_ride 39 = .ok (.getfield 130, 3) := by decide +kernel
theorem dX8_ride_42 : decode cX8_ride 42 = .ok (.iload_n 1, 1) := by decide +kernel
theorem dX8_ride_43 : decode cX8_ride 43 = .ok (.aaload, 1) := by decide +kernel
theorem dX8_ride_44 : decode cX8_ride 44 = .ok (.astore_n 3, 1) := by decide +kernel
theorem dX8_ride_45 : decode cX8_ride 45 = .ok (.aload_n 3, 1) := by decide +kernel
theorem dX8_ride_46 : decode cX8_ride 46 = .ok (.iload_n 2, 1) := by decide +kernel
theorem dX8_ride_47 : decode cX8_ride 47 = .ok (.invokevirtual 134, 3) := by decide +kernel
theorem dX8_ride_50 : decode cX8_ride 50 = .ok (.ifCond .ne 5, 3) := by decide +kernel
theorem dX8_ride_53 : decode cX8_ride 53 = .ok (.iconst 0, 1) := by decide +kernel
theorem dX8_ride_54 : decode cX8_ride 54 = .ok (.ireturn, 1) := by decide +kernel
theorem dX8_ride_55 : decode cX8_ride 55 = .ok (.aload_n 3, 1) := by decide +kernel
theorem dX8_ride_56 : decode cX8_ride 56 = .ok (.iload_n 2, 1) := by decide +kernel
theorem dX8_ride_57 : decode cX8_ride 57 = .ok (.invokevirtual 139, 3) := by decide +kernel
theorem dX8_ride_60 : decode cX8_ride 60 = .ok (.ifCond .eq 12, 3) := by decide +kernel
theorem dX8_ride_63 : decode cX8_ride 63 = .ok (.aload_n 3, 1) := by decide +kernel
theorem dX8_ride_64 : decode cX8_ride 64 = .ok (.iload_n 2, 1) := by decide +kernel
theorem dX8_ride_65 : decode cX8_ride 65 = .ok (.invokevirtual 142, 3) := by decide +kernel
theorem dX8_ride_68 : decode cX8_ride 68 = .ok (.ineg, 1) := by decide +kernel
theorem dX8_ride_69 : decode cX8_ride 69 = .ok (.goto 8, 3) := by decide +kernel
theorem dX8_ride_72 : decode cX8_ride 72 = .ok (.aload_n 3, 1) := by decide +kernel
theorem dX8_ride_73 : decode cX8_ride 73 = .ok (.iload_n 2, 1) := by decide +kernel
theorem dX8_ride_74 : decode cX8_ride 74 = .ok (.invokevirtual 142, 3) := by decide +kernel
theorem dX8_ride_77 : decode cX8_ride 77 = .ok (.ireturn, 1) := by decide +kernel
theorem dX8_come_0 : decode cX8_come 0 = .ok (.aload_n 0, 1) := by decide +kernel
theorem dX8_come_1 : decode cX8_come 1 = .ok (.iload_n 1, 1) := by decide +kernel
theorem dX8_come_2 : decode cX8_come 2 = .ok (.invokevirtual 63, 3) := by decide +kernel
theorem dX8_come_5 : decode cX8_come 5 = .ok (.ifCond .eq 11, 3) := by decide +kernel
theorem dX8_come_8 : decode cX8_come 8 = .ok (.aload_n 0, 1) := by decide +kernel
theorem dX8_come_9 : decode cX8_come 9 = .ok (.iload_n 2, 1) := by decide +kernel
theorem dX8_come_10 : decode cX8_come 10 = .ok (.invokevirtual 63, 3) := by decide +kernel
theorem dX8_come_13 : decode cX8_come 13 = .ok (.ifCond .ne 13, 3) := by decide +kernel
theorem dX8_come_16 : decode cX8_come 16 = .ok (.new 67, 3) := by decide +kernel
theorem dX8_come_19 : decode cX8_come 19 = .ok (.dup, 1) := by decide +kernel
theorem dX8_come_20 : decode cX8_come 20 = .ok (.ldc 146, 2) := by decide +kernel
theorem dX8_come_22 : decode cX8_come 22 = .ok (.invokespecial 71, 3) := by decide +kernel
theorem dX8_come_25 : decode cX8_come 25 = .ok (.athrow, 1) := by decide +kernel
theorem dX8_come_26 : decode cX8_come 26 = .ok (.iload_n 3, 1) := by decide +kernel
theorem dX8_come_27 : decode cX8_come 27 = .ok (.invokestatic 125, 3) := by decide +kernel
theorem dX8_come_30 : decode cX8_come 30 = .ok (.ifCond .eq 14, 3) := by decide +kernel
theorem dX8_come_33 : decode cX8_come 33 = .ok (.iload 4, 2) := by decide +kernel
theorem dX8_come_35 : decode cX8_come 35 = .ok (.iconst 1, 1) := by decide +kernel
theorem dX8_come_36 : decode cX8_come 36 = .ok (.bipush 60, 2) := by decide +kernel
theorem dX8_come_38 : decode cX8_come 38 = .ok (.invokestatic 35, 3) := by decide +kernel
theorem dX8_come_41 : decode cX8_come 41 = .ok (.ifCond .ne 13, 3) := by decide +kernel
theorem dX8_come_44 : decode cX8_come 44 = .ok (.new 39, 3) := by decide +kernel
theorem dX8_come_47 : decode cX8_come 47 = .ok (.dup, 1) := by decide +kernel
theorem dX8_come_48 : decode cX8_come 48 = .ok (.ldc 148, 2) := by decide +kernel
theorem dX8_come_50 : decode cX8_come 50 = .ok (.invokespecial 43, 3) := by decide +kernel
theorem dX8_come_53 : decode cX8_come 53 = .ok (.athrow, 1) := by decide +kernel
theorem dX8_come_54 : decode cX8_come 54 = .ok (.aload_n 0, 1) := by decide +kernel
theorem dX8_come_55 : decode cX8_come 55 = .ok (.getfield 10, 3) := by decide +kernel
theorem dX8_come_58 : decode cX8_come 58 = .ok (.getfield 150, 3) := by decide +kernel
theorem dX8_come_61 : decode cX8_come 61 = .ok (.bipush 12, 2) := by decide +kernel
theorem dX8_come_63 : decode cX8_come 63 = .ok (.if_icmp .lt 13, 3) := by decide +kernel
theorem dX8_come_66 : decode cX8_come 66 = .ok (.new 54, 3) := by decide +kernel
theorem dX8_come_69 : decode cX8_come 69 = .ok (.dup, 1) := by decide +kernel
theorem dX8_come_70 : decode cX8_come 70 = .ok (.ldc 153, 2) := by decide +kernel
theorem dX8_come_72 : decode cX8_come 72 = .ok (.invokespecial 58, 3) := by decide +kernel
theorem dX8_come_75 : decode cX8_come 75 = .ok (.athrow, 1) := by decide +kernel
theorem dX8_come_76 : decode cX8_come 76 = .ok (.aload_n 0, 1) := by decide +kernel
theorem dX8_come_77 : decode cX8_come 77 = .ok (.getfield 10, 3) := by decide +kernel
theorem dX8_come_80 : decode cX8_come 80 = .ok (.iload_n 2, 1) := by decide +kernel
theorem dX8_come_81 : decode cX8_come 81 = .ok (.iload_n 3, 1) := by decide +kernel
theorem dX8_come_82 : decode cX8_come 82 = .ok (.iload 4, 2) := by decide +kernel
theorem dX8_come_84 : decode cX8_come 84 = .ok (.invokevirtual 155, 3) := by decide +kernel
theorem dX8_come_87 : decode cX8_come 87 = .ok (.istore 5, 2) := by decide +kernel
theorem dX8_come_89 : decode cX8_come 89 = .ok (.aload_n 0, 1) := by decide +kernel
theorem dX8_come_90 : decode cX8_come 90 = .ok (.getfield 21, 3) := by decide +kernel
theorem dX8_come_93 : decode cX8_come 93 = .ok (.iload 5, 2) := by decide +kernel
theorem dX8_come_95 : decode cX8_come 95 = .ok (.iload_n 1, 1) := by decide +kernel
theorem dX8_come_96 : decode cX8_come 96 = .ok (.invokevirtual 158, 3) := by decide +kernel
theorem dX8_come_99 : decode cX8_come 99 = .ok (.iload 5, 2) := by decide +kernel
theorem dX8_come_101 : decode cX8_come 101 = .ok (.ireturn, 1) := by decide +kernel
theorem dX8_rider_0 : decode cX8_rider 0 = .ok (.aload_n 0, 1) := by decide +kernel
theorem dX8_rider_1 : decode cX8_rider 1 = .ok (.iload_n 1, 1) := by decide +kernel
theorem dX8_rider_2 : decode cX8_rider 2 = .ok (.invokevirtual 161, 3) := by decide +kernel
theorem dX8_rider_5 : decode cX8_rider 5 = .ok (.ifCond .eq 13, 3) := by decide +kernel
theorem dX8_rider_8 : decode cX8_rider 8 = .ok (.iload_n 2, 1) := by decide +kernel
theorem dX8_rider_9 : decode cX8_rider 9 = .ok (.iconst 0, 1) := by decide +kernel
theorem dX8_rider_10 : decode cX8_rider 10 = .ok (.bipush 10, 2) := by decide +kernel
theorem dX8_rider_12 : decode cX8_rider 12 = .ok (.invokestatic 35, 3) := by decide +kernel
theorem dX8_rider_15 : decode cX8_rider 15 = .ok (.ifCond .ne 13, 3) := by decide +kernel
theorem dX8_rider_18 : decode cX8_rider 18 = .ok (.new 67, 3) := by decide +kernel
theorem dX8_rider_21 : decode cX8_rider 21 = .ok (.dup, 1) := by decide +kernel
theorem dX8_rider_22 : decode cX8_rider 22 = .ok (.ldc 164, 2) := by decide +kernel
theorem dX8_rider_24 : decode cX8_rider 24 = .ok (.invokespecial 71, 3) := by decide +kernel
theorem dX8_rider_27 : decode cX8_rider 27 = .ok (.athrow, 1) := by decide +kernel
theorem dX8_rider_28 : decode cX8_rider 28 = .ok (.aload_n 0, 1) := by decide +kernel
theorem dX8_rider_29 : decode cX8_rider 29 = .ok (.iload_n 1, 1) := by decide +kernel
theorem dX8_rider_30 : decode cX8_rider 30 = .ok (.iload_n 2, 1) := by decide +kernel
theorem dX8_rider_31 : decode cX8_rider 31 = .ok (.invokevirtual 166, 3) := by decide +kernel
theorem dX8_rider_34 : decode cX8_rider 34 = .ok (.ireturn, 1) := by decide +kernel
theorem dX8_queue_0 : decode cX8_queue 0 = .ok (.aload_n 0, 1) := by decide +kernel
theorem dX8_queue_1 : decode cX8_queue 1 = .ok (.iload_n 1, 1) := by decide +kernel
theorem dX8_queue_2 : decode cX8_queue 2 = .ok (.invokevirtual 63, 3) := by decide +kernel
theorem dX8_queue_5 : decode cX8_queue 5 = .ok (.ifCond .eq 21, 3) := by decide +kernel
theorem dX8_queue_8 : decode cX8_queue 8 = .ok (.iload_n 2, 1) := by decide +kernel
theorem dX8_queue_9 : decode cX8_queue 9 = .ok (.iconst 0, 1) := by decide +kernel
theorem dX8_queue_10 : decode cX8_queue 10 = .ok (.aload_n 0, 1) := by decide +kernel
theorem dX8_queue_11 : decode cX8_queue 11 = .ok (.getfield 21, 3) := by decide +kernel
theorem dX8_queue_14 : decode cX8_queue 14 = .ok (.iload_n 1, 1) := by decide +kernel
theorem dX8_queue_15 : decode cX8_queue 15 = .ok (.invokevirtual 169, 3) := by decide +kernel
theorem dX8_queue_18 : decode cX8_queue 18 = .ok (.iconst 1, 1) := by decide +kernel
theorem dX8_queue_19 : decode cX8_queue 19 = .ok (.isub, 1) := by decide +kernel
theorem dX8_queue_20 : decode cX8_queue 20 = .ok (.invokestatic 35, 3) := by decide +kernel
theorem dX8_queue_23 : decode cX8_queue 23 = .ok (.ifCond .ne 13, 3) := by decide +kernel
theorem dX8_queue_26 : decode cX8_queue 26 = .ok (.new 67, 3) := by decide +kernel
theorem dX8_queue_29 : decode cX8_queue 29 = .ok (.dup, 1) := by decide +kernel
theorem dX8_queue_30 : decode cX8_queue 30 = .ok (.ldc 172, 2) := by decide +kernel
theorem dX8_queue_32 : decode cX8_queue 32 = .ok (.invokespecial 71, 3) := by decide +kernel
theorem dX8_queue_35 : decode cX8_queue 35 = .ok (.athrow, 1) := by decide +kernel
theorem dX8_queue_36 : decode cX8_queue 36 = .ok (.aload_n 0, 1) := by decide +kernel
theorem dX8_queue_37 : decode cX8_queue 37 = .ok (.getfield 21, 3) := by decide +kernel
theorem dX8_queue_40 : decode cX8_queue 40 = .ok (.iload_n 1, 1) := by decide +kernel
theorem dX8_queue_41 : decode cX8_queue 41 = .ok (.iload_n 2, 1) := by decide +kernel
theorem dX8_queue_42 : decode cX8_queue 42 = .ok (.invokevirtual 174, 3) := by decide +kernel
theorem dX8_queue_45 : decode cX8_queue 45 = .ok (.ireturn, 1) := by decide +kernel
theorem dX8_pass_0 : decode cX8_pass 0 = .ok (.iload_n 1, 1) := by decide +kernel
theorem dX8_pass_1 : decode cX8_pass 1 = .ok (.iconst 1, 1) := by decide +kernel
theorem dX8_pass_2 : decode cX8_pass 2 = .ok (.bipush 100, 2) := by decide +kernel
theorem dX8_pass_4 : decode cX8_pass 4 = .ok (.invokestatic 35, 3) := by decide +kernel
theorem dX8_pass_7 : decode cX8_pass 7 = .ok (.ifCond .ne 13, 3) := by decide +kernel
theorem dX8_pass_10 : decode cX8_pass 10 = .ok (.new 39, 3) := by decide +kernel
theorem dX8_pass_13 : decode cX8_pass 13 = .ok (.dup, 1) := by decide +kernel
theorem dX8_pass_14 : decode cX8_pass 14 = .ok (.ldc 177, 2) := by decide +kernel
theorem dX8_pass_16 : decode cX8_pass 16 = .ok (.invokespecial 43, 3) := by decide +kernel
theorem dX8_pass_19 : decode cX8_pass 19 = .ok (.athrow, 1) := by decide +kernel
theorem dX8_pass_20 : decode cX8_pass 20 = .ok (.aload_n 0, 1) := by decide +kernel
theorem dX8_pass_21 : decode cX8_pass 21 = .ok (.getfield 21, 3) := by decide +kernel
theorem dX8_pass_24 : decode cX8_pass 24 = .ok (.iload_n 1, 1) := by decide +kernel
theorem dX8_pass_25 : decode cX8_pass 25 = .ok (.invokevirtual 179, 3) := by decide +kernel
theorem dX8_pass_28 : decode cX8_pass 28 = .ok (.ireturn, 1) := by decide +kernel
theorem dX8_count_0 : decode cX8_count 0 = .ok (.iload_n 1, 1) := by decide +kernel
theorem dX8_count_1 : decode cX8_count 1 = .ok (.iconst 0, 1) := by decide +kernel
theorem dX8_count_2 : decode cX8_count 2 = .ok (.bipush 9, 2) := by decide +kernel
theorem dX8_count_4 : decode cX8_count 4 = .ok (.invokestatic 35, 3) := by decide +kernel
theorem dX8_count_7 : decode cX8_count 7 = .ok (.ifCond .ne 13, 3) := by decide +kernel
theorem dX8_count_10 : decode cX8_count 10 = .ok (.new 67, 3) := by decide +kernel
theorem dX8_count_13 : decode cX8_count 13 = .ok (.dup, 1) := by decide +kernel
theorem dX8_count_14 : decode cX8_count 14 = .ok (.ldc 182, 2) := by decide +kernel
theorem dX8_count_16 : decode cX8_count 16 = .ok (.invokespecial 71, 3) := by decide +kernel
theorem dX8_count_19 : decode cX8_count 19 = .ok (.athrow, 1) := by decide +kernel
theorem dX8_count_20 : decode cX8_count 20 = .ok (.aload_n 0, 1) := by decide +kernel
theorem dX8_count_21 : decode cX8_count 21 = .ok (.iload_n 1, 1) := by decide +kernel
theorem dX8_count_22 : decode cX8_count 22 = .ok (.invokevirtual 184, 3) := by decide +kernel
theorem dX8_count_25 : decode cX8_count 25 = .ok (.ireturn, 1) := by decide +kernel
theorem dX8_way_0 : decode cX8_way 0 = .ok (.aload_n 0, 1) := by decide +kernel
theorem dX8_way_1 : decode cX8_way 1 = .ok (.iload_n 1, 1) := by decide +kernel
theorem dX8_way_2 : decode cX8_way 2 = .ok (.invokevirtual 63, 3) := by decide +kernel
theorem dX8_way_5 : decode cX8_way 5 = .ok (.ifCond .eq 11, 3) := by decide +kernel
theorem dX8_way_8 : decode cX8_way 8 = .ok (.aload_n 0, 1) := by decide +kernel
theorem dX8_way_9 : decode cX8_way 9 = .ok (.iload_n 2, 1) := by decide +kernel
theorem dX8_way_10 : decode cX8_way 10 = .ok (.invokevirtual 63, 3) := by decide +kernel
theorem dX8_way_13 : decode cX8_way 13 = .ok (.ifCond .ne 13, 3) := by decide +kernel
theorem dX8_way_16 : decode cX8_way 16 = .ok (.new 67, 3) := by decide +kernel
theorem dX8_way_19 : decode cX8_way 19 = .ok (.dup, 1) := by decide +kernel
theorem dX8_way_20 : decode cX8_way 20 = .ok (.ldc 69, 2) := by decide +kernel
theorem dX8_way_22 : decode cX8_way 22 = .ok (.invokespecial 71, 3) := by decide +kernel
theorem dX8_way_25 : decode cX8_way 25 = .ok (.athrow, 1) := by decide +kernel
theorem dX8_way_26 : decode cX8_way 26 = .ok (.iload_n 3, 1) := by decide +kernel
theorem dX8_way_27 : decode cX8_way 27 = .ok (.invokestatic 125, 3) := by decide +kernel
theorem dX8_way_30 : decode cX8_way 30 = .ok (.ifCond .ne 13, 3) := by decide +kernel
theorem dX8_way_33 : decode cX8_way 33 = .ok (.new 39, 3) := by decide +kernel
theorem dX8_way_36 : decode cX8_way 36 = .ok (.dup, 1) := by decide +kernel
theorem dX8_way_37 : decode cX8_way 37 = .ok (.ldc 128, 2) := by decide +kernel
theorem dX8_way_39 : decode cX8_way 39 = .ok (.invokespecial 43, 3) := by decide +kernel
theorem dX8_way_42 : decode cX8_way 42 = .ok (.athrow, 1) := by decide +kernel
theorem dX8_way_43 : decode cX8_way 43 = .ok (.aload_n 0, 1) := by decide +kernel
theorem dX8_way_44 : decode cX8_way 44 = .ok (.getfield 31, 3) := by decide +kernel
theorem dX8_way_47 : decode cX8_way 47 = .ok (.aload_n 0, 1) := by decide +kernel
theorem dX8_way_48 : decode cX8_way 48 = .ok (.getfield 10, 3) := by decide +kernel
theorem dX8_way_51 : decode cX8_way 51 = .ok (.iload_n 2, 1) := by decide +kernel
theorem dX8_way_52 : decode cX8_way 52 = .ok (.iload_n 3, 1) := by decide +kernel
theorem dX8_way_53 : decode cX8_way 53 = .ok (.invokevirtual 187, 3) := by decide +kernel
theorem dX8_way_56 : decode cX8_way 56 = .ok (.aload_n 0, 1) := by decide +kernel
theorem dX8_way_57 : decode cX8_way 57 = .ok (.getfield 31, 3) := by decide +kernel
theorem dX8_way_60 : decode cX8_way 60 = .ok (.iload_n 1, 1) := by decide +kernel
theorem dX8_way_61 : decode cX8_way 61 = .ok (.invokevirtual 191, 3) := by decide +kernel
theorem dX8_way_64 : decode cX8_way 64 = .ok (.ireturn, 1) := by decide +kernel
theorem dX8_arrives_0 : decode cX8_arrives 0 = .ok (.aload_n 0, 1) := by decide +kernel
theorem dX8_arrives_1 : decode cX8_arrives 1 = .ok (.iload_n 1, 1) := by decide +kernel
theorem dX8_arrives_2 : decode cX8_arrives 2 = .ok (.invokevirtual 161, 3) := by decide +kernel
theorem dX8_arrives_5 : decode cX8_arrives 5 = .ok (.ifCond .ne 13, 3) := by decide +kernel
theorem dX8_arrives_8 : decode cX8_arrives 8 = .ok (.new 67, 3) := by decide +kernel
theorem dX8_arrives_11 : decode cX8_arrives 11 = .ok (.dup, 1) := by decide +kernel
theorem dX8_arrives_12 : decode cX8_arrives 12 = .ok (.ldc 194, 2) := by decide +kernel
theorem dX8_arrives_14 : decode cX8_arrives 14 = .ok (.invokespecial 71, 3) := by decide +kernel
theorem dX8_arrives_17 : decode cX8_arrives 17 = .ok (.athrow, 1) := by decide +kernel
theorem dX8_arrives_18 : decode cX8_arrives 18 = .ok (.aload_n 0, 1) := by decide +kernel
theorem dX8_arrives_19 : decode cX8_arrives 19 = .ok (.getfield 25, 3) := by decide +kernel
theorem dX8_arrives_22 : decode cX8_arrives 22 = .ok (.aload_n 0, 1) := by decide +kernel
theorem dX8_arrives_23 : decode cX8_arrives 23 = .ok (.getfield 21, 3) := by decide +kernel
theorem dX8_arrives_26 : decode cX8_arrives 26 = .ok (.invokevirtual 196, 3) := by decide +kernel
theorem dX8_arrives_29 : decode cX8_arrives 29 = .ok (.aload_n 0, 1) := by decide +kernel
theorem dX8_arrives_30 : decode cX8_arrives 30 = .ok (.getfield 25, 3) := by decide +kernel
theorem dX8_arrives_33 : decode cX8_arrives 33 = .ok (.getfield 200, 3) := by decide +kernel
theorem dX8_arrives_36 : decode cX8_arrives 36 = .ok (.iload_n 1, 1) := by decide +kernel
theorem dX8_arrives_37 : decode cX8_arrives 37 = .ok (.aaload, 1) := by decide +kernel
theorem dX8_arrives_38 : decode cX8_arrives 38 = .ok (.astore_n 2, 1) := by decide +kernel
theorem dX8_arrives_39 : decode cX8_arrives 39 = .ok (.iconst 0, 1) := by decide +kernel
theorem dX8_arrives_40 : decode cX8_arrives 40 = .ok (.istore_n 3, 1) := by decide +kernel
theorem dX8_arrives_41 : decode cX8_arrives 41 = .ok (.iload_n 3, 1) := by decide +kernel
theorem dX8_arrives_42 : decode cX8_arrives 42 = .ok (.sipush 200, 3) := by decide +kernel
theorem dX8_arrives_45 : decode cX8_arrives 45 = .ok (.if_icmp .ge 23, 3) := by decide +kernel
theorem dX8_arrives_48 : decode cX8_arrives 48 = .ok (.aload_n 2, 1) := by decide +kernel
theorem dX8_arrives_49 : decode cX8_arrives 49 = .ok (.invokevirtual 204, 3) := by decide +kernel
theorem dX8_arrives_52 : decode cX8_arrives 52 = .ok (.ifCond .eq 16, 3) := by decide +kernel
theorem dX8_arrives_55 : decode cX8_arrives 55 = .ok (.aload_n 0, 1) := by decide +kernel
theorem dX8_arrives_56 : decode cX8_arrives 56 = .ok (.getfield 25, 3) := by decide +kernel
theorem dX8_arrives_59 : decode cX8_arrives 59 = .ok (.invokevirtual 210, 3) := by decide +kernel
theorem dX8_arrives_62 : decode cX8_arrives 62 = .ok (.iinc 3 1, 3) := by decide +kernel
theorem dX8_arrives_65 : decode cX8_arrives 65 = .ok (.goto (-24), 3) := by decide +kernel
theorem dX8_arrives_68 : decode cX8_arrives 68 = .ok (.aload_n 2, 1) := by decide +kernel
theorem dX8_arrives_69 : decode cX8_arrives 69 = .ok (.getfield 213, 3) := by decide +kernel
theorem dX8_arrives_72 : decode cX8_arrives 72 = .ok (.ireturn, 1) := by decide +kernel
theorem dX8_advise_0 : decode cX8_advise 0 = .ok (.iload_n 1, 1) := by decide +kernel
theorem dX8_advise_1 : decode cX8_advise 1 = .ok (.iconst 1, 1) := by decide +kernel
theorem dX8_advise_2 : decode cX8_advise 2 = .ok (.bipush 30, 2) := by decide +kernel
theorem dX8_advise_4 : decode cX8_advise 4 = .ok (.invokestatic 35, 3) := by decide +kernel
theorem dX8_advise_7 : decode cX8_advise 7 = .ok (.ifCond .ne 13, 3) := by decide +kernel
theorem dX8_advise_10 : decode cX8_advise 10 = .ok (.new 39, 3) := by decide +kernel
theorem dX8_advise_13 : decode cX8_advise 13 = .ok (.dup, 1) := by decide +kernel
theorem dX8_advise_14 : decode cX8_advise 14 = .ok (.ldc 216, 2) := by decide +kernel
theorem dX8_advise_16 : decode cX8_advise 16 = .ok (.invokespecial 43, 3) := by decide +kernel
theorem dX8_advise_19 : decode cX8_advise 19 = .ok (.athrow, 1) := by decide +kernel
theorem dX8_advise_20 : decode cX8_advise 20 = .ok (.aload_n 0, 1) := by decide +kernel
theorem dX8_advise_21 : decode cX8_advise 21 = .ok (.getfield 25, 3) := by decide +kernel
theorem dX8_advise_24 : decode cX8_advise 24 = .ok (.aload_n 0, 1) := by decide +kernel
theorem dX8_advise_25 : decode cX8_advise 25 = .ok (.getfield 21, 3) := by decide +kernel
theorem dX8_advise_28 : decode cX8_advise 28 = .ok (.invokevirtual 196, 3) := by decide +kernel
theorem dX8_advise_31 : decode cX8_advise 31 = .ok (.aload_n 0, 1) := by decide +kernel
theorem dX8_advise_32 : decode cX8_advise 32 = .ok (.getfield 25, 3) := by decide +kernel
theorem dX8_advise_35 : decode cX8_advise 35 = .ok (.iload_n 1, 1) := by decide +kernel
theorem dX8_advise_36 : decode cX8_advise 36 = .ok (.invokevirtual 179, 3) := by decide +kernel
theorem dX8_advise_39 : decode cX8_advise 39 = .ok (.istore_n 2, 1) := by decide +kernel
theorem dX8_advise_40 : decode cX8_advise 40 = .ok (.iconst (-1), 1) := by decide +kernel
theorem dX8_advise_41 : decode cX8_advise 41 = .ok (.istore_n 3, 1) := by decide +kernel
theorem dX8_advise_42 : decode cX8_advise 42 = .ok (.iconst 0, 1) := by decide +kernel
theorem dX8_advise_43 : decode cX8_advise 43 = .ok (.istore 4, 2) := by decide +kernel
theorem dX8_advise_45 : decode cX8_advise 45 = .ok (.iload 4, 2) := by decide +kernel
theorem dX8_advise_47 : decode cX8_advise 47 = .ok (.aload_n 0, 1) := by decide +kernel
theorem dX8_advise_48 : decode cX8_advise 48 = .ok (.getfield 10, 3) := by decide +kernel
theorem dX8_advise_51 : decode cX8_advise 51 = .ok (.getfield 77, 3) := by decide +kernel
theorem dX8_advise_54 : decode cX8_advise 54 = .ok (.if_icmp .ge 47, 3) := by decide +kernel
theorem dX8_advise_57 : decode cX8_advise 57 = .ok (.aload_n 0, 1) := by decide +kernel
theorem dX8_advise_58 : decode cX8_advise 58 = .ok (.getfield 21, 3) := by decide +kernel
theorem dX8_advise_61 : decode cX8_advise 61 = .ok (.getfield 94, 3) := by decide +kernel
theorem dX8_advise_64 : decode cX8_advise 64 = .ok (.iload 4, 2) := by decide +kernel
theorem dX8_advise_66 : decode cX8_advise 66 = .ok (.aaload, 1) := by decide +kernel
theorem dX8_advise_67 : decode cX8_advise 67 = .ok (.invokevirtual 98, 3) := by decide +kernel
theorem dX8_advise_70 : decode cX8_advise 70 = .ok (.iconst 3, 1) := by decide +kernel
theorem dX8_advise_71 : decode cX8_advise 71 = .ok (.if_icmp .ge 24, 3) := by decide +kernel
theorem dX8_advise_74 : decode cX8_advise 74 = .ok (.aload_n 0, 1) := by decide +kernel
theorem dX8_advise_75 : decode cX8_advise 75 = .ok (.iload 4, 2) := by decide +kernel
theorem dX8_advise_77 : decode cX8_advise 77 = .ok (.iload_n 1, 1) := by decide +kernel
theorem dX8_advise_78 : decode cX8_advise 78 = .ok (.invokevirtual 218, 3) := by decide +kernel
theorem dX8_advise_81 : decode cX8_advise 81 = .ok (.istore 5, 2) := by decide +kernel
theorem dX8_advise_83 : decode cX8_advise 83 = .ok (.iload 5, 2) := by decide +kernel
theorem dX8_advise_85 : decode cX8_advise 85 = .ok (.iload_n 2, 1) := by decide +kernel
theorem dX8_advise_86 : decode cX8_advise 86 = .ok (.if_icmp .le 9, 3) := by decide +kernel
theorem dX8_advise_89 : decode cX8_advise 89 = .ok (.iload 5, 2) := by decide +kernel
theorem dX8_advise_91 : decode cX8_advise 91 = .ok (.istore_n 2, 1) := by decide +kernel
theorem dX8_advise_92 : decode cX8_advise 92 = .ok (.iload 4, 2) := by decide +kernel
theorem dX8_advise_94 : decode cX8_advise 94 = .ok (.istore_n 3, 1) := by decide +kernel
theorem dX8_advise_95 : decode cX8_advise 95 = .ok (.iinc 4 1, 3) := by decide +kernel
theorem dX8_advise_98 : decode cX8_advise 98 = .ok (.goto (-53), 3) := by decide +kernel
theorem dX8_advise_101 : decode cX8_advise 101 = .ok (.iload_n 3, 1) := by decide +kernel
theorem dX8_advise_102 : decode cX8_advise 102 = .ok (.ireturn, 1) := by decide +kernel
theorem dX8_mean_0 : decode cX8_mean 0 = .ok (.iconst 0, 1) := by decide +kernel
theorem dX8_mean_1 : decode cX8_mean 1 = .ok (.istore_n 1, 1) := by decide +kernel
theorem dX8_mean_2 : decode cX8_mean 2 = .ok (.iconst 0, 1) := by decide +kernel
theorem dX8_mean_3 : decode cX8_mean 3 = .ok (.istore_n 2, 1) := by decide +kernel
theorem dX8_mean_4 : decode cX8_mean 4 = .ok (.iconst 0, 1) := by decide +kernel
theorem dX8_mean_5 : decode cX8_mean 5 = .ok (.istore_n 3, 1) := by decide +kernel
theorem dX8_mean_6 : decode cX8_mean 6 = .ok (.iload_n 3, 1) := by decide +kernel
theorem dX8_mean_7 : decode cX8_mean 7 = .ok (.aload_n 0, 1) := by decide +kernel
theorem dX8_mean_8 : decode cX8_mean 8 = .ok (.getfield 10, 3) := by decide +kernel
theorem dX8_mean_11 : decode cX8_mean 11 = .ok (.getfield 150, 3) := by decide +kernel
theorem dX8_mean_14 : decode cX8_mean 14 = .ok (.if_icmp .ge 43, 3) := by decide +kernel
theorem dX8_mean_17 : decode cX8_mean 17 = .ok (.aload_n 0, 1) := by decide +kernel
theorem dX8_mean_18 : decode cX8_mean 18 = .ok (.getfield 21, 3) := by decide +kernel
theorem dX8_mean_21 : decode cX8_mean 21 = .ok (.getfield 200, 3) := by decide +kernel
theorem dX8_mean_24 : decode cX8_mean 24 = .ok (.iload_n 3, 1) := by decide +kernel
theorem dX8_mean_25 : decode cX8_mean 25 = .ok (.aaload, 1) := by decide +kernel
theorem dX8_mean_26 : decode cX8_mean 26 = .ok (.getfield 221, 3) := by decide +kernel
theorem dX8_mean_29 : decode cX8_mean 29 = .ok (.iconst 2, 1) := by decide +kernel
theorem dX8_mean_30 : decode cX8_mean 30 = .ok (.if_icmp .ne 21, 3) := by decide +kernel
theorem dX8_mean_33 : decode cX8_mean 33 = .ok (.iinc 1 1, 3) := by decide +kernel
theorem dX8_mean_36 : decode cX8_mean 36 = .ok (.iload_n 2, 1) := by decide +kernel
theorem dX8_mean_37 : decode cX8_mean 37 = .ok (.aload_n 0, 1) := by decide +kernel
theorem dX8_mean_38 : decode cX8_mean 38 = .ok (.getfield 21, 3) := by decide +kernel
theorem dX8_mean_41 : decode cX8_mean 41 = .ok (.getfield 200, 3) := by decide +kernel
theorem dX8_mean_44 : decode cX8_mean 44 = .ok (.iload_n 3, 1) := by decide +kernel
theorem dX8_mean_45 : decode cX8_mean 45 = .ok (.aaload, 1) := by decide +kernel
theorem dX8_mean_46 : decode cX8_mean 46 = .ok (.getfield 213, 3) := by decide +kernel
theorem dX8_mean_49 : decode cX8_mean 49 = .ok (.iadd, 1) := by decide +kernel
theorem dX8_mean_50 : decode cX8_mean 50 = .ok (.istore_n 2, 1) := by decide +kernel
theorem dX8_mean_51 : decode cX8_mean 51 = .ok (.iinc 3 1, 3) := by decide +kernel
theorem dX8_mean_54 : decode cX8_mean 54 = .ok (.goto (-48), 3) := by decide +kernel
theorem dX8_mean_57 : decode cX8_mean 57 = .ok (.iload_n 1, 1) := by decide +kernel
theorem dX8_mean_58 : decode cX8_mean 58 = .ok (.ifCond .ne 7, 3) := by decide +kernel
theorem dX8_mean_61 : decode cX8_mean 61 = .ok (.dconst 0, 1) := by decide +kernel
theorem dX8_mean_62 : decode cX8_mean 62 = .ok (.goto 8, 3) := by decide +kernel
theorem dX8_mean_65 : decode cX8_mean 65 = .ok (.iload_n 2, 1) := by decide +kernel
theorem dX8_mean_66 : decode cX8_mean 66 = .ok (.i2d, 1) := by decide +kernel
theorem dX8_mean_67 : decode cX8_mean 67 = .ok (.iload_n 1, 1) := by decide +kernel
theorem dX8_mean_68 : decode cX8_mean 68 = .ok (.i2d, 1) := by decide +kernel
theorem dX8_mean_69 : decode cX8_mean 69 = .ok (.ddiv, 1) := by decide +kernel
theorem dX8_mean_70 : decode cX8_mean 70 = .ok (.dreturn, 1) := by decide +kernel
theorem dX8_digest_0 : decode cX8_digest 0 = .ok (.ldc2_w 224, 3) := by decide +kernel
theorem dX8_digest_3 : decode cX8_digest 3 = .ok (.lstore_n 1, 1) := by decide +kernel
theorem dX8_digest_4 : decode cX8_digest 4 = .ok (.iconst 0, 1) := by decide +kernel
theorem dX8_digest_5 : decode cX8_digest 5 = .ok (.istore_n 3, 1) := by decide +kernel
theorem dX8_digest_6 : decode cX8_digest 6 = .ok (.iload_n 3, 1) := by decide +kernel
theorem dX8_digest_7 : decode cX8_digest 7 = .ok (.bipush 10, 2) := by decide +kernel
theorem dX8_digest_9 : decode cX8_digest 9 = .ok (.if_icmp .ge 22, 3) := by decide +kernel
theorem dX8_digest_12 : decode cX8_digest 12 = .ok (.lload_n 1, 1) := by decide +kernel
theorem dX8_digest_13 : decode cX8_digest 13 = .ok (.ldc2_w 226, 3) := by decide +kernel
theorem dX8_digest_16 : decode cX8_digest 16 = .ok (.lmul, 1) := by decide +kernel
theorem dX8_digest_17 : decode cX8_digest 17 = .ok (.aload_n 0, 1) := by decide +kernel
theorem dX8_digest_18 : decode cX8_digest 18 = .ok (.iload_n 3, 1) := by decide +kernel
theorem dX8_digest_19 : decode cX8_digest 19 = .ok (.invokevirtual 184, 3) := by decide +kernel
theorem dX8_digest_22 : decode cX8_digest 22 = .ok (.i2l, 1) := by decide +kernel
theorem dX8_digest_23 : decode cX8_digest 23 = .ok (.ladd, 1) := by decide +kernel
theorem dX8_digest_24 : decode cX8_digest 24 = .ok (.lstore_n 1, 1) := by decide +kernel
theorem dX8_digest_25 : decode cX8_digest 25 = .ok (.iinc 3 1, 3) := by decide +kernel
theorem dX8_digest_28 : decode cX8_digest 28 = .ok (.goto (-22), 3) := by decide +kernel
theorem dX8_digest_31 : decode cX8_digest 31 = .ok (.iconst 0, 1) := by decide +kernel
theorem dX8_digest_32 : decode cX8_digest 32 = .ok (.istore_n 3, 1) := by decide +kernel
theorem dX8_digest_33 : decode cX8_digest 33 = .ok (.iload_n 3, 1) := by decide +kernel
theorem dX8_digest_34 : decode cX8_digest 34 = .ok (.bipush 12, 2) := by decide +kernel
theorem dX8_digest_36 : decode cX8_digest 36 = .ok (.if_icmp .ge 26, 3) := by decide +kernel
theorem dX8_digest_39 : decode cX8_digest 39 = .ok (.lload_n 1, 1) := by decide +kernel
theorem dX8_digest_40 : decode cX8_digest 40 = .ok (.ldc2_w 226, 3) := by decide +kernel
theorem dX8_digest_43 : decode cX8_digest 43 = .ok (.lmul, 1) := by decide +kernel
theorem dX8_digest_44 : decode cX8_digest 44 = .ok (.aload_n 0, 1) := by decide +kernel
theorem dX8_digest_45 : decode cX8_digest 45 = .ok (.getfield 10, 3) := by decide +kernel
theorem dX8_digest_48 : decode cX8_digest 48 = .ok (.getfield 110, 3) := by decide +kernel
theorem dX8_digest_51 : decode cX8_digest 51 = .ok (.iload_n 3, 1) := by decide +kernel
theorem dX8_digest_52 : decode cX8_digest 52 = .ok (.iaload, 1) := by decide +kernel
theorem dX8_digest_53 : decode cX8_digest 53 = .ok (.i2l, 1) := by decide +kernel
theorem dX8_digest_54 : decode cX8_digest 54 = .ok (.ladd, 1) := by decide +kernel
theorem dX8_digest_55 : decode cX8_digest 55 = .ok (.lstore_n 1, 1) := by decide +kernel
theorem dX8_digest_56 : decode cX8_digest 56 = .ok (.iinc 3 1, 3) := by decide +kernel
theorem dX8_digest_59 : decode cX8_digest 59 = .ok (.goto (-26), 3) := by decide +kernel
theorem dX8_digest_62 : decode cX8_digest 62 = .ok (.iconst 0, 1) := by decide +kernel
theorem dX8_digest_63 : decode cX8_digest 63 = .ok (.istore_n 3, 1) := by decide +kernel
theorem dX8_digest_64 : decode cX8_digest 64 = .ok (.iload_n 3, 1) := by decide +kernel
theorem dX8_digest_65 : decode cX8_digest 65 = .ok (.aload_n 0, 1) := by decide +kernel
theorem dX8_digest_66 : decode cX8_digest 66 = .ok (.getfield 10, 3) := by decide +kernel
theorem dX8_digest_69 : decode cX8_digest 69 = .ok (.getfield 50, 3) := by decide +kernel
theorem dX8_digest_72 : decode cX8_digest 72 = .ok (.if_icmp .ge 16, 3) := by decide +kernel
theorem dX8_digest_75 : decode cX8_digest 75 = .ok (.aload_n 0, 1) := by decide +kernel
theorem dX8_digest_76 : decode cX8_digest 76 = .ok (.lload_n 1, 1) := by decide +kernel
theorem dX8_digest_77 : decode cX8_digest 77 = .ok (.iload_n 3, 1) := by decide +kernel
theorem dX8_digest_78 : decode cX8_digest 78 = .ok (.invokevirtual 228, 3) := by decide +kernel
theorem dX8_digest_81 : decode cX8_digest 81 = .ok (.lstore_n 1, 1) := by decide +kernel
theorem dX8_digest_82 : decode cX8_digest 82 = .ok (.iinc 3 1, 3) := by decide +kernel
theorem dX8_digest_85 : decode cX8_digest 85 = .ok (.goto (-21), 3) := by decide +kernel
theorem dX8_digest_88 : decode cX8_digest 88 = .ok (.iconst 0, 1) := by decide +kernel
theorem dX8_digest_89 : decode cX8_digest 89 = .ok (.istore_n 3, 1) := by decide +kernel
theorem dX8_digest_90 : decode cX8_digest 90 = .ok (.iload_n 3, 1) := by decide +kernel
theorem dX8_digest_91 : decode cX8_digest 91 = .ok (.aload_n 0, 1) := by decide +kernel
theorem dX8_digest_92 : decode cX8_digest 92 = .ok (.getfield 10, 3) := by decide +kernel
theorem dX8_digest_95 : decode cX8_digest 95 = .ok (.getfield 77, 3) := by decide +kernel
theorem dX8_digest_98 : decode cX8_digest 98 = .ok (.if_icmp .ge 40, 3) := by decide +kernel
theorem dX8_digest_101 : decode cX8_digest 101 = .ok (.iconst 0, 1) := by decide +kernel
theorem dX8_digest_102 : decode cX8_digest 102 = .ok (.istore 4, 2) := by decide +kernel
theorem dX8_digest_104 : decode cX8_digest 104 = .ok (.iload 4, 2) := by decide +kernel
theorem dX8_digest_106 : decode cX8_digest 106 = .ok (.bipush 11, 2) := by decide +kernel
theorem dX8_digest_108 : decode cX8_digest 108 = .ok (.if_icmp .ge 24, 3) := by decide +kernel
theorem dX8_digest_111 : decode cX8_digest 111 = .ok (.lload_n 1, 1) := by decide +kernel
theorem dX8_digest_112 : decode cX8_digest 112 = .ok (.ldc2_w 226, 3) := by decide +kernel
theorem dX8_digest_115 : decode cX8_digest 115 = .ok (.lmul, 1) := by decide +kernel
theorem dX8_digest_116 : decode cX8_digest 116 = .ok (.aload_n 0, 1) := by decide +kernel
theorem dX8_digest_117 : decode cX8_digest 117 = .ok (.iload_n 3, 1) := by decide +kernel
theorem dX8_digest_118 : decode cX8_digest 118 = .ok (.iload 4, 2) := by decide +kernel
theorem dX8_digest_120 : decode cX8_digest 120 = .ok (.invokevirtual 122, 3) := by decide +kernel
theorem dX8_digest_123 : decode cX8_digest 123 = .ok (.i2l, 1) := by decide +kernel
theorem dX8_digest_124 : decode cX8_digest 124 = .ok (.ladd, 1) := by decide +kernel
theorem dX8_digest_125 : decode cX8_digest 125 = .ok (.lstore_n 1, 1) := by decide +kernel
theorem dX8_digest_126 : decode cX8_digest 126 = .ok (.iinc 4 1, 3) := by decide +kernel
theorem dX8_digest_129 : decode cX8_digest 129 = .ok (.goto (-25), 3) := by decide +kernel
theorem dX8_digest_132 : decode cX8_digest 132 = .ok (.iinc 3 1, 3) := by decide +kernel
theorem dX8_digest_135 : decode cX8_digest 135 = .ok (.goto (-45), 3) := by decide +kernel
theorem dX8_digest_138 : decode cX8_digest 138 = .ok (.iconst 0, 1) := by decide +kernel
theorem dX8_digest_139 : decode cX8_digest 139 = .ok (.istore_n 3, 1) := by decide +kernel
theorem dX8_digest_140 : decode cX8_digest 140 = .ok (.iload_n 3, 1) := by decide +kernel
theorem dX8_digest_141 : decode cX8_digest 141 = .ok (.aload_n 0, 1) := by decide +kernel
theorem dX8_digest_142 : decode cX8_digest 142 = .ok (.getfield 10, 3) := by decide +kernel
theorem dX8_digest_145 : decode cX8_digest 145 = .ok (.getfield 150, 3) := by decide +kernel
theorem dX8_digest_148 : decode cX8_digest 148 = .ok (.if_icmp .ge 40, 3) := by decide +kernel
theorem dX8_digest_151 : decode cX8_digest 151 = .ok (.iconst 0, 1) := by decide +kernel
theorem dX8_digest_152 : decode cX8_digest 152 = .ok (.istore 4, 2) := by decide +kernel
theorem dX8_digest_154 : decode cX8_digest 154 = .ok (.iload 4, 2) := by decide +kernel
theorem dX8_digest_156 : decode cX8_digest 156 = .ok (.bipush 11, 2) := by decide +kernel
theorem dX8_digest_158 : decode cX8_digest 158 = .ok (.if_icmp .ge 24, 3) := by decide +kernel
theorem dX8_digest_161 : decode cX8_digest 161 = .ok (.lload_n 1, 1) := by decide +kernel
theorem dX8_digest_162 : decode cX8_digest 162 = .ok (.ldc2_w 226, 3) := by decide +kernel
theorem dX8_digest_165 : decode cX8_digest 165 = .ok (.lmul, 1) := by decide +kernel
theorem dX8_digest_166 : decode cX8_digest 166 = .ok (.aload_n 0, 1) := by decide +kernel
theorem dX8_digest_167 : decode cX8_digest 167 = .ok (.iload_n 3, 1) := by decide +kernel
theorem dX8_digest_168 : decode cX8_digest 168 = .ok (.iload 4, 2) := by decide +kernel
theorem dX8_digest_170 : decode cX8_digest 170 = .ok (.invokevirtual 166, 3) := by decide +kernel
theorem dX8_digest_173 : decode cX8_digest 173 = .ok (.i2l, 1) := by decide +kernel
theorem dX8_digest_174 : decode cX8_digest 174 = .ok (.ladd, 1) := by decide +kernel
theorem dX8_digest_175 : decode cX8_digest 175 = .ok (.lstore_n 1, 1) := by decide +kernel
theorem dX8_digest_176 : decode cX8_digest 176 = .ok (.iinc 4 1, 3) := by decide +kernel
theorem dX8_digest_179 : decode cX8_digest 179 = .ok (.goto (-25), 3) := by decide +kernel
theorem dX8_digest_182 : decode cX8_digest 182 = .ok (.iinc 3 1, 3) := by decide +kernel
theorem dX8_digest_185 : decode cX8_digest 185 = .ok (.goto (-45), 3) := by decide +kernel
theorem dX8_digest_188 : decode cX8_digest 188 = .ok (.lload_n 1, 1) := by decide +kernel
theorem dX8_digest_189 : decode cX8_digest 189 = .ok (.lreturn, 1) := by decide +kernel
theorem dX8_within_0 : decode cX8_within 0 = .ok (.iload_n 0, 1) := by decide +kernel
theorem dX8_within_1 : decode cX8_within 1 = .ok (.iload_n 1, 1) := by decide +kernel
theorem dX8_within_2 : decode cX8_within 2 = .ok (.if_icmp .lt 12, 3) := by decide +kernel
theorem dX8_within_5 : decode cX8_within 5 = .ok (.iload_n 0, 1) := by decide +kernel
theorem dX8_within_6 : decode cX8_within 6 = .ok (.iload_n 2, 1) := by decide +kernel
theorem dX8_within_7 : decode cX8_within 7 = .ok (.if_icmp .gt 7, 3) := by decide +kernel
theorem dX8_within_10 : decode cX8_within 10 = .ok (.iconst 1, 1) := by decide +kernel
theorem dX8_within_11 : decode cX8_within 11 = .ok (.goto 4, 3) := by decide +kernel
theorem dX8_within_14 : decode cX8_within 14 = .ok (.iconst 0, 1) := by decide +kernel
theorem dX8_within_15 : decode cX8_within 15 = .ok (.ireturn, 1) := by decide +kernel
theorem dX8_isWeight_0 : decode cX8_isWeight 0 = .ok (.iload_n 0, 1) := by decide +kernel
theorem dX8_isWeight_1 : decode cX8_isWeight 1 = .ok (.bipush 20, 2) := by decide +kernel
theorem dX8_isWeight_3 : decode cX8_isWeight 3 = .ok (.bipush 120, 2) := by decide +kernel
theorem dX8_isWeight_5 : decode cX8_isWeight 5 = .ok (.invokestatic 35, 3) := by decide +kernel
theorem dX8_isWeight_8 : decode cX8_isWeight 8 = .ok (.ireturn, 1) := by decide +kernel
theorem dX8_isPlatform_0 : decode cX8_isPlatform 0 = .ok (.iload_n 1, 1) := by decide +kernel
theorem dX8_isPlatform_1 : decode cX8_isPlatform 1 = .ok (.iconst 0, 1) := by decide +kernel
theorem dX8_isPlatform_2 : decode cX8_isPlatform 2 = .ok (.aload_n 0, 1) := by decide +kernel
theorem dX8_isPlatform_3 : decode cX8_isPlatform 3 = .ok (.getfield 10, 3) := by decide +kernel
theorem dX8_isPlatform_6 : decode cX8_isPlatform 6 = .ok (.getfield 50, 3) := by decide +kernel
theorem dX8_isPlatform_9 : decode cX8_isPlatform 9 = .ok (.iconst 1, 1) := by decide +kernel
theorem dX8_isPlatform_10 : decode cX8_isPlatform 10 = .ok (.isub, 1) := by decide +kernel
theorem dX8_isPlatform_11 : decode cX8_isPlatform 11 = .ok (.invokestatic 35, 3) := by decide +kernel
theorem dX8_isPlatform_14 : decode cX8_isPlatform 14 = .ok (.ireturn, 1) := by decide +kernel
theorem dX8_isLine_0 : decode cX8_isLine 0 = .ok (.iload_n 1, 1) := by decide +kernel
theorem dX8_isLine_1 : decode cX8_isLine 1 = .ok (.iconst 0, 1) := by decide +kernel
theorem dX8_isLine_2 : decode cX8_isLine 2 = .ok (.aload_n 0, 1) := by decide +kernel
theorem dX8_isLine_3 : decode cX8_isLine 3 = .ok (.getfield 10, 3) := by decide +kernel
theorem dX8_isLine_6 : decode cX8_isLine 6 = .ok (.getfield 77, 3) := by decide +kernel
theorem dX8_isLine_9 : decode cX8_isLine 9 = .ok (.iconst 1, 1) := by decide +kernel
theorem dX8_isLine_10 : decode cX8_isLine 10 = .ok (.isub, 1) := by decide +kernel
theorem dX8_isLine_11 : decode cX8_isLine 11 = .ok (.invokestatic 35, 3) := by decide +kernel
theorem dX8_isLine_14 : decode cX8_isLine 14 = .ok (.ireturn, 1) := by decide +kernel
theorem dX8_isRider_0 : decode cX8_isRider 0 = .ok (.iload_n 1, 1) := by decide +kernel
theorem dX8_isRider_1 : decode cX8_isRider 1 = .ok (.iconst 0, 1) := by decide +kernel
theorem dX8_isRider_2 : decode cX8_isRider 2 = .ok (.aload_n 0, 1) := by decide +kernel
theorem dX8_isRider_3 : decode cX8_isRider 3 = .ok (.getfield 10, 3) := by decide +kernel
theorem dX8_isRider_6 : decode cX8_isRider 6 = .ok (.getfield 150, 3) := by decide +kernel
theorem dX8_isRider_9 : decode cX8_isRider 9 = .ok (.iconst 1, 1) := by decide +kernel
theorem dX8_isRider_10 : decode cX8_isRider 10 = .ok (.isub, 1) := by decide +kernel
theorem dX8_isRider_11 : decode cX8_isRider 11 = .ok (.invokestatic 35, 3) := by decide +kernel
theorem dX8_isRider_14 : decode cX8_isRider 14 = .ok (.ireturn, 1) := by decide +kernel
theorem dX8_arrivalsWithOneMore_0 : decode cX8_arrivalsWithOneMore 0 = .ok (.aload_n 0, 1) := by decide +kernel
theorem dX8_arrivalsWithOneMore_1 : decode cX8_arrivalsWithOneMore 1 = .ok (.getfield 25, 3) := by decide +kernel
theorem dX8_arrivalsWithOneMore_4 : decode cX8_arrivalsWithOneMore 4 = .ok (.aload_n 0, 1) := by decide +kernel
theorem dX8_arrivalsWithOneMore_5 : decode cX8_arrivalsWithOneMore 5 = .ok (.getfield 21, 3) := by decide +kernel
theorem dX8_arrivalsWithOneMore_8 : decode cX8_arrivalsWithOneMore 8 = .ok (.invokevirtual 196, 3) := by decide +kernel
theorem dX8_arrivalsWithOneMore_11 : decode cX8_arrivalsWithOneMore 11 = .ok (.aload_n 0, 1) := by decide +kernel
theorem dX8_arrivalsWithOneMore_12 : decode cX8_arrivalsWithOneMore 12 = .ok (.getfield 25, 3) := by decide +kernel
theorem dX8_arrivalsWithOneMore_15 : decode cX8_arrivalsWithOneMore 15 = .ok (.iload_n 1, 1) := by decide +kernel
theorem dX8_arrivalsWithOneMore_16 : decode cX8_arrivalsWithOneMore 16 = .ok (.iconst 1, 1) := by decide +kernel
theorem dX8_arrivalsWithOneMore_17 : decode cX8_arrivalsWithOneMore 17 = .ok (.invokevirtual 85, 3) := by decide +kernel
theorem dX8_arrivalsWithOneMore_20 : decode cX8_arrivalsWithOneMore 20 = .ok (.aload_n 0, 1) := by decide +kernel
theorem dX8_arrivalsWithOneMore_21 : decode cX8_arrivalsWithOneMore 21 = .ok (.getfield 25, 3) := by decide +kernel
theorem dX8_arrivalsWithOneMore_24 : decode cX8_arrivalsWithOneMore 24 = .ok (.iload_n 2, 1) := by decide +kernel
theorem dX8_arrivalsWithOneMore_25 : decode cX8_arrivalsWithOneMore 25 = .ok (.invokevirtual 179, 3) := by decide +kernel
theorem dX8_arrivalsWithOneMore_28 : decode cX8_arrivalsWithOneMore 28 = .ok (.ireturn, 1) := by decide +kernel
theorem dX8_digestPlatform_0 : decode cX8_digestPlatform 0 = .ok (.lload_n 1, 1) := by decide +kernel
theorem dX8_digestPlatform_1 : decode cX8_digestPlatform 1 = .ok (.lstore 4, 2) := by decide +kernel
theorem dX8_digestPlatform_3 : decode cX8_digestPlatform 3 = .ok (.iconst 0, 1) := by decide +kernel
theorem dX8_digestPlatform_4 : decode cX8_digestPlatform 4 = .ok (.istore 6, 2) := by decide +kernel
theorem dX8_digestPlatform_6 : decode cX8_digestPlatform 6 = .ok (.iload 6, 2) := by decide +kernel
theorem dX8_digestPlatform_8 : decode cX8_digestPlatform 8 = .ok (.bipush 8, 2) := by decide +kernel
theorem dX8_digestPlatform_10 : decode cX8_digestPlatform 10 = .ok (.if_icmp .ge 26, 3) := by decide +kernel
theorem dX8_digestPlatform_13 : decode cX8_digestPlatform 13 = .ok (.lload 4, 2) := by decide +kernel
theorem dX8_digestPlatform_15 : decode cX8_digestPlatform 15 = .ok (.ldc2_w 226, 3) := by decide +kernel
theorem dX8_digestPlatform_18 : decode cX8_digestPlatform 18 = .ok (.lmul, 1) := by decide +kernel
theorem dX8_digestPlatform_19 : decode cX8_digestPlatform 19 = .ok (.aload_n 0, 1) := by decide +kernel
theorem dX8_digestPlatform_20 : decode cX8_digestPlatform 20 = .ok (.iload_n 3, 1) := by decide +kernel
theorem dX8_digestPlatform_21 : decode cX8_digestPlatform 21 = .ok (.iload 6, 2) := by decide +kernel
theorem dX8_digestPlatform_23 : decode cX8_digestPlatform 23 = .ok (.invokevirtual 116, 3) := by decide +kernel
theorem dX8_digestPlatform_26 : decode cX8_digestPlatform 26 = .ok (.i2l, 1) := by decide +kernel
theorem dX8_digestPlatform_27 : decode cX8_digestPlatform 27 = .ok (.ladd, 1) := by decide +kernel
theorem dX8_digestPlatform_28 : decode cX8_digestPlatform 28 = .ok (.lstore 4, 2) := by decide +kernel
theorem dX8_digestPlatform_30 : decode cX8_digestPlatform 30 = .ok (.iinc 6 1, 3) := by decide +kernel
theorem dX8_digestPlatform_33 : decode cX8_digestPlatform 33 = .ok (.goto (-27), 3) := by decide +kernel
theorem dX8_digestPlatform_36 : decode cX8_digestPlatform 36 = .ok (.iconst 0, 1) := by decide +kernel
theorem dX8_digestPlatform_37 : decode cX8_digestPlatform 37 = .ok (.istore 6, 2) := by decide +kernel
theorem dX8_digestPlatform_39 : decode cX8_digestPlatform 39 = .ok (.iload 6, 2) := by decide +kernel
theorem dX8_digestPlatform_41 : decode cX8_digestPlatform 41 = .ok (.aload_n 0, 1) := by decide +kernel
theorem dX8_digestPlatform_42 : decode cX8_digestPlatform 42 = .ok (.getfield 21, 3) := by decide +kernel
theorem dX8_digestPlatform_45 : decode cX8_digestPlatform 45 = .ok (.iload_n 3, 1) := by decide +kernel
theorem dX8_digestPlatform_46 : decode cX8_digestPlatform 46 = .ok (.invokevirtual 169, 3) := by decide +kernel
theorem dX8_digestPlatform_49 : decode cX8_digestPlatform 49 = .ok (.if_icmp .ge 29, 3) := by decide +kernel
theorem dX8_digestPlatform_52 : decode cX8_digestPlatform 52 = .ok (.lload 4, 2) := by decide +kernel
theorem dX8_digestPlatform_54 : decode cX8_digestPlatform 54 = .ok (.ldc2_w 226, 3) := by decide +kernel
theorem dX8_digestPlatform_57 : decode cX8_digestPlatform 57 = .ok (.lmul, 1) := by decide +kernel
theorem dX8_digestPlatform_58 : decode cX8_digestPlatform 58 = .ok (.aload_n 0, 1) := by decide +kernel
theorem dX8_digestPlatform_59 : decode cX8_digestPlatform 59 = .ok (.getfield 21, 3) := by decide +kernel
theorem dX8_digestPlatform_62 : decode cX8_digestPlatform 62 = .ok (.iload_n 3, 1) := by decide +kernel
theorem dX8_digestPlatform_63 : decode cX8_digestPlatform 63 = .ok (.iload 6, 2) := by decide +kernel
theorem dX8_digestPlatform_65 : decode cX8_digestPlatform 65 = .ok (.invokevirtual 174, 3) := by decide +kernel
theorem dX8_digestPlatform_68 : decode cX8_digestPlatform 68 = .ok (.i2l, 1) := by decide +kernel
theorem dX8_digestPlatform_69 : decode cX8_digestPlatform 69 = .ok (.ladd, 1) := by decide +kernel
theorem dX8_digestPlatform_70 : decode cX8_digestPlatform 70 = .ok (.lstore 4, 2) := by decide +kernel
theorem dX8_digestPlatform_72 : decode cX8_digestPlatform 72 = .ok (.iinc 6 1, 3) := by decide +kernel
theorem dX8_digestPlatform_75 : decode cX8_digestPlatform 75 = .ok (.goto (-36), 3) := by decide +kernel
theorem dX8_digestPlatform_78 : decode cX8_digestPlatform 78 = .ok (.lload 4, 2) := by decide +kernel
theorem dX8_digestPlatform_80 : decode cX8_digestPlatform 80 = .ok (.lreturn, 1) := by decide +kernel
theorem dX8_platformFact_0 : decode cX8_platformFact 0 = .ok (.aload_n 0, 1) := by decide +kernel
theorem dX8_platformFact_1 : decode cX8_platformFact 1 = .ok (.getfield 10, 3) := by decide +kernel
theorem dX8_platformFact_4 : decode cX8_platformFact 4 = .ok (.getfield 232, 3) := by decide +kernel
theorem dX8_platformFact_7 : decode cX8_platformFact 7 = .ok (.iload_n 1, 1) := by decide +kernel
theorem dX8_platformFact_8 : decode cX8_platformFact 8 = .ok (.aaload, 1) := by decide +kernel
theorem dX8_platformFact_9 : decode cX8_platformFact 9 = .ok (.astore_n 3, 1) := by decide +kernel
theorem dX8_platformFact_10 : decode cX8_platformFact 10 = .ok (.iload_n 2, 1) := by decide +kernel
theorem dX8_platformFact_11 : decode cX8_platformFact 11 = .ok (.tableswitch 93 0 6 #[41, 46, 51, 56, 65, 75, 84], 41) := by decide +kernel
theorem dX8_platformFact_52 : decode cX8_platformFact 52 = .ok (.aload_n 3, 1) := by decide +kernel
theorem dX8_platformFact_53 : decode cX8_platformFact 53 = .ok (.getfield 236, 3) := by decide +kernel
theorem dX8_platformFact_56 : decode cX8_platformFact 56 = .ok (.ireturn, 1) := by decide +kernel
theorem dX8_platformFact_57 : decode cX8_platformFact 57 = .ok (.aload_n 3, 1) := by decide +kernel
theorem dX8_platformFact_58 : decode cX8_platformFact 58 = .ok (.getfield 241, 3) := by decide +kernel
theorem dX8_platformFact_61 : decode cX8_platformFact 61 = .ok (.ireturn, 1) := by decide +kernel
theorem dX8_platformFact_62 : decode cX8_platformFact 62 = .ok (.aload_n 3, 1) := by decide +kernel
theorem dX8_platformFact_63 : decode cX8_platformFact 63 = .ok (.getfield 244, 3) := by decide +kernel
theorem dX8_platformFact_66 : decode cX8_platformFact 66 = .ok (.ireturn, 1) := by decide +kernel
theorem dX8_platformFact_67 : decode cX8_platformFact 67 = .ok (.aload_n 0, 1) := by decide +kernel
theorem dX8_platformFact_68 : decode cX8_platformFact 68 = .ok (.getfield 21, 3) := by decide +kernel
theorem dX8_platformFact_71 : decode cX8_platformFact 71 = .ok (.iload_n 1, 1) := by decide +kernel
theorem dX8_platformFact_72 : decode cX8_platformFact 72 = .ok (.invokevirtual 169, 3) := by decide +kernel
theorem dX8_platformFact_75 : decode cX8_platformFact 75 = .ok (.ireturn, 1) := by decide +kernel
theorem dX8_platformFact_76 : decode cX8_platformFact 76 = .ok (.aload_n 0, 1) := by decide +kernel
theorem dX8_platformFact_77 : decode cX8_platformFact 77 = .ok (.getfield 21, 3) := by decide +kernel
theorem dX8_platformFact_80 : decode cX8_platformFact 80 = .ok (.iload_n 1, 1) := by decide +kernel
theorem dX8_platformFact_81 : decode cX8_platformFact 81 = .ok (.iconst 0, 1) := by decide +kernel
theorem dX8_platformFact_82 : decode cX8_platformFact 82 = .ok (.invokevirtual 174, 3) := by decide +kernel
theorem dX8_platformFact_85 : decode cX8_platformFact 85 = .ok (.ireturn, 1) := by decide +kernel
theorem dX8_platformFact_86 : decode cX8_platformFact 86 = .ok (.aload_n 0, 1) := by decide +kernel
theorem dX8_platformFact_87 : decode cX8_platformFact 87 = .ok (.getfield 10, 3) := by decide +kernel
theorem dX8_platformFact_90 : decode cX8_platformFact 90 = .ok (.iload_n 1, 1) := by decide +kernel
theorem dX8_platformFact_91 : decode cX8_platformFact 91 = .ok (.invokevirtual 247, 3) := by decide +kernel
theorem dX8_platformFact_94 : decode cX8_platformFact 94 = .ok (.ireturn, 1) := by decide +kernel
theorem dX8_platformFact_95 : decode cX8_platformFact 95 = .ok (.aload_n 0, 1) := by decide +kernel
theorem dX8_platformFact_96 : decode cX8_platformFact 96 = .ok (.getfield 10, 3) := by decide +kernel
theorem dX8_platformFact_99 : decode cX8_platformFact 99 = .ok (.iload_n 1, 1) := by decide +kernel
theorem dX8_platformFact_100 : decode cX8_platformFact 100 = .ok (.invokevirtual 250, 3) := by decide +kernel
theorem dX8_platformFact_103 : decode cX8_platformFact 103 = .ok (.ireturn, 1) := by decide +kernel
theorem dX8_platformFact_104 : decode cX8_platformFact 104 = .ok (.aload_n 0, 1) := by decide +kernel
theorem dX8_platformFact_105 : decode cX8_platformFact 105 = .ok (.getfield 21, 3) := by decide +kernel
theorem dX8_platformFact_108 : decode cX8_platformFact 108 = .ok (.iload_n 1, 1) := by decide +kernel
theorem dX8_platformFact_109 : decode cX8_platformFact 109 = .ok (.invokevirtual 253, 3) := by decide +kernel
theorem dX8_platformFact_112 : decode cX8_platformFact 112 = .ok (.ireturn, 1) := by decide +kernel
theorem dX8_lineFact_0 : decode cX8_lineFact 0 = .ok (.aload_n 0, 1) := by decide +kernel
theorem dX8_lineFact_1 : decode cX8_lineFact 1 = .ok (.getfield 10, 3) := by decide +kernel
theorem dX8_lineFact_4 : decode cX8_lineFact 4 = .ok (.getfield 130, 3) := by decide +kernel
theorem dX8_lineFact_7 : decode cX8_lineFact 7 = .ok (.iload_n 1, 1) := by decide +kernel
theorem dX8_lineFact_8 : decode cX8_lineFact 8 = .ok (.aaload, 1) := by decide +kernel
theorem dX8_lineFact_9 : decode cX8_lineFact 9 = .ok (.astore_n 3, 1) := by decide +kernel
theorem dX8_lineFact_10 : decode cX8_lineFact 10 = .ok (.aload_n 0, 1) := by decide +kernel
theorem dX8_lineFact_11 : decode cX8_lineFact 11 = .ok (.getfield 21, 3) := by decide +kernel
theorem dX8_lineFact_14 : decode cX8_lineFact 14 = .ok (.getfield 94, 3) := by decide +kernel
theorem dX8_lineFact_17 : decode cX8_lineFact 17 = .ok (.iload_n 1, 1) := by decide +kernel
theorem dX8_lineFact_18 : decode cX8_lineFact 18 = .ok (.aaload, 1) := by decide +kernel
theorem dX8_lineFact_19 : decode cX8_lineFact 19 = .ok (.astore 4, 2) := by decide +kernel
theorem dX8_lineFact_21 : decode cX8_lineFact 21 = .ok (.iload_n 2, 1) := by decide +kernel
theorem dX8_lineFact_22 : decode cX8_lineFact 22 = .ok (.tableswitch 109 0 9 #[54, 59, 64, 69, 74, 79, 85, 91, 97, 103], 54) := by decide +kernel
theorem dX8_lineFact_76 : decode cX8_lineFact 76 = .ok (.aload_n 3, 1) := by decide +kernel
theorem dX8_lineFact_77 : decode cX8_lineFact 77 = .ok (.getfield 256, 3) := by decide +kernel
theorem dX8_lineFact_80 : decode cX8_lineFact 80 = .ok (.ireturn, 1) := by decide +kernel
theorem dX8_lineFact_81 : decode cX8_lineFact 81 = .ok (.aload_n 3, 1) := by decide +kernel
theorem dX8_lineFact_82 : decode cX8_lineFact 82 = .ok (.getfield 259, 3) := by decide +kernel
theorem dX8_lineFact_85 : decode cX8_lineFact 85 = .ok (.ireturn, 1) := by decide +kernel
theorem dX8_lineFact_86 : decode cX8_lineFact 86 = .ok (.aload_n 3, 1) := by decide +kernel
theorem dX8_lineFact_87 : decode cX8_lineFact 87 = .ok (.getfield 262, 3) := by decide +kernel
theorem dX8_lineFact_90 : decode cX8_lineFact 90 = .ok (.ireturn, 1) := by decide +kernel
theorem dX8_lineFact_91 : decode cX8_lineFact 91 = .ok (.aload_n 3, 1) := by decide +kernel
theorem dX8_lineFact_92 : decode cX8_lineFact 92 = .ok (.getfield 265, 3) := by decide +kernel
theorem dX8_lineFact_95 : decode cX8_lineFact 95 = .ok (.ireturn, 1) := by decide +kernel
theorem dX8_lineFact_96 : decode cX8_lineFact 96 = .ok (.aload_n 3, 1) := by decide +kernel
theorem dX8_lineFact_97 : decode cX8_lineFact 97 = .ok (.getfield 268, 3) := by decide +kernel
theorem dX8_lineFact_100 : decode cX8_lineFact 100 = .ok (.ireturn, 1) := by decide +kernel
theorem dX8_lineFact_101 : decode cX8_lineFact 101 = .ok (.aload 4, 2) := by decide +kernel
theorem dX8_lineFact_103 : decode cX8_lineFact 103 = .ok (.invokevirtual 98, 3) := by decide +kernel
theorem dX8_lineFact_106 : decode cX8_lineFact 106 = .ok (.ireturn, 1) := by decide +kernel
theorem dX8_lineFact_107 : decode cX8_lineFact 107 = .ok (.aload 4, 2) := by decide +kernel
theorem dX8_lineFact_109 : decode cX8_lineFact 109 = .ok (.getfield 271, 3) := by decide +kernel
theorem dX8_lineFact_112 : decode cX8_lineFact 112 = .ok (.ireturn, 1) := by decide +kernel
theorem dX8_lineFact_113 : decode cX8_lineFact 113 = .ok (.aload 4, 2) := by decide +kernel
theorem dX8_lineFact_115 : decode cX8_lineFact 115 = .ok (.invokevirtual 274, 3) := by decide +kernel
theorem dX8_lineFact_118 : decode cX8_lineFact 118 = .ok (.ireturn, 1) := by decide +kernel
theorem dX8_lineFact_119 : decode cX8_lineFact 119 = .ok (.aload 4, 2) := by decide +kernel
theorem dX8_lineFact_121 : decode cX8_lineFact 121 = .ok (.getfield 277, 3) := by decide +kernel
theorem dX8_lineFact_124 : decode cX8_lineFact 124 = .ok (.ireturn, 1) := by decide +kernel
theorem dX8_lineFact_125 : decode cX8_lineFact 125 = .ok (.aload 4, 2) := by decide +kernel
theorem dX8_lineFact_127 : decode cX8_lineFact 127 = .ok (.getfield 280, 3) := by decide +kernel
theorem dX8_lineFact_130 : decode cX8_lineFact 130 = .ok (.ireturn, 1) := by decide +kernel
theorem dX8_lineFact_131 : decode cX8_lineFact 131 = .ok (.aload_n 0, 1) := by decide +kernel
theorem dX8_lineFact_132 : decode cX8_lineFact 132 = .ok (.getfield 10, 3) := by decide +kernel
theorem dX8_lineFact_135 : decode cX8_lineFact 135 = .ok (.aload_n 3, 1) := by decide +kernel
theorem dX8_lineFact_136 : decode cX8_lineFact 136 = .ok (.aload_n 0, 1) := by decide +kernel
theorem dX8_lineFact_137 : decode cX8_lineFact 137 = .ok (.getfield 21, 3) := by decide +kernel
theorem dX8_lineFact_140 : decode cX8_lineFact 140 = .ok (.getfield 283, 3) := by decide +kernel
theorem dX8_lineFact_143 : decode cX8_lineFact 143 = .ok (.invokevirtual 286, 3) := by decide +kernel
theorem dX8_lineFact_146 : decode cX8_lineFact 146 = .ok (.ifCond .eq 7, 3) := by decide +kernel
theorem dX8_lineFact_149 : decode cX8_lineFact 149 = .ok (.iconst 1, 1) := by decide +kernel
theorem dX8_lineFact_150 : decode cX8_lineFact 150 = .ok (.goto 4, 3) := by decide +kernel
theorem dX8_lineFact_153 : decode cX8_lineFact 153 = .ok (.iconst 0, 1) := by decide +kernel
theorem dX8_lineFact_154 : decode cX8_lineFact 154 = .ok (.ireturn, 1) := by decide +kernel
theorem dX8_riderFact_0 : decode cX8_riderFact 0 = .ok (.aload_n 0, 1) := by decide +kernel
theorem dX8_riderFact_1 : decode cX8_riderFact 1 = .ok (.getfield 10, 3) := by decide +kernel
theorem dX8_riderFact_4 : decode cX8_riderFact 4 = .ok (.getfield 290, 3) := by decide +kernel
theorem dX8_riderFact_7 : decode cX8_riderFact 7 = .ok (.iload_n 1, 1) := by decide +kernel
theorem dX8_riderFact_8 : decode cX8_riderFact 8 = .ok (.aaload, 1) := by decide +kernel
theorem dX8_riderFact_9 : decode cX8_riderFact 9 = .ok (.astore_n 3, 1) := by decide +kernel
theorem dX8_riderFact_10 : decode cX8_riderFact 10 = .ok (.aload_n 0, 1) := by decide +kernel
theorem dX8_riderFact_11 : decode cX8_riderFact 11 = .ok (.getfield 21, 3) := by decide +kernel
theorem dX8_riderFact_14 : decode cX8_riderFact 14 = .ok (.getfield 200, 3) := by decide +kernel
theorem dX8_riderFact_17 : decode cX8_riderFact 17 = .ok (.iload_n 1, 1) := by decide +kernel
theorem dX8_riderFact_18 : decode cX8_riderFact 18 = .ok (.aaload, 1) := by decide +kernel
theorem dX8_riderFact_19 : decode cX8_riderFact 19 = .ok (.astore 4, 2) := by decide +kernel
theorem dX8_riderFact_21 : decode cX8_riderFact 21 = .ok (.iload_n 2, 1) := by decide +kernel
theorem dX8_riderFact_22 : decode cX8_riderFact 22 = .ok (.tableswitch 153 0 9 #[54, 59, 64, 69, 75, 81, 87, 93, 122, 147], 54) := by decide +kernel
theorem dX8_riderFact_76 : decode cX8_riderFact 76 = .ok (.aload_n 3, 1) := by decide +kernel
theorem dX8_riderFact_77 : decode cX8_riderFact 77 = .ok (.getfield 294, 3) := by decide +kernel
theorem dX8_riderFact_80 : decode cX8_riderFact 80 = .ok (.ireturn, 1) := by decide +kernel
theorem dX8_riderFact_81 : decode cX8_riderFact 81 = .ok (.aload_n 3, 1) := by decide +kernel
theorem dX8_riderFact_82 : decode cX8_riderFact 82 = .ok (.getfield 299, 3) := by decide +kernel
theorem dX8_riderFact_85 : decode cX8_riderFact 85 = .ok (.ireturn, 1) := by decide +kernel
theorem dX8_riderFact_86 : decode cX8_riderFact 86 = .ok (.aload_n 3, 1) := by decide +kernel
theorem dX8_riderFact_87 : decode cX8_riderFact 87 = .ok (.getfield 302, 3) := by decide +kernel
theorem dX8_riderFact_90 : decode cX8_riderFact 90 = .ok (.ireturn, 1) := by decide +kernel
theorem dX8_riderFact_91 : decode cX8_riderFact 91 = .ok (.aload 4, 2) := by decide +kernel
theorem dX8_riderFact_93 : decode cX8_riderFact 93 = .ok (.getfield 221, 3) := by decide +kernel
theorem dX8_riderFact_96 : decode cX8_riderFact 96 = .ok (.ireturn, 1) := by decide +kernel
theorem dX8_riderFact_97 : decode cX8_riderFact 97 = .ok (.aload 4, 2) := by decide +kernel
theorem dX8_riderFact_99 : decode cX8_riderFact 99 = .ok (.getfield 305, 3) := by decide +kernel
theorem dX8_riderFact_102 : decode cX8_riderFact 102 = .ok (.ireturn, 1) := by decide +kernel
theorem dX8_riderFact_103 : decode cX8_riderFact 103 = .ok (.aload 4, 2) := by decide +kernel
theorem dX8_riderFact_105 : decode cX8_riderFact 105 = .ok (.getfield 308, 3) := by decide +kernel
theorem dX8_riderFact_108 : decode cX8_riderFact 108 = .ok (.ireturn, 1) := by decide +kernel
theorem dX8_riderFact_109 : decode cX8_riderFact 109 = .ok (.aload 4, 2) := by decide +kernel
theorem dX8_riderFact_111 : decode cX8_riderFact 111 = .ok (.getfield 311, 3) := by decide +kernel
theorem dX8_riderFact_114 : decode cX8_riderFact 114 = .ok (.ireturn, 1) := by decide +kernel
theorem dX8_riderFact_115 : decode cX8_riderFact 115 = .ok (.aload 4, 2) := by decide +kernel
theorem dX8_riderFact_117 : decode cX8_riderFact 117 = .ok (.getfield 221, 3) := by decide +kernel
theorem dX8_riderFact_120 : decode cX8_riderFact 120 = .ok (.ifCond .ne 22, 3) := by decide +kernel
theorem dX8_riderFact_123 : decode cX8_riderFact 123 = .ok (.aload_n 3, 1) := by decide +kernel
theorem dX8_riderFact_124 : decode cX8_riderFact 124 = .ok (.getfield 314, 3) := by decide +kernel
theorem dX8_riderFact_127 : decode cX8_riderFact 127 = .ok (.aload 4, 2) := by decide +kernel
theorem dX8_riderFact_129 : decode cX8_riderFact 129 = .ok (.getfield 305, 3) := by decide +kernel
theorem dX8_riderFact_132 : decode cX8_riderFact 132 = .ok (.invokevirtual 191, 3) := by decide +kernel
theorem dX8_riderFact_135 : decode cX8_riderFact 135 = .ok (.iconst 0, 1) := by decide +kernel
theorem dX8_riderFact_136 : decode cX8_riderFact 136 = .ok (.invokestatic 317, 3) := by decide +kernel
theorem dX8_riderFact_139 : decode cX8_riderFact 139 = .ok (.goto 4, 3) := by decide +kernel
theorem dX8_riderFact_142 : decode cX8_riderFact 142 = .ok (.iconst 0, 1) := by decide +kernel
theorem dX8_riderFact_143 : decode cX8_riderFact 143 = .ok (.ireturn, 1) := by decide +kernel
theorem dX8_riderFact_144 : decode cX8_riderFact 144 = .ok (.aload 4, 2) := by decide +kernel
theorem dX8_riderFact_146 : decode cX8_riderFact 146 = .ok (.getfield 221, 3) := by decide +kernel
theorem dX8_riderFact_149 : decode cX8_riderFact 149 = .ok (.ifCond .ne 18, 3) := by decide +kernel
theorem dX8_riderFact_152 : decode cX8_riderFact 152 = .ok (.aload_n 3, 1) := by decide +kernel
theorem dX8_riderFact_153 : decode cX8_riderFact 153 = .ok (.getfield 314, 3) := by decide +kernel
theorem dX8_riderFact_156 : decode cX8_riderFact 156 = .ok (.aload 4, 2) := by decide +kernel
theorem dX8_riderFact_158 : decode cX8_riderFact 158 = .ok (.getfield 305, 3) := by decide +kernel
theorem dX8_riderFact_161 : decode cX8_riderFact 161 = .ok (.invokevirtual 322, 3) := by decide +kernel
theorem dX8_riderFact_164 : decode cX8_riderFact 164 = .ok (.goto 4, 3) := by decide +kernel
theorem dX8_riderFact_167 : decode cX8_riderFact 167 = .ok (.iconst (-1), 1) := by decide +kernel
theorem dX8_riderFact_168 : decode cX8_riderFact 168 = .ok (.ireturn, 1) := by decide +kernel
theorem dX8_riderFact_169 : decode cX8_riderFact 169 = .ok (.aload 4, 2) := by decide +kernel
theorem dX8_riderFact_171 : decode cX8_riderFact 171 = .ok (.getfield 325, 3) := by decide +kernel
theorem dX8_riderFact_174 : decode cX8_riderFact 174 = .ok (.ireturn, 1) := by decide +kernel
theorem dX8_riderFact_175 : decode cX8_riderFact 175 = .ok (.aload 4, 2) := by decide +kernel
theorem dX8_riderFact_177 : decode cX8_riderFact 177 = .ok (.getfield 213, 3) := by decide +kernel
theorem dX8_riderFact_180 : decode cX8_riderFact 180 = .ok (.ireturn, 1) := by decide +kernel
theorem dX8_countFact_0 : decode cX8_countFact 0 = .ok (.iload_n 1, 1) := by decide +kernel
theorem dX8_countFact_1 : decode cX8_countFact 1 = .ok (.tableswitch 127 0 8 #[51, 59, 67, 75, 83, 92, 101, 110, 119], 51) := by decide +kernel
theorem dX8_countFact_52 : decode cX8_countFact 52 = .ok (.aload_n 0, 1) := by decide +kernel
theorem dX8_countFact_53 : decode cX8_countFact 53 = .ok (.getfield 21, 3) := by decide +kernel
theorem dX8_countFact_56 : decode cX8_countFact 56 = .ok (.getfield 283, 3) := by decide +kernel
theorem dX8_countFact_59 : decode cX8_countFact 59 = .ok (.ireturn, 1) := by decide +kernel
theorem dX8_countFact_60 : decode cX8_countFact 60 = .ok (.aload_n 0, 1) := by decide +kernel
theorem dX8_countFact_61 : decode cX8_countFact 61 = .ok (.getfield 10, 3) := by decide +kernel
theorem dX8_countFact_64 : decode cX8_countFact 64 = .ok (.getfield 50, 3) := by decide +kernel
theorem dX8_countFact_67 : decode cX8_countFact 67 = .ok (.ireturn, 1) := by decide +kernel
theorem dX8_countFact_68 : decode cX8_countFact 68 = .ok (.aload_n 0, 1) := by decide +kernel
theorem dX8_countFact_69 : decode cX8_countFact 69 = .ok (.getfield 10, 3) := by decide +kernel
theorem dX8_countFact_72 : decode cX8_countFact 72 = .ok (.getfield 77, 3) := by decide +kernel
theorem dX8_countFact_75 : decode cX8_countFact 75 = .ok (.ireturn, 1) := by decide +kernel
theorem dX8_countFact_76 : decode cX8_countFact 76 = .ok (.aload_n 0, 1) := by decide +kernel
theorem dX8_countFact_77 : decode cX8_countFact 77 = .ok (.getfield 10, 3) := by decide +kernel
theorem dX8_countFact_80 : decode cX8_countFact 80 = .ok (.getfield 150, 3) := by decide +kernel
theorem dX8_countFact_83 : decode cX8_countFact 83 = .ok (.ireturn, 1) := by decide +kernel
theorem dX8_countFact_84 : decode cX8_countFact 84 = .ok (.aload_n 0, 1) := by decide +kernel
theorem dX8_countFact_85 : decode cX8_countFact 85 = .ok (.getfield 21, 3) := by decide +kernel
theorem dX8_countFact_88 : decode cX8_countFact 88 = .ok (.iconst 0, 1) := by decide +kernel
theorem dX8_countFact_89 : decode cX8_countFact 89 = .ok (.invokevirtual 328, 3) := by decide +kernel
theorem dX8_countFact_92 : decode cX8_countFact 92 = .ok (.ireturn, 1) := by decide +kernel
theorem dX8_countFact_93 : decode cX8_countFact 93 = .ok (.aload_n 0, 1) := by decide +kernel
theorem dX8_countFact_94 : decode cX8_countFact 94 = .ok (.getfield 21, 3) := by decide +kernel
theorem dX8_countFact_97 : decode cX8_countFact 97 = .ok (.iconst 1, 1) := by decide +kernel
theorem dX8_countFact_98 : decode cX8_countFact 98 = .ok (.invokevirtual 328, 3) := by decide +kernel
theorem dX8_countFact_101 : decode cX8_countFact 101 = .ok (.ireturn, 1) := by decide +kernel
theorem dX8_countFact_102 : decode cX8_countFact 102 = .ok (.aload_n 0, 1) := by decide +kernel
theorem dX8_countFact_103 : decode cX8_countFact 103 = .ok (.getfield 21, 3) := by decide +kernel
theorem dX8_countFact_106 : decode cX8_countFact 106 = .ok (.iconst 2, 1) := by decide +kernel
theorem dX8_countFact_107 : decode cX8_countFact 107 = .ok (.invokevirtual 328, 3) := by decide +kernel
theorem dX8_countFact_110 : decode cX8_countFact 110 = .ok (.ireturn, 1) := by decide +kernel
theorem dX8_countFact_111 : decode cX8_countFact 111 = .ok (.aload_n 0, 1) := by decide +kernel
theorem dX8_countFact_112 : decode cX8_countFact 112 = .ok (.getfield 21, 3) := by decide +kernel
theorem dX8_countFact_115 : decode cX8_countFact 115 = .ok (.iconst 3, 1) := by decide +kernel
theorem dX8_countFact_116 : decode cX8_countFact 116 = .ok (.invokevirtual 328, 3) := by decide +kernel
theorem dX8_countFact_119 : decode cX8_countFact 119 = .ok (.ireturn, 1) := by decide +kernel
theorem dX8_countFact_120 : decode cX8_countFact 120 = .ok (.aload_n 0, 1) := by decide +kernel
theorem dX8_countFact_121 : decode cX8_countFact 121 = .ok (.getfield 21, 3) := by decide +kernel
theorem dX8_countFact_124 : decode cX8_countFact 124 = .ok (.invokevirtual 331, 3) := by decide +kernel
theorem dX8_countFact_127 : decode cX8_countFact 127 = .ok (.ireturn, 1) := by decide +kernel
theorem dX8_countFact_128 : decode cX8_countFact 128 = .ok (.aload_n 0, 1) := by decide +kernel
theorem dX8_countFact_129 : decode cX8_countFact 129 = .ok (.getfield 21, 3) := by decide +kernel
theorem dX8_countFact_132 : decode cX8_countFact 132 = .ok (.invokevirtual 334, 3) := by decide +kernel
theorem dX8_countFact_135 : decode cX8_countFact 135 = .ok (.ireturn, 1) := by decide +kernel
end
section
theorem dX9_init_0 : decode cX9_init 0 = .ok (.aload_n 0, 1) := by decide +kernel
theorem dX9_init_1 : decode cX9_init 1 = .ok (.aload_n 1, 1) := by decide +kernel
theorem dX9_init_2 : decode cX9_init 2 = .ok (.putfield 3, 3) := by decide +kernel
theorem dX9_init_5 : decode cX9_init 5 = .ok (.aload_n 0, 1) := by decide +kernel
theorem dX9_init_6 : decode cX9_init 6 = .ok (.invokespecial 9, 3) := by decide +kernel
theorem dX9_init_9 : decode cX9_init 9 = .ok (.aload_n 0, 1) := by decide +kernel
theorem dX9_init_10 : decode cX9_init 10 = .ok (.bipush 12, 2) := by decide +kernel
theorem dX9_init_12 : decode cX9_init 12 = .ok (.newarray .int, 2) := by decide +kernel
theorem dX9_init_14 : decode cX9_init 14 = .ok (.putfield 15, 3) := by decide +kernel
theorem dX9_init_17 : decode cX9_init 17 = .ok (.aload_n 0, 1) := by decide +kernel
theorem dX9_init_18 : decode cX9_init 18 = .ok (.bipush 12, 2) := by decide +kernel
theorem dX9_init_20 : decode cX9_init 20 = .ok (.newarray .int, 2) := by decide +kernel
theorem dX9_init_22 : decode cX9_init 22 = .ok (.putfield 19, 3) := by decide +kernel
theorem dX9_init_25 : decode cX9_init 25 = .ok (.aload_n 0, 1) := by decide +kernel
theorem dX9_init_26 : decode cX9_init 26 = .ok (.bipush 36, 2) := by decide +kernel
theorem dX9_init_28 : decode cX9_init 28 = .ok (.newarray .int, 2) := by decide +kernel
theorem dX9_init_30 : decode cX9_init 30 = .ok (.putfield 22, 3) := by decide +kernel
theorem dX9_init_33 : decode cX9_init 33 = .ok (.aload_n 0, 1) := by decide +kernel
theorem dX9_init_34 : decode cX9_init 34 = .ok (.bipush 36, 2) := by decide +kernel
theorem dX9_init_36 : decode cX9_init 36 = .ok (.newarray .int, 2) := by decide +kernel
theorem dX9_init_38 : decode cX9_init 38 = .ok (.putfield 25, 3) := by decide +kernel
theorem dX9_init_41 : decode cX9_init 41 = .ok (.aload_n 0, 1) := by decide +kernel
theorem dX9_init_42 : decode cX9_init 42 = .ok (.bipush 12, 2) := by decide +kernel
theorem dX9_init_44 : decode cX9_init 44 = .ok (.newarray .int, 2) := by decide +kernel
theorem dX9_init_46 : decode cX9_init 46 = .ok (.putfield 28, 3) := by decide +kernel
theorem dX9_init_49 : decode cX9_init 49 = .ok (.aload_n 0, 1) := by decide +kernel
theorem dX9_init_50 : decode cX9_init 50 = .ok (.bipush 12, 2) := by decide +kernel
theorem dX9_init_52 : decode cX9_init 52 = .ok (.newarray .int, 2) := by decide +kernel
theorem dX9_init_54 : decode cX9_init 54 = .ok (.putfield 31, 3) := by decide +kernel
theorem dX9_init_57 : decode cX9_init 57 = .ok (.aload_n 0, 1) := by decide +kernel
theorem dX9_init_58 : decode cX9_init 58 = .ok (.bipush 8, 2) := by decide +kernel
theorem dX9_init_60 : decode cX9_init 60 = .ok (.newarray .int, 2) := by decide +kernel
theorem dX9_init_62 : decode cX9_init 62 = .ok (.putfield 34, 3) := by decide +kernel
theorem dX9_init_65 : decode cX9_init 65 = .ok (.aload_n 0, 1) := by decide +kernel
theorem dX9_init_66 : decode cX9_init 66 = .ok (.bipush 96, 2) := by decide +kernel
theorem dX9_init_68 : decode cX9_init 68 = .ok (.newarray .int, 2) := by decide +kernel
theorem dX9_init_70 : decode cX9_init 70 = .ok (.putfield 37, 3) := by decide +kernel
theorem dX9_init_73 : decode cX9_init 73 = .ok (.aload_n 0, 1) := by decide +kernel
theorem dX9_init_74 : decode cX9_init 74 = .ok (.bipush 12, 2) := by decide +kernel
theorem dX9_init_76 : decode cX9_init 76 = .ok (.newarray .int, 2) := by decide +kernel
theorem dX9_init_78 : decode cX9_init 78 = .ok (.putfield 40, 3) := by decide +kernel
theorem dX9_init_81 : decode cX9_init 81 = .ok (.aload_n 0, 1) := by decide +kernel
theorem dX9_init_82 : decode cX9_init 82 = .ok (.bipush 12, 2) := by decide +kernel
theorem dX9_init_84 : decode cX9_init 84 = .ok (.newarray .int, 2) := by decide +kernel
theorem dX9_init_86 : decode cX9_init 86 = .ok (.putfield 43, 3) := by decide +kernel
theorem dX9_init_89 : decode cX9_init 89 = .ok (.aload_n 0, 1) := by decide +kernel
theorem dX9_init_90 : decode cX9_init 90 = .ok (.bipush 12, 2) := by decide +kernel
theorem dX9_init_92 : decode cX9_init 92 = .ok (.newarray .int, 2) := by decide +kernel
theorem dX9_init_94 : decode cX9_init 94 = .ok (.putfield 46, 3) := by decide +kernel
theorem dX9_init_97 : decode cX9_init 97 = .ok (.aload_n 0, 1) := by decide +kernel
theorem dX9_init_98 : decode cX9_init 98 = .ok (.bipush 12, 2) := by decide +kernel
theorem dX9_init_100 : decode cX9_init 100 = .ok (.newarray .int, 2) := by decide +kernel
theorem dX9_init_102 : decode cX9_init 102 = .ok (.putfield 49, 3) := by decide +kernel
theorem dX9_init_105 : decode cX9_init 105 = .ok (.aload_n 0, 1) := by decide +kernel
theorem dX9_init_106 : decode cX9_init 106 = .ok (.bipush 12, 2) := by decide +kernel
theorem dX9_init_108 : decode cX9_init 108 = .ok (.newarray .int, 2) := by decide +kernel
theorem dX9_init_110 : decode cX9_init 110 = .ok (.putfield 52, 3) := by decide +kernel
theorem dX9_init_113 : decode cX9_init 113 = .ok (.return_, 1) := by decide +kernel
theorem dX9_copy_0 : decode cX9_copy 0 = .ok (.aload_n 1, 1) := by decide +kernel
theorem dX9_copy_1 : decode cX9_copy 1 = .ok (.iconst 0, 1) := by decide +kernel
theorem dX9_copy_2 : decode cX9_copy 2 = .ok (.aload_n 2, 1) := by decide +kernel
theorem dX9_copy_3 : decode cX9_copy 3 = .ok (.iconst 0, 1) := by decide +kernel
theorem dX9_copy_4 : decode cX9_copy 4 = .ok (.aload_n 1, 1) := by decide +kernel
theorem dX9_copy_5 : decode cX9_copy 5 = .ok (.arraylength, 1) := by decide +kernel
theorem dX9_copy_6 : decode cX9_copy 6 = .ok (.invokestatic 55, 3) := by decide +kernel
theorem dX9_copy_9 : decode cX9_copy 9 = .ok (.return_, 1) := by decide +kernel
theorem dX9_become_0 : decode cX9_become 0 = .ok (.aload_n 0, 1) := by decide +kernel
theorem dX9_become_1 : decode cX9_become 1 = .ok (.aload_n 1, 1) := by decide +kernel
theorem dX9_become_2 : decode cX9_become 2 = .ok (.getfield 61, 3) := by decide +kernel
theorem dX9_become_5 : decode cX9_become 5 = .ok (.putfield 61, 3) := by decide +kernel
theorem dX9_become_8 : decode cX9_become 8 = .ok (.aload_n 0, 1) := by decide +kernel
theorem dX9_become_9 : decode cX9_become 9 = .ok (.aload_n 1, 1) := by decide +kernel
theorem dX9_become_10 : decode cX9_become 10 = .ok (.getfield 15, 3) := by decide +kernel
theorem dX9_become_13 : decode cX9_become 13 = .ok (.aload_n 0, 1) := by decide +kernel
theorem dX9_become_14 : decode cX9_become 14 = .ok (.getfield 15, 3) := by decide +kernel
theorem dX9_become_17 : decode cX9_become 17 = .ok (.invokevirtual 65, 3) := by decide +kernel
theorem dX9_become_20 : decode cX9_become 20 = .ok (.aload_n 0, 1) := by decide +kernel
theorem dX9_become_21 : decode cX9_become 21 = .ok (.aload_n 1, 1) := by decide +kernel
theorem dX9_become_22 : decode cX9_become 22 = .ok (.getfield 19, 3) := by decide +kernel
theorem dX9_become_25 : decode cX9_become 25 = .ok (.aload_n 0, 1) := by decide +kernel
theorem dX9_become_26 : decode cX9_become 26 = .ok (.getfield 19, 3) := by decide +kernel
theorem dX9_become_29 : decode cX9_become 29 = .ok (.invokevirtual 65, 3) := by decide +kernel
theorem dX9_become_32 : decode cX9_become 32 = .ok (.aload_n 0, 1) := by decide +kernel
theorem dX9_become_33 : decode cX9_become 33 = .ok (.aload_n 1, 1) := by decide +kernel
theorem dX9_become_34 : decode cX9_become 34 = .ok (.getfield 22, 3) := by decide +kernel
theorem dX9_become_37 : decode cX9_become 37 = .ok (.aload_n 0, 1) := by decide +kernel
theorem dX9_become_38 : decode cX9_become 38 = .ok (.getfield 22, 3) := by decide +kernel
theorem dX9_become_41 : decode cX9_become 41 = .ok (.invokevirtual 65, 3) := by decide +kernel
theorem dX9_become_44 : decode cX9_become 44 = .ok (.aload_n 0, 1) := by decide +kernel
theorem dX9_become_45 : decode cX9_become 45 = .ok (.aload_n 1, 1) := by decide +kernel
theorem dX9_become_46 : decode cX9_become 46 = .ok (.getfield 25, 3) := by decide +kernel
theorem dX9_become_49 : decode cX9_become 49 = .ok (.aload_n 0, 1) := by decide +kernel
theorem dX9_become_50 : decode cX9_become 50 = .ok (.getfield 25, 3) := by decide +kernel
theorem dX9_become_53 : decode cX9_become 53 = .ok (.invokevirtual 65, 3) := by decide +kernel
theorem dX9_become_56 : decode cX9_become 56 = .ok (.aload_n 0, 1) := by decide +kernel
theorem dX9_become_57 : decode cX9_become 57 = .ok (.aload_n 1, 1) := by decide +kernel
theorem dX9_become_58 : decode cX9_become 58 = .ok (.getfield 28, 3) := by decide +kernel
theorem dX9_become_61 : decode cX9_become 61 = .ok (.aload_n 0, 1) := by decide +kernel
theorem dX9_become_62 : decode cX9_become 62 = .ok (.getfield 28, 3) := by decide +kernel
theorem dX9_become_65 : decode cX9_become 65 = .ok (.invokevirtual 65, 3) := by decide +kernel
theorem dX9_become_68 : decode cX9_become 68 = .ok (.aload_n 0, 1) := by decide +kernel
theorem dX9_become_69 : decode cX9_become 69 = .ok (.aload_n 1, 1) := by decide +kernel
theorem dX9_become_70 : decode cX9_become 70 = .ok (.getfield 31, 3) := by decide +kernel
theorem dX9_become_73 : decode cX9_become 73 = .ok (.aload_n 0, 1) := by decide +kernel
theorem dX9_become_74 : decode cX9_become 74 = .ok (.getfield 31, 3) := by decide +kernel
theorem dX9_become_77 : decode cX9_become 77 = .ok (.invokevirtual 65, 3) := by decide +kernel
theorem dX9_become_80 : decode cX9_become 80 = .ok (.aload_n 0, 1) := by decide +kernel
theorem dX9_become_81 : decode cX9_become 81 = .ok (.aload_n 1, 1) := by decide +kernel
theorem dX9_become_82 : decode cX9_become 82 = .ok (.getfield 34, 3) := by decide +kernel
theorem dX9_become_85 : decode cX9_become 85 = .ok (.aload_n 0, 1) := by decide +kernel
theorem dX9_become_86 : decode cX9_become 86 = .ok (.getfield 34, 3) := by decide +kernel
theorem dX9_become_89 : decode cX9_become 89 = .ok (.invokevirtual 65, 3) := by decide +kernel
theorem dX9_become_92 : decode cX9_become 92 = .ok (.aload_n 0, 1) := by decide +kernel
theorem dX9_become_93 : decode cX9_become 93 = .ok (.aload_n 1, 1) := by decide +kernel
theorem dX9_become_94 : decode cX9_become 94 = .ok (.getfield 37, 3) := by decide +kernel
theorem dX9_become_97 : decode cX9_become 97 = .ok (.aload_n 0, 1) := by decide +kernel
theorem dX9_become_98 : decode cX9_become 98 = .ok (.getfield 37, 3) := by decide +kernel
theorem dX9_become_101 : decode cX9_become 101 = .ok (.invokevirtual 65, 3) := by decide +kernel
theorem dX9_become_104 : decode cX9_become 104 = .ok (.aload_n 0, 1) := by decide +kernel
theorem dX9_become_105 : decode cX9_become 105 = .ok (.aload_n 1, 1) := by decide +kernel
theorem dX9_become_106 : decode cX9_become 106 = .ok (.getfield 40, 3) := by decide +kernel
theorem dX9_become_109 : decode cX9_become 109 = .ok (.aload_n 0, 1) := by decide +kernel
theorem dX9_become_110 : decode cX9_become 110 = .ok (.getfield 40, 3) := by decide +kernel
theorem dX9_become_113 : decode cX9_become 113 = .ok (.invokevirtual 65, 3) := by decide +kernel
theorem dX9_become_116 : decode cX9_become 116 = .ok (.aload_n 0, 1) := by decide +kernel
theorem dX9_become_117 : decode cX9_become 117 = .ok (.aload_n 1, 1) := by decide +kernel
theorem dX9_become_118 : decode cX9_become 118 = .ok (.getfield 43, 3) := by decide +kernel
theorem dX9_become_121 : decode cX9_become 121 = .ok (.aload_n 0, 1) := by decide +kernel
theorem dX9_become_122 : decode cX9_become 122 = .ok (.getfield 43, 3) := by decide +kernel
theorem dX9_become_125 : decode cX9_become 125 = .ok (.invokevirtual 65, 3) := by decide +kernel
theorem dX9_become_128 : decode cX9_become 128 = .ok (.aload_n 0, 1) := by decide +kernel
theorem dX9_become_129 : decode cX9_become 129 = .ok (.aload_n 1, 1) := by decide +kernel
theorem dX9_become_130 : decode cX9_become 130 = .ok (.getfield 46, 3) := by decide +kernel
theorem dX9_become_133 : decode cX9_become 133 = .ok (.aload_n 0, 1) := by decide +kernel
theorem dX9_become_134 : decode cX9_become 134 = .ok (.getfield 46, 3) := by decide +kernel
theorem dX9_become_137 : decode cX9_become 137 = .ok (.invokevirtual 65, 3) := by decide +kernel
theorem dX9_become_140 : decode cX9_become 140 = .ok (.aload_n 0, 1) := by decide +kernel
theorem dX9_become_141 : decode cX9_become 141 = .ok (.aload_n 1, 1) := by decide +kernel
theorem dX9_become_142 : decode cX9_become 142 = .ok (.getfield 49, 3) := by decide +kernel
theorem dX9_become_145 : decode cX9_become 145 = .ok (.aload_n 0, 1) := by decide +kernel
theorem dX9_become_146 : decode cX9_become 146 = .ok (.getfield 49, 3) := by decide +kernel
theorem dX9_become_149 : decode cX9_become 149 = .ok (.invokevirtual 65, 3) := by decide +kernel
theorem dX9_become_152 : decode cX9_become 152 = .ok (.aload_n 0, 1) := by decide +kernel
theorem dX9_become_153 : decode cX9_become 153 = .ok (.aload_n 1, 1) := by decide +kernel
theorem dX9_become_154 : decode cX9_become 154 = .ok (.getfield 52, 3) := by decide +kernel
theorem dX9_become_157 : decode cX9_become 157 = .ok (.aload_n 0, 1) := by decide +kernel
theorem dX9_become_158 : decode cX9_become 158 = .ok (.getfield 52, 3) := by decide +kernel
theorem dX9_become_161 : decode cX9_become 161 = .ok (.invokevirtual 65, 3) := by decide +kernel
theorem dX9_become_164 : decode cX9_become 164 = .ok (.return_, 1) := by decide +kernel
theorem dX9_many_0 : decode cX9_many 0 = .ok (.iconst 0, 1) := by decide +kernel
theorem dX9_many_1 : decode cX9_many 1 = .ok (.istore_n 2, 1) := by decide +kernel
theorem dX9_many_2 : decode cX9_many 2 = .ok (.iconst 0, 1) := by decide +kernel
theorem dX9_many_3 : decode cX9_many 3 = .ok (.istore_n 3, 1) := by decide +kernel
theorem dX9_many_4 : decode cX9_many 4 = .ok (.iload_n 3, 1) := by decide +kernel
theorem dX9_many_5 : decode cX9_many 5 = .ok (.aload_n 0, 1) := by decide +kernel
theorem dX9_many_6 : decode cX9_many 6 = .ok (.getfield 3, 3) := by decide +kernel
theorem dX9_many_9 : decode cX9_many 9 = .ok (.getfield 69, 3) := by decide +kernel
theorem dX9_many_12 : decode cX9_many 12 = .ok (.if_icmp .ge 27, 3) := by decide +kernel
theorem dX9_many_15 : decode cX9_many 15 = .ok (.iload_n 2, 1) := by decide +kernel
theorem dX9_many_16 : decode cX9_many 16 = .ok (.aload_n 0, 1) := by decide +kernel
theorem dX9_many_17 : decode cX9_many 17 = .ok (.getfield 40, 3) := by decide +kernel
theorem dX9_many_20 : decode cX9_many 20 = .ok (.iload_n 3, 1) := by decide +kernel
theorem dX9_many_21 : decode cX9_many 21 = .ok (.iaload, 1) := by decide +kernel
theorem dX9_many_22 : decode cX9_many 22 = .ok (.iload_n 1, 1) := by decide +kernel
theorem dX9_many_23 : decode cX9_many 23 = .ok (.if_icmp .ne 7, 3) := by decide +kernel
theorem dX9_many_26 : decode cX9_many 26 = .ok (.iconst 1, 1) := by decide +kernel
theorem dX9_many_27 : decode cX9_many 27 = .ok (.goto 4, 3) := by decide +kernel
theorem dX9_many_30 : decode cX9_many 30 = .ok (.iconst 0, 1) := by decide +kernel
theorem dX9_many_31 : decode cX9_many 31 = .ok (.iadd, 1) := by decide +kernel
theorem dX9_many_32 : decode cX9_many 32 = .ok (.istore_n 2, 1) := by decide +kernel
theorem dX9_many_33 : decode cX9_many 33 = .ok (.iinc 3 1, 3) := by decide +kernel
theorem dX9_many_36 : decode cX9_many 36 = .ok (.goto (-32), 3) := by decide +kernel
theorem dX9_many_39 : decode cX9_many 39 = .ok (.iload_n 2, 1) := by decide +kernel
theorem dX9_many_40 : decode cX9_many 40 = .ok (.ireturn, 1) := by decide +kernel
theorem dX9_come_0 : decode cX9_come 0 = .ok (.aload_n 0, 1) := by decide +kernel
theorem dX9_come_1 : decode cX9_come 1 = .ok (.getfield 43, 3) := by decide +kernel
theorem dX9_come_4 : decode cX9_come 4 = .ok (.iload_n 1, 1) := by decide +kernel
theorem dX9_come_5 : decode cX9_come 5 = .ok (.iload_n 2, 1) := by decide +kernel
theorem dX9_come_6 : decode cX9_come 6 = .ok (.iastore, 1) := by decide +kernel
theorem dX9_come_7 : decode cX9_come 7 = .ok (.aload_n 0, 1) := by decide +kernel
theorem dX9_come_8 : decode cX9_come 8 = .ok (.getfield 46, 3) := by decide +kernel
theorem dX9_come_11 : decode cX9_come 11 = .ok (.iload_n 1, 1) := by decide +kernel
theorem dX9_come_12 : decode cX9_come 12 = .ok (.iconst 0, 1) := by decide +kernel
theorem dX9_come_13 : decode cX9_come 13 = .ok (.iastore, 1) := by decide +kernel
theorem dX9_come_14 : decode cX9_come 14 = .ok (.aload_n 0, 1) := by decide +kernel
theorem dX9_come_15 : decode cX9_come 15 = .ok (.getfield 40, 3) := by decide +kernel
theorem dX9_come_18 : decode cX9_come 18 = .ok (.iload_n 1, 1) := by decide +kernel
theorem dX9_come_19 : decode cX9_come 19 = .ok (.iload_n 2, 1) := by decide +kernel
theorem dX9_come_20 : decode cX9_come 20 = .ok (.aload_n 0, 1) := by decide +kernel
theorem dX9_come_21 : decode cX9_come 21 = .ok (.getfield 3, 3) := by decide +kernel
theorem dX9_come_24 : decode cX9_come 24 = .ok (.getfield 72, 3) := by decide +kernel
theorem dX9_come_27 : decode cX9_come 27 = .ok (.iload_n 1, 1) := by decide +kernel
theorem dX9_come_28 : decode cX9_come 28 = .ok (.iaload, 1) := by decide +kernel
theorem dX9_come_29 : decode cX9_come 29 = .ok (.if_icmp .ne 7, 3) := by decide +kernel
theorem dX9_come_32 : decode cX9_come 32 = .ok (.iconst 2, 1) := by decide +kernel
theorem dX9_come_33 : decode cX9_come 33 = .ok (.goto 4, 3) := by decide +kernel
theorem dX9_come_36 : decode cX9_come 36 = .ok (.iconst 0, 1) := by decide +kernel
theorem dX9_come_37 : decode cX9_come 37 = .ok (.iastore, 1) := by decide +kernel
theorem dX9_come_38 : decode cX9_come 38 = .ok (.aload_n 0, 1) := by decide +kernel
theorem dX9_come_39 : decode cX9_come 39 = .ok (.getfield 40, 3) := by decide +kernel
theorem dX9_come_42 : decode cX9_come 42 = .ok (.iload_n 1, 1) := by decide +kernel
theorem dX9_come_43 : decode cX9_come 43 = .ok (.iaload, 1) := by decide +kernel
theorem dX9_come_44 : decode cX9_come 44 = .ok (.iconst 2, 1) := by decide +kernel
theorem dX9_come_45 : decode cX9_come 45 = .ok (.if_icmp .ne 16, 3) := by decide +kernel
theorem dX9_come_48 : decode cX9_come 48 = .ok (.aload_n 0, 1) := by decide +kernel
theorem dX9_come_49 : decode cX9_come 49 = .ok (.getfield 52, 3) := by decide +kernel
theorem dX9_come_52 : decode cX9_come 52 = .ok (.iload_n 1, 1) := by decide +kernel
theorem dX9_come_53 : decode cX9_come 53 = .ok (.aload_n 0, 1) := by decide +kernel
theorem dX9_come_54 : decode cX9_come 54 = .ok (.getfield 61, 3) := by decide +kernel
theorem dX9_come_57 : decode cX9_come 57 = .ok (.iastore, 1) := by decide +kernel
theorem dX9_come_58 : decode cX9_come 58 = .ok (.goto 30, 3) := by decide +kernel
theorem dX9_come_61 : decode cX9_come 61 = .ok (.aload_n 0, 1) := by decide +kernel
theorem dX9_come_62 : decode cX9_come 62 = .ok (.getfield 37, 3) := by decide +kernel
theorem dX9_come_65 : decode cX9_come 65 = .ok (.bipush 12, 2) := by decide +kernel
theorem dX9_come_67 : decode cX9_come 67 = .ok (.iload_n 2, 1) := by decide +kernel
theorem dX9_come_68 : decode cX9_come 68 = .ok (.imul, 1) := by decide +kernel
theorem dX9_come_69 : decode cX9_come 69 = .ok (.aload_n 0, 1) := by decide +kernel
theorem dX9_come_70 : decode cX9_come 70 = .ok (.getfield 34, 3) := by decide +kernel
theorem dX9_come_73 : decode cX9_come 73 = .ok (.iload_n 2, 1) := by decide +kernel
theorem dX9_come_74 : decode cX9_come 74 = .ok (.iaload, 1) := by decide +kernel
theorem dX9_come_75 : decode cX9_come 75 = .ok (.iadd, 1) := by decide +kernel
theorem dX9_come_76 : decode cX9_come 76 = .ok (.iload_n 1, 1) := by decide +kernel
theorem dX9_come_77 : decode cX9_come 77 = .ok (.iastore, 1) := by decide +kernel
theorem dX9_come_78 : decode cX9_come 78 = .ok (.aload_n 0, 1) := by decide +kernel
theorem dX9_come_79 : decode cX9_come 79 = .ok (.getfield 34, 3) := by decide +kernel
theorem dX9_come_82 : decode cX9_come 82 = .ok (.iload_n 2, 1) := by decide +kernel
theorem dX9_come_83 : decode cX9_come 83 = .ok (.dup2, 1) := by decide +kernel
theorem dX9_come_84 : decode cX9_come 84 = .ok (.iaload, 1) := by decide +kernel
theorem dX9_come_85 : decode cX9_come 85 = .ok (.iconst 1, 1) := by decide +kernel
theorem dX9_come_86 : decode cX9_come 86 = .ok (.iadd, 1) := by decide +kernel
theorem dX9_come_87 : decode cX9_come 87 = .ok (.iastore, 1) := by decide +kernel
theorem dX9_come_88 : decode cX9_come 88 = .ok (.return_, 1) := by decide +kernel
theorem dX9_strike_0 : decode cX9_strike 0 = .ok (.bipush 12, 2) := by decide +kernel
theorem dX9_strike_2 : decode cX9_strike 2 = .ok (.aload_n 0, 1) := by decide +kernel
theorem dX9_strike_3 : decode cX9_strike 3 = .ok (.getfield 43, 3) := by decide +kernel
theorem dX9_strike_6 : decode cX9_strike 6 = .ok (.iload_n 1, 1) := by decide +kernel
theorem dX9_strike_7 : decode cX9_strike 7 = .ok (.iaload, 1) := by decide +kernel
theorem dX9_strike_8 : decode cX9_strike 8 = .ok (.imul, 1) := by decide +kernel
theorem dX9_strike_9 : decode cX9_strike 9 = .ok (.istore_n 2, 1) := by decide +kernel
theorem dX9_strike_10 : decode cX9_strike 10 = .ok (.iload_n 2, 1) := by decide +kernel
theorem dX9_strike_11 : decode cX9_strike 11 = .ok (.istore_n 3, 1) := by decide +kernel
theorem dX9_strike_12 : decode cX9_strike 12 = .ok (.aload_n 0, 1) := by decide +kernel
theorem dX9_strike_13 : decode cX9_strike 13 = .ok (.getfield 37, 3) := by decide +kernel
theorem dX9_strike_16 : decode cX9_strike 16 = .ok (.iload_n 3, 1) := by decide +kernel
theorem dX9_strike_17 : decode cX9_strike 17 = .ok (.iaload, 1) := by decide +kernel
theorem dX9_strike_18 : decode cX9_strike 18 = .ok (.iload_n 1, 1) := by decide +kernel
theorem dX9_strike_19 : decode cX9_strike 19 = .ok (.if_icmp .eq 9, 3) := by decide +kernel
theorem dX9_strike_22 : decode cX9_strike 22 = .ok (.iinc 3 1, 3) := by decide +kernel
theorem dX9_strike_25 : decode cX9_strike 25 = .ok (.goto (-13), 3) := by decide +kernel
theorem dX9_strike_28 : decode cX9_strike 28 = .ok (.aload_n 0, 1) := by decide +kernel
theorem dX9_strike_29 : decode cX9_strike 29 = .ok (.getfield 34, 3) := by decide +kernel
theorem dX9_strike_32 : decode cX9_strike 32 = .ok (.aload_n 0, 1) := by decide +kernel
theorem dX9_strike_33 : decode cX9_strike 33 = .ok (.getfield 43, 3) := by decide +kernel
theorem dX9_strike_36 : decode cX9_strike 36 = .ok (.iload_n 1, 1) := by decide +kernel
theorem dX9_strike_37 : decode cX9_strike 37 = .ok (.iaload, 1) := by decide +kernel
theorem dX9_strike_38 : decode cX9_strike 38 = .ok (.dup2, 1) := by decide +kernel
theorem dX9_strike_39 : decode cX9_strike 39 = .ok (.iaload, 1) := by decide +kernel
theorem dX9_strike_40 : decode cX9_strike 40 = .ok (.iconst 1, 1) := by decide +kernel
theorem dX9_strike_41 : decode cX9_strike 41 = .ok (.isub, 1) := by decide +kernel
theorem dX9_strike_42 : decode cX9_strike 42 = .ok (.iastore, 1) := by decide +kernel
theorem dX9_strike_43 : decode cX9_strike 43 = .ok (.iload_n 3, 1) := by decide +kernel
theorem dX9_strike_44 : decode cX9_strike 44 = .ok (.iload_n 2, 1) := by decide +kernel
theorem dX9_strike_45 : decode cX9_strike 45 = .ok (.aload_n 0, 1) := by decide +kernel
theorem dX9_strike_46 : decode cX9_strike 46 = .ok (.getfield 34, 3) := by decide +kernel
theorem dX9_strike_49 : decode cX9_strike 49 = .ok (.aload_n 0, 1) := by decide +kernel
theorem dX9_strike_50 : decode cX9_strike 50 = .ok (.getfield 43, 3) := by decide +kernel
theorem dX9_strike_53 : decode cX9_strike 53 = .ok (.iload_n 1, 1) := by decide +kernel
theorem dX9_strike_54 : decode cX9_strike 54 = .ok (.iaload, 1) := by decide +kernel
theorem dX9_strike_55 : decode cX9_strike 55 = .ok (.iaload, 1) := by decide +kernel
theorem dX9_strike_56 : decode cX9_strike 56 = .ok (.iadd, 1) := by decide +kernel
theorem dX9_strike_57 : decode cX9_strike 57 = .ok (.if_icmp .ge 23, 3) := by decide +kernel
theorem dX9_strike_60 : decode cX9_strike 60 = .ok (.aload_n 0, 1) := by decide +kernel
theorem dX9_strike_61 : decode cX9_strike 61 = .ok (.getfield 37, 3) := by decide +kernel
theorem dX9_strike_64 : decode cX9_strike 64 = .ok (.iload_n 3, 1) := by decide +kernel
theorem dX9_strike_65 : decode cX9_strike 65 = .ok (.aload_n 0, 1) := by decide +kernel
theorem dX9_strike_66 : decode cX9_strike 66 = .ok (.getfield 37, 3) := by decide +kernel
theorem dX9_strike_69 : decode cX9_strike 69 = .ok (.iload_n 3, 1) := by decide +kernel
theorem dX9_strike_70 : decode cX9_strike 70 = .ok (.iconst 1, 1) := by decide +kernel
theorem dX9_strike_71 : decode cX9_strike 71 = .ok (.iadd, 1) := by decide +kernel
theorem dX9_strike_72 : decode cX9_strike 72 = .ok (.iaload, 1) := by decide +kernel
theorem dX9_strike_73 : decode cX9_strike 73 = .ok (.iastore, 1) := by decide +kernel
theorem dX9_strike_74 : decode cX9_strike 74 = .ok (.iinc 3 1, 3) := by decide +kernel
theorem dX9_strike_77 : decode cX9_strike 77 = .ok (.goto (-34), 3) := by decide +kernel
theorem dX9_strike_80 : decode cX9_strike 80 = .ok (.return_, 1) := by decide +kernel
theorem dX9_pass_0 : decode cX9_pass 0 = .ok (.aload_n 0, 1) := by decide +kernel
theorem dX9_pass_1 : decode cX9_pass 1 = .ok (.iconst 2, 1) := by decide +kernel
theorem dX9_pass_2 : decode cX9_pass 2 = .ok (.invokevirtual 75, 3) := by decide +kernel
theorem dX9_pass_5 : decode cX9_pass 5 = .ok (.istore_n 1, 1) := by decide +kernel
theorem dX9_pass_6 : decode cX9_pass 6 = .ok (.iconst 0, 1) := by decide +kernel
theorem dX9_pass_7 : decode cX9_pass 7 = .ok (.istore_n 2, 1) := by decide +kernel
theorem dX9_pass_8 : decode cX9_pass 8 = .ok (.iload_n 2, 1) := by decide +kernel
theorem dX9_pass_9 : decode cX9_pass 9 = .ok (.aload_n 0, 1) := by decide +kernel
theorem dX9_pass_10 : decode cX9_pass 10 = .ok (.getfield 3, 3) := by decide +kernel
theorem dX9_pass_13 : decode cX9_pass 13 = .ok (.getfield 79, 3) := by decide +kernel
theorem dX9_pass_16 : decode cX9_pass 16 = .ok (.if_icmp .ge 14, 3) := by decide +kernel
theorem dX9_pass_19 : decode cX9_pass 19 = .ok (.aload_n 0, 1) := by decide +kernel
theorem dX9_pass_20 : decode cX9_pass 20 = .ok (.iload_n 2, 1) := by decide +kernel
theorem dX9_pass_21 : decode cX9_pass 21 = .ok (.invokevirtual 82, 3) := by decide +kernel
theorem dX9_pass_24 : decode cX9_pass 24 = .ok (.iinc 2 1, 3) := by decide +kernel
theorem dX9_pass_27 : decode cX9_pass 27 = .ok (.goto (-19), 3) := by decide +kernel
theorem dX9_pass_30 : decode cX9_pass 30 = .ok (.iconst 0, 1) := by decide +kernel
theorem dX9_pass_31 : decode cX9_pass 31 = .ok (.istore_n 2, 1) := by decide +kernel
theorem dX9_pass_32 : decode cX9_pass 32 = .ok (.iload_n 2, 1) := by decide +kernel
theorem dX9_pass_33 : decode cX9_pass 33 = .ok (.aload_n 0, 1) := by decide +kernel
theorem dX9_pass_34 : decode cX9_pass 34 = .ok (.getfield 3, 3) := by decide +kernel
theorem dX9_pass_37 : decode cX9_pass 37 = .ok (.getfield 79, 3) := by decide +kernel
theorem dX9_pass_40 : decode cX9_pass 40 = .ok (.if_icmp .ge 44, 3) := by decide +kernel
theorem dX9_pass_43 : decode cX9_pass 43 = .ok (.aload_n 0, 1) := by decide +kernel
theorem dX9_pass_44 : decode cX9_pass 44 = .ok (.getfield 3, 3) := by decide +kernel
theorem dX9_pass_47 : decode cX9_pass 47 = .ok (.iload_n 2, 1) := by decide +kernel
theorem dX9_pass_48 : decode cX9_pass 48 = .ok (.aload_n 0, 1) := by decide +kernel
theorem dX9_pass_49 : decode cX9_pass 49 = .ok (.getfield 61, 3) := by decide +kernel
theorem dX9_pass_52 : decode cX9_pass 52 = .ok (.invokevirtual 86, 3) := by decide +kernel
theorem dX9_pass_55 : decode cX9_pass 55 = .ok (.ifCond .ne 23, 3) := by decide +kernel
theorem dX9_pass_58 : decode cX9_pass 58 = .ok (.aload_n 0, 1) := by decide +kernel
theorem dX9_pass_59 : decode cX9_pass 59 = .ok (.getfield 19, 3) := by decide +kernel
theorem dX9_pass_62 : decode cX9_pass 62 = .ok (.iload_n 2, 1) := by decide +kernel
theorem dX9_pass_63 : decode cX9_pass 63 = .ok (.iaload, 1) := by decide +kernel
theorem dX9_pass_64 : decode cX9_pass 64 = .ok (.aload_n 0, 1) := by decide +kernel
theorem dX9_pass_65 : decode cX9_pass 65 = .ok (.getfield 15, 3) := by decide +kernel
theorem dX9_pass_68 : decode cX9_pass 68 = .ok (.iload_n 2, 1) := by decide +kernel
theorem dX9_pass_69 : decode cX9_pass 69 = .ok (.iaload, 1) := by decide +kernel
theorem dX9_pass_70 : decode cX9_pass 70 = .ok (.if_icmp .ge 8, 3) := by decide +kernel
theorem dX9_pass_73 : decode cX9_pass 73 = .ok (.aload_n 0, 1) := by decide +kernel
theorem dX9_pass_74 : decode cX9_pass 74 = .ok (.iload_n 2, 1) := by decide +kernel
theorem dX9_pass_75 : decode cX9_pass 75 = .ok (.invokevirtual 90, 3) := by decide +kernel
theorem dX9_pass_78 : decode cX9_pass 78 = .ok (.iinc 2 1, 3) := by decide +kernel
theorem dX9_pass_81 : decode cX9_pass 81 = .ok (.goto (-49), 3) := by decide +kernel
theorem dX9_pass_84 : decode cX9_pass 84 = .ok (.iconst 0, 1) := by decide +kernel
theorem dX9_pass_85 : decode cX9_pass 85 = .ok (.istore_n 2, 1) := by decide +kernel
theorem dX9_pass_86 : decode cX9_pass 86 = .ok (.iload_n 2, 1) := by decide +kernel
theorem dX9_pass_87 : decode cX9_pass 87 = .ok (.aload_n 0, 1) := by decide +kernel
theorem dX9_pass_88 : decode cX9_pass 88 = .ok (.getfield 3, 3) := by decide +kernel
theorem dX9_pass_91 : decode cX9_pass 91 = .ok (.getfield 69, 3) := by decide +kernel
theorem dX9_pass_94 : decode cX9_pass 94 = .ok (.if_icmp .ge 99, 3) := by decide +kernel
theorem dX9_pass_97 : decode cX9_pass 97 = .ok (.aload_n 0, 1) := by decide +kernel
theorem dX9_pass_98 : decode cX9_pass 98 = .ok (.getfield 40, 3) := by decide +kernel
theorem dX9_pass_101 : decode cX9_pass 101 = .ok (.iload_n 2, 1) := by decide +kernel
theorem dX9_pass_102 : decode cX9_pass 102 = .ok (.iaload, 1) := by decide +kernel
theorem dX9_pass_103 : decode cX9_pass 103 = .ok (.ifCond .eq 6, 3) := by decide +kernel
theorem dX9_pass_106 : decode cX9_pass 106 = .ok (.goto 81, 3) := by decide +kernel
theorem dX9_pass_109 : decode cX9_pass 109 = .ok (.aload_n 0, 1) := by decide +kernel
theorem dX9_pass_110 : decode cX9_pass 110 = .ok (.getfield 46, 3) := by decide +kernel
theorem dX9_pass_113 : decode cX9_pass 113 = .ok (.iload_n 2, 1) := by decide +kernel
theorem dX9_pass_114 : decode cX9_pass 114 = .ok (.dup2, 1) := by decide +kernel
theorem dX9_pass_115 : decode cX9_pass 115 = .ok (.iaload, 1) := by decide +kernel
theorem dX9_pass_116 : decode cX9_pass 116 = .ok (.iconst 1, 1) := by decide +kernel
theorem dX9_pass_117 : decode cX9_pass 117 = .ok (.iadd, 1) := by decide +kernel
theorem dX9_pass_118 : decode cX9_pass 118 = .ok (.iastore, 1) := by decide +kernel
theorem dX9_pass_119 : decode cX9_pass 119 = .ok (.aload_n 0, 1) := by decide +kernel
theorem dX9_pass_120 : decode cX9_pass 120 = .ok (.getfield 3, 3) := by decide +kernel
theorem dX9_pass_123 : decode cX9_pass 123 = .ok (.aload_n 0, 1) := by decide +kernel
theorem dX9_pass_124 : decode cX9_pass 124 = .ok (.getfield 43, 3) := by decide +kernel
theorem dX9_pass_127 : decode cX9_pass 127 = .ok (.iload_n 2, 1) := by decide +kernel
theorem dX9_pass_128 : decode cX9_pass 128 = .ok (.iaload, 1) := by decide +kernel
theorem dX9_pass_129 : decode cX9_pass 129 = .ok (.aload_n 0, 1) := by decide +kernel
theorem dX9_pass_130 : decode cX9_pass 130 = .ok (.getfield 3, 3) := by decide +kernel
theorem dX9_pass_133 : decode cX9_pass 133 = .ok (.getfield 72, 3) := by decide +kernel
theorem dX9_pass_136 : decode cX9_pass 136 = .ok (.iload_n 2, 1) := by decide +kernel
theorem dX9_pass_137 : decode cX9_pass 137 = .ok (.iaload, 1) := by decide +kernel
theorem dX9_pass_138 : decode cX9_pass 138 = .ok (.aload_n 0, 1) := by decide +kernel
theorem dX9_pass_139 : decode cX9_pass 139 = .ok (.getfield 3, 3) := by decide +kernel
theorem dX9_pass_142 : decode cX9_pass 142 = .ok (.getfield 93, 3) := by decide +kernel
theorem dX9_pass_145 : decode cX9_pass 145 = .ok (.iload_n 2, 1) := by decide +kernel
theorem dX9_pass_146 : decode cX9_pass 146 = .ok (.iaload, 1) := by decide +kernel
theorem dX9_pass_147 : decode cX9_pass 147 = .ok (.invokevirtual 96, 3) := by decide +kernel
theorem dX9_pass_150 : decode cX9_pass 150 = .ok (.iconst (-1), 1) := by decide +kernel
theorem dX9_pass_151 : decode cX9_pass 151 = .ok (.if_icmp .eq 24, 3) := by decide +kernel
theorem dX9_pass_154 : decode cX9_pass 154 = .ok (.aload_n 0, 1) := by decide +kernel
theorem dX9_pass_155 : decode cX9_pass 155 = .ok (.getfield 46, 3) := by decide +kernel
theorem dX9_pass_158 : decode cX9_pass 158 = .ok (.iload_n 2, 1) := by decide +kernel
theorem dX9_pass_159 : decode cX9_pass 159 = .ok (.iaload, 1) := by decide +kernel
theorem dX9_pass_160 : decode cX9_pass 160 = .ok (.aload_n 0, 1) := by decide +kernel
theorem dX9_pass_161 : decode cX9_pass 161 = .ok (.getfield 3, 3) := by decide +kernel
theorem dX9_pass_164 : decode cX9_pass 164 = .ok (.getfield 100, 3) := by decide +kernel
theorem dX9_pass_167 : decode cX9_pass 167 = .ok (.iload_n 2, 1) := by decide +kernel
theorem dX9_pass_168 : decode cX9_pass 168 = .ok (.iaload, 1) := by decide +kernel
theorem dX9_pass_169 : decode cX9_pass 169 = .ok (.if_icmp .ge 6, 3) := by decide +kernel
theorem dX9_pass_172 : decode cX9_pass 172 = .ok (.goto 15, 3) := by decide +kernel
theorem dX9_pass_175 : decode cX9_pass 175 = .ok (.aload_n 0, 1) := by decide +kernel
theorem dX9_pass_176 : decode cX9_pass 176 = .ok (.iload_n 2, 1) := by decide +kernel
theorem dX9_pass_177 : decode cX9_pass 177 = .ok (.invokevirtual 103, 3) := by decide +kernel
theorem dX9_pass_180 : decode cX9_pass 180 = .ok (.aload_n 0, 1) := by decide +kernel
theorem dX9_pass_181 : decode cX9_pass 181 = .ok (.getfield 40, 3) := by decide +kernel
theorem dX9_pass_184 : decode cX9_pass 184 = .ok (.iload_n 2, 1) := by decide +kernel
theorem dX9_pass_185 : decode cX9_pass 185 = .ok (.iconst 3, 1) := by decide +kernel
theorem dX9_pass_186 : decode cX9_pass 186 = .ok (.iastore, 1) := by decide +kernel
theorem dX9_pass_187 : decode cX9_pass 187 = .ok (.iinc 2 1, 3) := by decide +kernel
theorem dX9_pass_190 : decode cX9_pass 190 = .ok (.goto (-104), 3) := by decide +kernel
theorem dX9_pass_193 : decode cX9_pass 193 = .ok (.aload_n 0, 1) := by decide +kernel
theorem dX9_pass_194 : decode cX9_pass 194 = .ok (.dup, 1) := by decide +kernel
theorem dX9_pass_195 : decode cX9_pass 195 = .ok (.getfield 61, 3) := by decide +kernel
theorem dX9_pass_198 : decode cX9_pass 198 = .ok (.iconst 1, 1) := by decide +kernel
theorem dX9_pass_199 : decode cX9_pass 199 = .ok (.iadd, 1) := by decide +kernel
theorem dX9_pass_200 : decode cX9_pass 200 = .ok (.putfield 61, 3) := by decide +kernel
theorem dX9_pass_203 : decode cX9_pass 203 = .ok (.aload_n 0, 1) := by decide +kernel
theorem dX9_pass_204 : decode cX9_pass 204 = .ok (.iconst 2, 1) := by decide +kernel
theorem dX9_pass_205 : decode cX9_pass 205 = .ok (.invokevirtual 75, 3) := by decide +kernel
theorem dX9_pass_208 : decode cX9_pass 208 = .ok (.iload_n 1, 1) := by decide +kernel
theorem dX9_pass_209 : decode cX9_pass 209 = .ok (.isub, 1) := by decide +kernel
theorem dX9_pass_210 : decode cX9_pass 210 = .ok (.ireturn, 1) := by decide +kernel
theorem dX9_roll_0 : decode cX9_roll 0 = .ok (.iconst 3, 1) := by decide +kernel
theorem dX9_roll_1 : decode cX9_roll 1 = .ok (.iload_n 1, 1) := by decide +kernel
theorem dX9_roll_2 : decode cX9_roll 2 = .ok (.imul, 1) := by decide +kernel
theorem dX9_roll_3 : decode cX9_roll 3 = .ok (.istore_n 2, 1) := by decide +kernel
theorem dX9_roll_4 : decode cX9_roll 4 = .ok (.iload_n 2, 1) := by decide +kernel
theorem dX9_roll_5 : decode cX9_roll 5 = .ok (.aload_n 0, 1) := by decide +kernel
theorem dX9_roll_6 : decode cX9_roll 6 = .ok (.getfield 19, 3) := by decide +kernel
theorem dX9_roll_9 : decode cX9_roll 9 = .ok (.iload_n 1, 1) := by decide +kernel
theorem dX9_roll_10 : decode cX9_roll 10 = .ok (.iaload, 1) := by decide +kernel
theorem dX9_roll_11 : decode cX9_roll 11 = .ok (.iadd, 1) := by decide +kernel
theorem dX9_roll_12 : decode cX9_roll 12 = .ok (.istore_n 3, 1) := by decide +kernel
theorem dX9_roll_13 : decode cX9_roll 13 = .ok (.iload_n 2, 1) := by decide +kernel
theorem dX9_roll_14 : decode cX9_roll 14 = .ok (.istore 4, 2) := by decide +kernel
theorem dX9_roll_16 : decode cX9_roll 16 = .ok (.iload 4, 2) := by decide +kernel
theorem dX9_roll_18 : decode cX9_roll 18 = .ok (.iload_n 3, 1) := by decide +kernel
theorem dX9_roll_19 : decode cX9_roll 19 = .ok (.if_icmp .ge 142, 3) := by decide +kernel
theorem dX9_roll_22 : decode cX9_roll 22 = .ok (.aload_n 0, 1) := by decide +kernel
theorem dX9_roll_23 : decode cX9_roll 23 = .ok (.getfield 25, 3) := by decide +kernel
theorem dX9_roll_26 : decode cX9_roll 26 = .ok (.iload 4, 2) := by decide +kernel
theorem dX9_roll_28 : decode cX9_roll 28 = .ok (.dup2, 1) := by decide +kernel
theorem dX9_roll_29 : decode cX9_roll 29 = .ok (.iaload, 1) := by decide +kernel
theorem dX9_roll_30 : decode cX9_roll 30 = .ok (.iconst 1, 1) := by decide +kernel
theorem dX9_roll_31 : decode cX9_roll 31 = .ok (.isub, 1) := by decide +kernel
theorem dX9_roll_32 : decode cX9_roll 32 = .ok (.iastore, 1) := by decide +kernel
theorem dX9_roll_33 : decode cX9_roll 33 = .ok (.aload_n 0, 1) := by decide +kernel
theorem dX9_roll_34 : decode cX9_roll 34 = .ok (.getfield 25, 3) := by decide +kernel
theorem dX9_roll_37 : decode cX9_roll 37 = .ok (.iload 4, 2) := by decide +kernel
theorem dX9_roll_39 : decode cX9_roll 39 = .ok (.iaload, 1) := by decide +kernel
theorem dX9_roll_40 : decode cX9_roll 40 = .ok (.ifCond .ne 27, 3) := by decide +kernel
theorem dX9_roll_43 : decode cX9_roll 43 = .ok (.aload_n 0, 1) := by decide +kernel
theorem dX9_roll_44 : decode cX9_roll 44 = .ok (.getfield 22, 3) := by decide +kernel
theorem dX9_roll_47 : decode cX9_roll 47 = .ok (.iload 4, 2) := by decide +kernel
theorem dX9_roll_49 : decode cX9_roll 49 = .ok (.iaload, 1) := by decide +kernel
theorem dX9_roll_50 : decode cX9_roll 50 = .ok (.iconst (-1), 1) := by decide +kernel
theorem dX9_roll_51 : decode cX9_roll 51 = .ok (.if_icmp .ne 16, 3) := by decide +kernel
theorem dX9_roll_54 : decode cX9_roll 54 = .ok (.aload_n 0, 1) := by decide +kernel
theorem dX9_roll_55 : decode cX9_roll 55 = .ok (.getfield 19, 3) := by decide +kernel
theorem dX9_roll_58 : decode cX9_roll 58 = .ok (.iload_n 1, 1) := by decide +kernel
theorem dX9_roll_59 : decode cX9_roll 59 = .ok (.dup2, 1) := by decide +kernel
theorem dX9_roll_60 : decode cX9_roll 60 = .ok (.iaload, 1) := by decide +kernel
theorem dX9_roll_61 : decode cX9_roll 61 = .ok (.iconst 1, 1) := by decide +kernel
theorem dX9_roll_62 : decode cX9_roll 62 = .ok (.isub, 1) := by decide +kernel
theorem dX9_roll_63 : decode cX9_roll 63 = .ok (.iastore, 1) := by decide +kernel
theorem dX9_roll_64 : decode cX9_roll 64 = .ok (.goto 91, 3) := by decide +kernel
theorem dX9_roll_67 : decode cX9_roll 67 = .ok (.aload_n 0, 1) := by decide +kernel
theorem dX9_roll_68 : decode cX9_roll 68 = .ok (.getfield 25, 3) := by decide +kernel
theorem dX9_roll_71 : decode cX9_roll 71 = .ok (.iload 4, 2) := by decide +kernel
theorem dX9_roll_73 : decode cX9_roll 73 = .ok (.iaload, 1) := by decide +kernel
theorem dX9_roll_74 : decode cX9_roll 74 = .ok (.ifCond .ne 52, 3) := by decide +kernel
theorem dX9_roll_77 : decode cX9_roll 77 = .ok (.aload_n 0, 1) := by decide +kernel
theorem dX9_roll_78 : decode cX9_roll 78 = .ok (.aload_n 0, 1) := by decide +kernel
theorem dX9_roll_79 : decode cX9_roll 79 = .ok (.getfield 22, 3) := by decide +kernel
theorem dX9_roll_82 : decode cX9_roll 82 = .ok (.iload 4, 2) := by decide +kernel
theorem dX9_roll_84 : decode cX9_roll 84 = .ok (.iaload, 1) := by decide +kernel
theorem dX9_roll_85 : decode cX9_roll 85 = .ok (.aload_n 0, 1) := by decide +kernel
theorem dX9_roll_86 : decode cX9_roll 86 = .ok (.getfield 3, 3) := by decide +kernel
theorem dX9_roll_89 : decode cX9_roll 89 = .ok (.getfield 106, 3) := by decide +kernel
theorem dX9_roll_92 : decode cX9_roll 92 = .ok (.iload_n 1, 1) := by decide +kernel
theorem dX9_roll_93 : decode cX9_roll 93 = .ok (.iaload, 1) := by decide +kernel
theorem dX9_roll_94 : decode cX9_roll 94 = .ok (.invokevirtual 109, 3) := by decide +kernel
theorem dX9_roll_97 : decode cX9_roll 97 = .ok (.aload_n 0, 1) := by decide +kernel
theorem dX9_roll_98 : decode cX9_roll 98 = .ok (.getfield 22, 3) := by decide +kernel
theorem dX9_roll_101 : decode cX9_roll 101 = .ok (.iload 4, 2) := by decide +kernel
theorem dX9_roll_103 : decode cX9_roll 103 = .ok (.iconst (-1), 1) := by decide +kernel
theorem dX9_roll_104 : decode cX9_roll 104 = .ok (.iastore, 1) := by decide +kernel
theorem dX9_roll_105 : decode cX9_roll 105 = .ok (.aload_n 0, 1) := by decide +kernel
theorem dX9_roll_106 : decode cX9_roll 106 = .ok (.getfield 25, 3) := by decide +kernel
theorem dX9_roll_109 : decode cX9_roll 109 = .ok (.iload 4, 2) := by decide +kernel
theorem dX9_roll_111 : decode cX9_roll 111 = .ok (.aload_n 0, 1) := by decide +kernel
theorem dX9_roll_112 : decode cX9_roll 112 = .ok (.getfield 3, 3) := by decide +kernel
theorem dX9_roll_115 : decode cX9_roll 115 = .ok (.iload_n 1, 1) := by decide +kernel
theorem dX9_roll_116 : decode cX9_roll 116 = .ok (.invokevirtual 113, 3) := by decide +kernel
theorem dX9_roll_119 : decode cX9_roll 119 = .ok (.bipush 9, 2) := by decide +kernel
theorem dX9_roll_121 : decode cX9_roll 121 = .ok (.iadd, 1) := by decide +kernel
theorem dX9_roll_122 : decode cX9_roll 122 = .ok (.bipush 10, 2) := by decide +kernel
theorem dX9_roll_124 : decode cX9_roll 124 = .ok (.idiv, 1) := by decide +kernel
theorem dX9_roll_125 : decode cX9_roll 125 = .ok (.iastore, 1) := by decide +kernel
theorem dX9_roll_126 : decode cX9_roll 126 = .ok (.aload_n 0, 1) := by decide +kernel
theorem dX9_roll_127 : decode cX9_roll 127 = .ok (.getfield 22, 3) := by decide +kernel
theorem dX9_roll_130 : decode cX9_roll 130 = .ok (.iload_n 2, 1) := by decide +kernel
theorem dX9_roll_131 : decode cX9_roll 131 = .ok (.aload_n 0, 1) := by decide +kernel
theorem dX9_roll_132 : decode cX9_roll 132 = .ok (.getfield 22, 3) := by decide +kernel
theorem dX9_roll_135 : decode cX9_roll 135 = .ok (.iload 4, 2) := by decide +kernel
theorem dX9_roll_137 : decode cX9_roll 137 = .ok (.iaload, 1) := by decide +kernel
theorem dX9_roll_138 : decode cX9_roll 138 = .ok (.iastore, 1) := by decide +kernel
theorem dX9_roll_139 : decode cX9_roll 139 = .ok (.aload_n 0, 1) := by decide +kernel
theorem dX9_roll_140 : decode cX9_roll 140 = .ok (.getfield 25, 3) := by decide +kernel
theorem dX9_roll_143 : decode cX9_roll 143 = .ok (.iload_n 2, 1) := by decide +kernel
theorem dX9_roll_144 : decode cX9_roll 144 = .ok (.aload_n 0, 1) := by decide +kernel
theorem dX9_roll_145 : decode cX9_roll 145 = .ok (.getfield 25, 3) := by decide +kernel
theorem dX9_roll_148 : decode cX9_roll 148 = .ok (.iload 4, 2) := by decide +kernel
theorem dX9_roll_150 : decode cX9_roll 150 = .ok (.iaload, 1) := by decide +kernel
theorem dX9_roll_151 : decode cX9_roll 151 = .ok (.iastore, 1) := by decide +kernel
theorem dX9_roll_152 : decode cX9_roll 152 = .ok (.iinc 2 1, 3) := by decide +kernel
theorem dX9_roll_155 : decode cX9_roll 155 = .ok (.iinc 4 1, 3) := by decide +kernel
theorem dX9_roll_158 : decode cX9_roll 158 = .ok (.goto (-142), 3) := by decide +kernel
theorem dX9_roll_161 : decode cX9_roll 161 = .ok (.return_, 1) := by decide +kernel
theorem dX9_begin_0 : decode cX9_begin 0 = .ok (.bipush 12, 2) := by decide +kernel
theorem dX9_begin_2 : decode cX9_begin 2 = .ok (.aload_n 0, 1) := by decide +kernel
theorem dX9_begin_3 : decode cX9_begin 3 = .ok (.getfield 3, 3) := by decide +kernel
theorem dX9_begin_6 : decode cX9_begin 6 = .ok (.getfield 116, 3) := by decide +kernel
theorem dX9_begin_9 : decode cX9_begin 9 = .ok (.iload_n 1, 1) := by decide +kernel
theorem dX9_begin_10 : decode cX9_begin 10 = .ok (.iaload, 1) := by decide +kernel
theorem dX9_begin_11 : decode cX9_begin 11 = .ok (.imul, 1) := by decide +kernel
theorem dX9_begin_12 : decode cX9_begin 12 = .ok (.istore_n 2, 1) := by decide +kernel
theorem dX9_begin_13 : decode cX9_begin 13 = .ok (.iload_n 2, 1) := by decide +kernel
theorem dX9_begin_14 : decode cX9_begin 14 = .ok (.istore_n 3, 1) := by decide +kernel
theorem dX9_begin_15 : decode cX9_begin 15 = .ok (.iload_n 3, 1) := by decide +kernel
theorem dX9_begin_16 : decode cX9_begin 16 = .ok (.iload_n 2, 1) := by decide +kernel
theorem dX9_begin_17 : decode cX9_begin 17 = .ok (.aload_n 0, 1) := by decide +kernel
theorem dX9_begin_18 : decode cX9_begin 18 = .ok (.getfield 34, 3) := by decide +kernel
theorem dX9_begin_21 : decode cX9_begin 21 = .ok (.aload_n 0, 1) := by decide +kernel
theorem dX9_begin_22 : decode cX9_begin 22 = .ok (.getfield 3, 3) := by decide +kernel
theorem dX9_begin_25 : decode cX9_begin 25 = .ok (.getfield 116, 3) := by decide +kernel
theorem dX9_begin_28 : decode cX9_begin 28 = .ok (.iload_n 1, 1) := by decide +kernel
theorem dX9_begin_29 : decode cX9_begin 29 = .ok (.iaload, 1) := by decide +kernel
theorem dX9_begin_30 : decode cX9_begin 30 = .ok (.iaload, 1) := by decide +kernel
theorem dX9_begin_31 : decode cX9_begin 31 = .ok (.iadd, 1) := by decide +kernel
theorem dX9_begin_32 : decode cX9_begin 32 = .ok (.if_icmp .ge 202, 3) := by decide +kernel
theorem dX9_begin_35 : decode cX9_begin 35 = .ok (.aload_n 0, 1) := by decide +kernel
theorem dX9_begin_36 : decode cX9_begin 36 = .ok (.getfield 37, 3) := by decide +kernel
theorem dX9_begin_39 : decode cX9_begin 39 = .ok (.iload_n 3, 1) := by decide +kernel
theorem dX9_begin_40 : decode cX9_begin 40 = .ok (.iaload, 1) := by decide +kernel
theorem dX9_begin_41 : decode cX9_begin 41 = .ok (.istore 4, 2) := by decide +kernel
theorem dX9_begin_43 : decode cX9_begin 43 = .ok (.aload_n 0, 1) := by decide +kernel
theorem dX9_begin_44 : decode cX9_begin 44 = .ok (.getfield 3, 3) := by decide +kernel
theorem dX9_begin_47 : decode cX9_begin 47 = .ok (.aload_n 0, 1) := by decide +kernel
theorem dX9_begin_48 : decode cX9_begin 48 = .ok (.getfield 3, 3) := by decide +kernel
theorem dX9_begin_51 : decode cX9_begin 51 = .ok (.getfield 116, 3) := by decide +kernel
theorem dX9_begin_54 : decode cX9_begin 54 = .ok (.iload_n 1, 1) := by decide +kernel
theorem dX9_begin_55 : decode cX9_begin 55 = .ok (.iaload, 1) := by decide +kernel
theorem dX9_begin_56 : decode cX9_begin 56 = .ok (.aload_n 0, 1) := by decide +kernel
theorem dX9_begin_57 : decode cX9_begin 57 = .ok (.getfield 3, 3) := by decide +kernel
theorem dX9_begin_60 : decode cX9_begin 60 = .ok (.getfield 72, 3) := by decide +kernel
theorem dX9_begin_63 : decode cX9_begin 63 = .ok (.iload 4, 2) := by decide +kernel
theorem dX9_begin_65 : decode cX9_begin 65 = .ok (.iaload, 1) := by decide +kernel
theorem dX9_begin_66 : decode cX9_begin 66 = .ok (.aload_n 0, 1) := by decide +kernel
theorem dX9_begin_67 : decode cX9_begin 67 = .ok (.getfield 3, 3) := by decide +kernel
theorem dX9_begin_70 : decode cX9_begin 70 = .ok (.getfield 93, 3) := by decide +kernel
theorem dX9_begin_73 : decode cX9_begin 73 = .ok (.iload 4, 2) := by decide +kernel
theorem dX9_begin_75 : decode cX9_begin 75 = .ok (.iaload, 1) := by decide +kernel
theorem dX9_begin_76 : decode cX9_begin 76 = .ok (.invokevirtual 119, 3) := by decide +kernel
theorem dX9_begin_79 : decode cX9_begin 79 = .ok (.iload_n 1, 1) := by decide +kernel
theorem dX9_begin_80 : decode cX9_begin 80 = .ok (.if_icmp .eq 6, 3) := by decide +kernel
theorem dX9_begin_83 : decode cX9_begin 83 = .ok (.goto 145, 3) := by decide +kernel
theorem dX9_begin_86 : decode cX9_begin 86 = .ok (.aload_n 0, 1) := by decide +kernel
theorem dX9_begin_87 : decode cX9_begin 87 = .ok (.iload 4, 2) := by decide +kernel
theorem dX9_begin_89 : decode cX9_begin 89 = .ok (.invokevirtual 103, 3) := by decide +kernel
theorem dX9_begin_92 : decode cX9_begin 92 = .ok (.aload_n 0, 1) := by decide +kernel
theorem dX9_begin_93 : decode cX9_begin 93 = .ok (.getfield 40, 3) := by decide +kernel
theorem dX9_begin_96 : decode cX9_begin 96 = .ok (.iload 4, 2) := by decide +kernel
theorem dX9_begin_98 : decode cX9_begin 98 = .ok (.iconst 1, 1) := by decide +kernel
theorem dX9_begin_99 : decode cX9_begin 99 = .ok (.iastore, 1) := by decide +kernel
theorem dX9_begin_100 : decode cX9_begin 100 = .ok (.aload_n 0, 1) := by decide +kernel
theorem dX9_begin_101 : decode cX9_begin 101 = .ok (.getfield 43, 3) := by decide +kernel
theorem dX9_begin_104 : decode cX9_begin 104 = .ok (.iload 4, 2) := by decide +kernel
theorem dX9_begin_106 : decode cX9_begin 106 = .ok (.iload_n 1, 1) := by decide +kernel
theorem dX9_begin_107 : decode cX9_begin 107 = .ok (.iastore, 1) := by decide +kernel
theorem dX9_begin_108 : decode cX9_begin 108 = .ok (.aload_n 0, 1) := by decide +kernel
theorem dX9_begin_109 : decode cX9_begin 109 = .ok (.getfield 49, 3) := by decide +kernel
theorem dX9_begin_112 : decode cX9_begin 112 = .ok (.iload 4, 2) := by decide +kernel
theorem dX9_begin_114 : decode cX9_begin 114 = .ok (.dup2, 1) := by decide +kernel
theorem dX9_begin_115 : decode cX9_begin 115 = .ok (.iaload, 1) := by decide +kernel
theorem dX9_begin_116 : decode cX9_begin 116 = .ok (.iconst 1, 1) := by decide +kernel
theorem dX9_begin_117 : decode cX9_begin 117 = .ok (.iadd, 1) := by decide +kernel
theorem dX9_begin_118 : decode cX9_begin 118 = .ok (.iastore, 1) := by decide +kernel
theorem dX9_begin_119 : decode cX9_begin 119 = .ok (.aload_n 0, 1) := by decide +kernel
theorem dX9_begin_120 : decode cX9_begin 120 = .ok (.getfield 22, 3) := by decide +kernel
theorem dX9_begin_123 : decode cX9_begin 123 = .ok (.iconst 3, 1) := by decide +kernel
theorem dX9_begin_124 : decode cX9_begin 124 = .ok (.iload_n 1, 1) := by decide +kernel
theorem dX9_begin_125 : decode cX9_begin 125 = .ok (.imul, 1) := by decide +kernel
theorem dX9_begin_126 : decode cX9_begin 126 = .ok (.aload_n 0, 1) := by decide +kernel
theorem dX9_begin_127 : decode cX9_begin 127 = .ok (.getfield 19, 3) := by decide +kernel
theorem dX9_begin_130 : decode cX9_begin 130 = .ok (.iload_n 1, 1) := by decide +kernel
theorem dX9_begin_131 : decode cX9_begin 131 = .ok (.iaload, 1) := by decide +kernel
theorem dX9_begin_132 : decode cX9_begin 132 = .ok (.iadd, 1) := by decide +kernel
theorem dX9_begin_133 : decode cX9_begin 133 = .ok (.iload 4, 2) := by decide +kernel
theorem dX9_begin_135 : decode cX9_begin 135 = .ok (.iastore, 1) := by decide +kernel
theorem dX9_begin_136 : decode cX9_begin 136 = .ok (.aload_n 0, 1) := by decide +kernel
theorem dX9_begin_137 : decode cX9_begin 137 = .ok (.getfield 25, 3) := by decide +kernel
theorem dX9_begin_140 : decode cX9_begin 140 = .ok (.iconst 3, 1) := by decide +kernel
theorem dX9_begin_141 : decode cX9_begin 141 = .ok (.iload_n 1, 1) := by decide +kernel
theorem dX9_begin_142 : decode cX9_begin 142 = .ok (.imul, 1) := by decide +kernel
theorem dX9_begin_143 : decode cX9_begin 143 = .ok (.aload_n 0, 1) := by decide +kernel
theorem dX9_begin_144 : decode cX9_begin 144 = .ok (.getfield 19, 3) := by decide +kernel
theorem dX9_begin_147 : decode cX9_begin 147 = .ok (.iload_n 1, 1) := by decide +kernel
theorem dX9_begin_148 : decode cX9_begin 148 = .ok (.iaload, 1) := by decide +kernel
theorem dX9_begin_149 : decode cX9_begin 149 = .ok (.iadd, 1) := by decide +kernel
theorem dX9_begin_150 : decode cX9_begin 150 = .ok (.aload_n 0, 1) := by decide +kernel
theorem dX9_begin_151 : decode cX9_begin 151 = .ok (.getfield 3, 3) := by decide +kernel
theorem dX9_begin_154 : decode cX9_begin 154 = .ok (.iload_n 1, 1) := by decide +kernel
theorem dX9_begin_155 : decode cX9_begin 155 = .ok (.aload_n 0, 1) := by decide +kernel
theorem dX9_begin_156 : decode cX9_begin 156 = .ok (.getfield 3, 3) := by decide +kernel
theorem dX9_begin_159 : decode cX9_begin 159 = .ok (.getfield 93, 3) := by decide +kernel
theorem dX9_begin_162 : decode cX9_begin 162 = .ok (.iload 4, 2) := by decide +kernel
theorem dX9_begin_164 : decode cX9_begin 164 = .ok (.iaload, 1) := by decide +kernel
theorem dX9_begin_165 : decode cX9_begin 165 = .ok (.invokevirtual 122, 3) := by decide +kernel
theorem dX9_begin_168 : decode cX9_begin 168 = .ok (.invokestatic 126, 3) := by decide +kernel
theorem dX9_begin_171 : decode cX9_begin 171 = .ok (.iastore, 1) := by decide +kernel
theorem dX9_begin_172 : decode cX9_begin 172 = .ok (.aload_n 0, 1) := by decide +kernel
theorem dX9_begin_173 : decode cX9_begin 173 = .ok (.getfield 19, 3) := by decide +kernel
theorem dX9_begin_176 : decode cX9_begin 176 = .ok (.iload_n 1, 1) := by decide +kernel
theorem dX9_begin_177 : decode cX9_begin 177 = .ok (.dup2, 1) := by decide +kernel
theorem dX9_begin_178 : decode cX9_begin 178 = .ok (.iaload, 1) := by decide +kernel
theorem dX9_begin_179 : decode cX9_begin 179 = .ok (.iconst 1, 1) := by decide +kernel
theorem dX9_begin_180 : decode cX9_begin 180 = .ok (.iadd, 1) := by decide +kernel
theorem dX9_begin_181 : decode cX9_begin 181 = .ok (.iastore, 1) := by decide +kernel
theorem dX9_begin_182 : decode cX9_begin 182 = .ok (.aload_n 0, 1) := by decide +kernel
theorem dX9_begin_183 : decode cX9_begin 183 = .ok (.getfield 28, 3) := by decide +kernel
theorem dX9_begin_186 : decode cX9_begin 186 = .ok (.iload_n 1, 1) := by decide +kernel
theorem dX9_begin_187 : decode cX9_begin 187 = .ok (.dup2, 1) := by decide +kernel
theorem dX9_begin_188 : decode cX9_begin 188 = .ok (.iaload, 1) := by decide +kernel
theorem dX9_begin_189 : decode cX9_begin 189 = .ok (.iconst 1, 1) := by decide +kernel
theorem dX9_begin_190 : decode cX9_begin 190 = .ok (.iadd, 1) := by decide +kernel
theorem dX9_begin_191 : decode cX9_begin 191 = .ok (.iastore, 1) := by decide +kernel
theorem dX9_begin_192 : decode cX9_begin 192 = .ok (.aload_n 0, 1) := by decide +kernel
theorem dX9_begin_193 : decode cX9_begin 193 = .ok (.getfield 31, 3) := by decide +kernel
theorem dX9_begin_196 : decode cX9_begin 196 = .ok (.iload_n 1, 1) := by decide +kernel
theorem dX9_begin_197 : decode cX9_begin 197 = .ok (.dup2, 1) := by decide +kernel
theorem dX9_begin_198 : decode cX9_begin 198 = .ok (.iaload, 1) := by decide +kernel
theorem dX9_begin_199 : decode cX9_begin 199 = .ok (.aload_n 0, 1) := by decide +kernel
theorem dX9_begin_200 : decode cX9_begin 200 = .ok (.getfield 3, 3) := by decide +kernel
theorem dX9_begin_203 : decode cX9_begin 203 = .ok (.iload_n 1, 1) := by decide +kernel
theorem dX9_begin_204 : decode cX9_begin 204 = .ok (.aload_n 0, 1) := by decide +kernel
theorem dX9_begin_205 : decode cX9_begin 205 = .ok (.getfield 3, 3) := by decide +kernel
theorem dX9_begin_208 : decode cX9_begin 208 = .ok (.getfield 93, 3) := by decide +kernel
theorem dX9_begin_211 : decode cX9_begin 211 = .ok (.iload 4, 2) := by decide +kernel
theorem dX9_begin_213 : decode cX9_begin 213 = .ok (.iaload, 1) := by decide +kernel
theorem dX9_begin_214 : decode cX9_begin 214 = .ok (.invokevirtual 122, 3) := by decide +kernel
theorem dX9_begin_217 : decode cX9_begin 217 = .ok (.ifCond .ge 7, 3) := by decide +kernel
theorem dX9_begin_220 : decode cX9_begin 220 = .ok (.iconst 1, 1) := by decide +kernel
theorem dX9_begin_221 : decode cX9_begin 221 = .ok (.goto 4, 3) := by decide +kernel
theorem dX9_begin_224 : decode cX9_begin 224 = .ok (.iconst 0, 1) := by decide +kernel
theorem dX9_begin_225 : decode cX9_begin 225 = .ok (.iadd, 1) := by decide +kernel
theorem dX9_begin_226 : decode cX9_begin 226 = .ok (.iastore, 1) := by decide +kernel
theorem dX9_begin_227 : decode cX9_begin 227 = .ok (.return_, 1) := by decide +kernel
theorem dX9_begin_228 : decode cX9_begin 228 = .ok (.iinc 3 1, 3) := by decide +kernel
theorem dX9_begin_231 : decode cX9_begin 231 = .ok (.goto (-216), 3) := by decide +kernel
theorem dX9_begin_234 : decode cX9_begin 234 = .ok (.return_, 1) := by decide +kernel
theorem dX9_leftOf_0 : decode cX9_leftOf 0 = .ok (.iconst 0, 1) := by decide +kernel
theorem dX9_leftOf_1 : decode cX9_leftOf 1 = .ok (.istore_n 2, 1) := by decide +kernel
theorem dX9_leftOf_2 : decode cX9_leftOf 2 = .ok (.iload_n 2, 1) := by decide +kernel
theorem dX9_leftOf_3 : decode cX9_leftOf 3 = .ok (.bipush 36, 2) := by decide +kernel
theorem dX9_leftOf_5 : decode cX9_leftOf 5 = .ok (.if_icmp .ge 40, 3) := by decide +kernel
theorem dX9_leftOf_8 : decode cX9_leftOf 8 = .ok (.iload_n 2, 1) := by decide +kernel
theorem dX9_leftOf_9 : decode cX9_leftOf 9 = .ok (.iconst 3, 1) := by decide +kernel
theorem dX9_leftOf_10 : decode cX9_leftOf 10 = .ok (.irem, 1) := by decide +kernel
theorem dX9_leftOf_11 : decode cX9_leftOf 11 = .ok (.aload_n 0, 1) := by decide +kernel
theorem dX9_leftOf_12 : decode cX9_leftOf 12 = .ok (.getfield 19, 3) := by decide +kernel
theorem dX9_leftOf_15 : decode cX9_leftOf 15 = .ok (.iload_n 2, 1) := by decide +kernel
theorem dX9_leftOf_16 : decode cX9_leftOf 16 = .ok (.iconst 3, 1) := by decide +kernel
theorem dX9_leftOf_17 : decode cX9_leftOf 17 = .ok (.idiv, 1) := by decide +kernel
theorem dX9_leftOf_18 : decode cX9_leftOf 18 = .ok (.iaload, 1) := by decide +kernel
theorem dX9_leftOf_19 : decode cX9_leftOf 19 = .ok (.if_icmp .ge 20, 3) := by decide +kernel
theorem dX9_leftOf_22 : decode cX9_leftOf 22 = .ok (.aload_n 0, 1) := by decide +kernel
theorem dX9_leftOf_23 : decode cX9_leftOf 23 = .ok (.getfield 22, 3) := by decide +kernel
theorem dX9_leftOf_26 : decode cX9_leftOf 26 = .ok (.iload_n 2, 1) := by decide +kernel
theorem dX9_leftOf_27 : decode cX9_leftOf 27 = .ok (.iaload, 1) := by decide +kernel
theorem dX9_leftOf_28 : decode cX9_leftOf 28 = .ok (.iload_n 1, 1) := by decide +kernel
theorem dX9_leftOf_29 : decode cX9_leftOf 29 = .ok (.if_icmp .ne 10, 3) := by decide +kernel
theorem dX9_leftOf_32 : decode cX9_leftOf 32 = .ok (.aload_n 0, 1) := by decide +kernel
theorem dX9_leftOf_33 : decode cX9_leftOf 33 = .ok (.getfield 25, 3) := by decide +kernel
theorem dX9_leftOf_36 : decode cX9_leftOf 36 = .ok (.iload_n 2, 1) := by decide +kernel
theorem dX9_leftOf_37 : decode cX9_leftOf 37 = .ok (.iaload, 1) := by decide +kernel
theorem dX9_leftOf_38 : decode cX9_leftOf 38 = .ok (.ireturn, 1) := by decide +kernel
theorem dX9_leftOf_39 : decode cX9_leftOf 39 = .ok (.iinc 2 1, 3) := by decide +kernel
theorem dX9_leftOf_42 : decode cX9_leftOf 42 = .ok (.goto (-40), 3) := by decide +kernel
theorem dX9_leftOf_45 : decode cX9_leftOf 45 = .ok (.iconst 0, 1) := by decide +kernel
theorem dX9_leftOf_46 : decode cX9_leftOf 46 = .ok (.ireturn, 1) := by decide +kernel
theorem dX9_riding_0 : decode cX9_riding 0 = .ok (.iconst 0, 1) := by decide +kernel
theorem dX9_riding_1 : decode cX9_riding 1 = .ok (.istore_n 2, 1) := by decide +kernel
theorem dX9_riding_2 : decode cX9_riding 2 = .ok (.iconst 3, 1) := by decide +kernel
theorem dX9_riding_3 : decode cX9_riding 3 = .ok (.iload_n 1, 1) := by decide +kernel
theorem dX9_riding_4 : decode cX9_riding 4 = .ok (.imul, 1) := by decide +kernel
theorem dX9_riding_5 : decode cX9_riding 5 = .ok (.istore_n 3, 1) := by decide +kernel
theorem dX9_riding_6 : decode cX9_riding 6 = .ok (.iload_n 3, 1) := by decide +kernel
theorem dX9_riding_7 : decode cX9_riding 7 = .ok (.iconst 3, 1) := by decide +kernel
theorem dX9_riding_8 : decode cX9_riding 8 = .ok (.iload_n 1, 1) := by decide +kernel
theorem dX9_riding_9 : decode cX9_riding 9 = .ok (.imul, 1) := by decide +kernel
theorem dX9_riding_10 : decode cX9_riding 10 = .ok (.aload_n 0, 1) := by decide +kernel
theorem dX9_riding_11 : decode cX9_riding 11 = .ok (.getfield 19, 3) := by decide +kernel
theorem dX9_riding_14 : decode cX9_riding 14 = .ok (.iload_n 1, 1) := by decide +kernel
theorem dX9_riding_15 : decode cX9_riding 15 = .ok (.iaload, 1) := by decide +kernel
theorem dX9_riding_16 : decode cX9_riding 16 = .ok (.iadd, 1) := by decide +kernel
theorem dX9_riding_17 : decode cX9_riding 17 = .ok (.if_icmp .ge 27, 3) := by decide +kernel
theorem dX9_riding_20 : decode cX9_riding 20 = .ok (.iload_n 2, 1) := by decide +kernel
theorem dX9_riding_21 : decode cX9_riding 21 = .ok (.aload_n 0, 1) := by decide +kernel
theorem dX9_riding_22 : decode cX9_riding 22 = .ok (.getfield 22, 3) := by decide +kernel
theorem dX9_riding_25 : decode cX9_riding 25 = .ok (.iload_n 3, 1) := by decide +kernel
theorem dX9_riding_26 : decode cX9_riding 26 = .ok (.iaload, 1) := by decide +kernel
theorem dX9_riding_27 : decode cX9_riding 27 = .ok (.iconst (-1), 1) := by decide +kernel
theorem dX9_riding_28 : decode cX9_riding 28 = .ok (.if_icmp .ne 7, 3) := by decide +kernel
theorem dX9_riding_31 : decode cX9_riding 31 = .ok (.iconst 0, 1) := by decide +kernel
theorem dX9_riding_32 : decode cX9_riding 32 = .ok (.goto 4, 3) := by decide +kernel
theorem dX9_riding_35 : decode cX9_riding 35 = .ok (.iconst 1, 1) := by decide +kernel
theorem dX9_riding_36 : decode cX9_riding 36 = .ok (.iadd, 1) := by decide +kernel
theorem dX9_riding_37 : decode cX9_riding 37 = .ok (.istore_n 2, 1) := by decide +kernel
theorem dX9_riding_38 : decode cX9_riding 38 = .ok (.iinc 3 1, 3) := by decide +kernel
theorem dX9_riding_41 : decode cX9_riding 41 = .ok (.goto (-35), 3) := by decide +kernel
theorem dX9_riding_44 : decode cX9_riding 44 = .ok (.iload_n 2, 1) := by decide +kernel
theorem dX9_riding_45 : decode cX9_riding 45 = .ok (.ireturn, 1) := by decide +kernel
theorem dX10_init_0 : decode cX10_init 0 = .ok (.aload_n 0, 1) := by decide +kernel
theorem dX10_init_1 : decode cX10_init 1 = .ok (.invokespecial 1, 3) := by decide +kernel
theorem dX10_init_4 : decode cX10_init 4 = .ok (.aload_n 0, 1) := by decide +kernel
theorem dX10_init_5 : decode cX10_init 5 = .ok (.bipush 8, 2) := by decide +kernel
theorem dX10_init_7 : decode cX10_init 7 = .ok (.newarray .int, 2) := by decide +kernel
theorem dX10_init_9 : decode cX10_init 9 = .ok (.putfield 9, 3) := by decide +kernel
theorem dX10_init_12 : decode cX10_init 12 = .ok (.aload_n 0, 1) := by decide +kernel
theorem dX10_init_13 : decode cX10_init 13 = .ok (.bipush 8, 2) := by decide +kernel
theorem dX10_init_15 : decode cX10_init 15 = .ok (.newarray .int, 2) := by decide +kernel
theorem dX10_init_17 : decode cX10_init 17 = .ok (.putfield 13, 3) := by decide +kernel
theorem dX10_init_20 : decode cX10_init 20 = .ok (.aload_n 0, 1) := by decide +kernel
theorem dX10_init_21 : decode cX10_init 21 = .ok (.bipush 8, 2) := by decide +kernel
theorem dX10_init_23 : decode cX10_init 23 = .ok (.newarray .int, 2) := by decide +kernel
theorem dX10_init_25 : decode cX10_init 25 = .ok (.putfield 16, 3) := by decide +kernel
theorem dX10_init_28 : decode cX10_init 28 = .ok (.aload_n 0, 1) := by decide +kernel
theorem dX10_init_29 : decode cX10_init 29 = .ok (.bipush 12, 2) := by decide +kernel
theorem dX10_init_31 : decode cX10_init 31 = .ok (.newarray .int, 2) := by decide +kernel
theorem dX10_init_33 : decode cX10_init 33 = .ok (.putfield 19, 3) := by decide +kernel
theorem dX10_init_36 : decode cX10_init 36 = .ok (.aload_n 0, 1) := by decide +kernel
theorem dX10_init_37 : decode cX10_init 37 = .ok (.bipush 12, 2) := by decide +kernel
theorem dX10_init_39 : decode cX10_init 39 = .ok (.newarray .int, 2) := by decide +kernel
theorem dX10_init_41 : decode cX10_init 41 = .ok (.putfield 22, 3) := by decide +kernel
theorem dX10_init_44 : decode cX10_init 44 = .ok (.aload_n 0, 1) := by decide +kernel
theorem dX10_init_45 : decode cX10_init 45 = .ok (.bipush 12, 2) := by decide +kernel
theorem dX10_init_47 : decode cX10_init 47 = .ok (.newarray .int, 2) := by decide +kernel
theorem dX10_init_49 : decode cX10_init 49 = .ok (.putfield 25, 3) := by decide +kernel
theorem dX10_init_52 : decode cX10_init 52 = .ok (.aload_n 0, 1) := by decide +kernel
theorem dX10_init_53 : decode cX10_init 53 = .ok (.bipush 12, 2) := by decide +kernel
theorem dX10_init_55 : decode cX10_init 55 = .ok (.newarray .int, 2) := by decide +kernel
theorem dX10_init_57 : decode cX10_init 57 = .ok (.putfield 28, 3) := by decide +kernel
theorem dX10_init_60 : decode cX10_init 60 = .ok (.aload_n 0, 1) := by decide +kernel
theorem dX10_init_61 : decode cX10_init 61 = .ok (.bipush 12, 2) := by decide +kernel
theorem dX10_init_63 : decode cX10_init 63 = .ok (.newarray .int, 2) := by decide +kernel
theorem dX10_init_65 : decode cX10_init 65 = .ok (.putfield 31, 3) := by decide +kernel
theorem dX10_init_68 : decode cX10_init 68 = .ok (.aload_n 0, 1) := by decide +kernel
theorem dX10_init_69 : decode cX10_init 69 = .ok (.bipush 12, 2) := by decide +kernel
theorem dX10_init_71 : decode cX10_init 71 = .ok (.newarray .int, 2) := by decide +kernel
theorem dX10_init_73 : decode cX10_init 73 = .ok (.putfield 34, 3) := by decide +kernel
theorem dX10_init_76 : decode cX10_init 76 = .ok (.aload_n 0, 1) := by decide +kernel
theorem dX10_init_77 : decode cX10_init 77 = .ok (.bipush 12, 2) := by decide +kernel
theorem dX10_init_79 : decode cX10_init 79 = .ok (.newarray .int, 2) := by decide +kernel
theorem dX10_init_81 : decode cX10_init 81 = .ok (.putfield 37, 3) := by decide +kernel
theorem dX10_init_84 : decode cX10_init 84 = .ok (.aload_n 0, 1) := by decide +kernel
theorem dX10_init_85 : decode cX10_init 85 = .ok (.new 40, 3) := by decide +kernel
theorem dX10_init_88 : decode cX10_init 88 = .ok (.dup, 1) := by decide +kernel
theorem dX10_init_89 : decode cX10_init 89 = .ok (.aload_n 0, 1) := by decide +kernel
theorem dX10_init_90 : decode cX10_init 90 = .ok (.invokespecial 42, 3) := by decide +kernel
theorem dX10_init_93 : decode cX10_init 93 = .ok (.putfield 45, 3) := by decide +kernel
theorem dX10_init_96 : decode cX10_init 96 = .ok (.aload_n 0, 1) := by decide +kernel
theorem dX10_init_97 : decode cX10_init 97 = .ok (.new 40, 3) := by decide +kernel
theorem dX10_init_100 : decode cX10_init 100 = .ok (.dup, 1) := by decide +kernel
theorem dX10_init_101 : decode cX10_init 101 = .ok (.aload_n 0, 1) := by decide +kernel
theorem dX10_init_102 : decode cX10_init 102 = .ok (.invokespecial 42, 3) := by decide +kernel
theorem dX10_init_105 : decode cX10_init 105 = .ok (.putfield 49, 3) := by decide +kernel
theorem dX10_init_108 : decode cX10_init 108 = .ok (.return_, 1) := by decide +kernel
theorem dX10_thrown_0 : decode cX10_thrown 0 = .ok (.aload_n 0, 1) := by decide +kernel
theorem dX10_thrown_1 : decode cX10_thrown 1 = .ok (.getfield 52, 3) := by decide +kernel
theorem dX10_thrown_4 : decode cX10_thrown 4 = .ok (.ireturn, 1) := by decide +kernel
theorem dX10_no_0 : decode cX10_no 0 = .ok (.aload_n 0, 1) := by decide +kernel
theorem dX10_no_1 : decode cX10_no 1 = .ok (.iload_n 1, 1) := by decide +kernel
theorem dX10_no_2 : decode cX10_no 2 = .ok (.putfield 52, 3) := by decide +kernel
theorem dX10_no_5 : decode cX10_no 5 = .ok (.iconst 0, 1) := by decide +kernel
theorem dX10_no_6 : decode cX10_no 6 = .ok (.ireturn, 1) := by decide +kernel
theorem dX10_isIn_0 : decode cX10_isIn 0 = .ok (.iload_n 0, 1) := by decide +kernel
theorem dX10_isIn_1 : decode cX10_isIn 1 = .ok (.iload_n 1, 1) := by decide +kernel
theorem dX10_isIn_2 : decode cX10_isIn 2 = .ok (.if_icmp .lt 12, 3) := by decide +kernel
theorem dX10_isIn_5 : decode cX10_isIn 5 = .ok (.iload_n 0, 1) := by decide +kernel
theorem dX10_isIn_6 : decode cX10_isIn 6 = .ok (.iload_n 2, 1) := by decide +kernel
theorem dX10_isIn_7 : decode cX10_isIn 7 = .ok (.if_icmp .gt 7, 3) := by decide +kernel
theorem dX10_isIn_10 : decode cX10_isIn 10 = .ok (.iconst 1, 1) := by decide +kernel
theorem dX10_isIn_11 : decode cX10_isIn 11 = .ok (.goto 4, 3) := by decide +kernel
theorem dX10_isIn_14 : decode cX10_isIn 14 = .ok (.iconst 0, 1) := by decide +kernel
theorem dX10_isIn_15 : decode cX10_isIn 15 = .ok (.ireturn, 1) := by decide +kernel
theorem dX10_isPlatform_0 : decode cX10_isPlatform 0 = .ok (.iload_n 1, 1) := by decide +kernel
theorem dX10_isPlatform_1 : decode cX10_isPlatform 1 = .ok (.iconst 0, 1) := by decide +kernel
theorem dX10_isPlatform_2 : decode cX10_isPlatform 2 = .ok (.aload_n 0, 1) := by decide +kernel
theorem dX10_isPlatform_3 : decode cX10_isPlatform 3 = .ok (.getfield 56, 3) := by decide +kernel
theorem dX10_isPlatform_6 : decode cX10_isPlatform 6 = .ok (.iconst 1, 1) := by decide +kernel
theorem dX10_isPlatform_7 : decode cX10_isPlatform 7 = .ok (.isub, 1) := by decide +kernel
theorem dX10_isPlatform_8 : decode cX10_isPlatform 8 = .ok (.invokestatic 59, 3) := by decide +kernel
theorem dX10_isPlatform_11 : decode cX10_isPlatform 11 = .ok (.ireturn, 1) := by decide +kernel
theorem dX10_isLine_0 : decode cX10_isLine 0 = .ok (.iload_n 1, 1) := by decide +kernel
theorem dX10_isLine_1 : decode cX10_isLine 1 = .ok (.iconst 0, 1) := by decide +kernel
theorem dX10_isLine_2 : decode cX10_isLine 2 = .ok (.aload_n 0, 1) := by decide +kernel
theorem dX10_isLine_3 : decode cX10_isLine 3 = .ok (.getfield 63, 3) := by decide +kernel
theorem dX10_isLine_6 : decode cX10_isLine 6 = .ok (.iconst 1, 1) := by decide +kernel
theorem dX10_isLine_7 : decode cX10_isLine 7 = .ok (.isub, 1) := by decide +kernel
theorem dX10_isLine_8 : decode cX10_isLine 8 = .ok (.invokestatic 59, 3) := by decide +kernel
theorem dX10_isLine_11 : decode cX10_isLine 11 = .ok (.ireturn, 1) := by decide +kernel
theorem dX10_lengthOf_0 : decode cX10_lengthOf 0 = .ok (.aload_n 0, 1) := by decide +kernel
theorem dX10_lengthOf_1 : decode cX10_lengthOf 1 = .ok (.getfield 9, 3) := by decide +kernel
theorem dX10_lengthOf_4 : decode cX10_lengthOf 4 = .ok (.aload_n 0, 1) := by decide +kernel
theorem dX10_lengthOf_5 : decode cX10_lengthOf 5 = .ok (.getfield 19, 3) := by decide +kernel
theorem dX10_lengthOf_8 : decode cX10_lengthOf 8 = .ok (.iload_n 1, 1) := by decide +kernel
theorem dX10_lengthOf_9 : decode cX10_lengthOf 9 = .ok (.iaload, 1) := by decide +kernel
theorem dX10_lengthOf_10 : decode cX10_lengthOf 10 = .ok (.iaload, 1) := by decide +kernel
theorem dX10_lengthOf_11 : decode cX10_lengthOf 11 = .ok (.aload_n 0, 1) := by decide +kernel
theorem dX10_lengthOf_12 : decode cX10_lengthOf 12 = .ok (.getfield 9, 3) := by decide +kernel
theorem dX10_lengthOf_15 : decode cX10_lengthOf 15 = .ok (.aload_n 0, 1) := by decide +kernel
theorem dX10_lengthOf_16 : decode cX10_lengthOf 16 = .ok (.getfield 22, 3) := by decide +kernel
theorem dX10_lengthOf_19 : decode cX10_lengthOf 19 = .ok (.iload_n 1, 1) := by decide +kernel
theorem dX10_lengthOf_20 : decode cX10_lengthOf 20 = .ok (.iaload, 1) := by decide +kernel
theorem dX10_lengthOf_21 : decode cX10_lengthOf 21 = .ok (.iaload, 1) := by decide +kernel
theorem dX10_lengthOf_22 : decode cX10_lengthOf 22 = .ok (.isub, 1) := by decide +kernel
theorem dX10_lengthOf_23 : decode cX10_lengthOf 23 = .ok (.invokestatic 66, 3) := by decide +kernel
theorem dX10_lengthOf_26 : decode cX10_lengthOf 26 = .ok (.aload_n 0, 1) := by decide +kernel
theorem dX10_lengthOf_27 : decode cX10_lengthOf 27 = .ok (.getfield 13, 3) := by decide +kernel
theorem dX10_lengthOf_30 : decode cX10_lengthOf 30 = .ok (.aload_n 0, 1) := by decide +kernel
theorem dX10_lengthOf_31 : decode cX10_lengthOf 31 = .ok (.getfield 19, 3) := by decide +kernel
theorem dX10_lengthOf_34 : decode cX10_lengthOf 34 = .ok (.iload_n 1, 1) := by decide +kernel
theorem dX10_lengthOf_35 : decode cX10_lengthOf 35 = .ok (.iaload, 1) := by decide +kernel
theorem dX10_lengthOf_36 : decode cX10_lengthOf 36 = .ok (.iaload, 1) := by decide +kernel
theorem dX10_lengthOf_37 : decode cX10_lengthOf 37 = .ok (.aload_n 0, 1) := by decide +kernel
theorem dX10_lengthOf_38 : decode cX10_lengthOf 38 = .ok (.getfield 13, 3) := by decide +kernel
theorem dX10_lengthOf_41 : decode cX10_lengthOf 41 = .ok (.aload_n 0, 1) := by decide +kernel
theorem dX10_lengthOf_42 : decode cX10_lengthOf 42 = .ok (.getfield 22, 3) := by decide +kernel
theorem dX10_lengthOf_45 : decode cX10_lengthOf 45 = .ok (.iload_n 1, 1) := by decide +kernel
theorem dX10_lengthOf_46 : decode cX10_lengthOf 46 = .ok (.iaload, 1) := by decide +kernel
theorem dX10_lengthOf_47 : decode cX10_lengthOf 47 = .ok (.iaload, 1) := by decide +kernel
theorem dX10_lengthOf_48 : decode cX10_lengthOf 48 = .ok (.isub, 1) := by decide +kernel
theorem dX10_lengthOf_49 : decode cX10_lengthOf 49 = .ok (.invokestatic 66, 3) := by decide +kernel
theorem dX10_lengthOf_52 : decode cX10_lengthOf 52 = .ok (.iadd, 1) := by decide +kernel
theorem dX10_lengthOf_53 : decode cX10_lengthOf 53 = .ok (.ireturn, 1) := by decide +kernel
theorem dX10_dropOf_0 : decode cX10_dropOf 0 = .ok (.aload_n 0, 1) := by decide +kernel
theorem dX10_dropOf_1 : decode cX10_dropOf 1 = .ok (.getfield 16, 3) := by decide +kernel
theorem dX10_dropOf_4 : decode cX10_dropOf 4 = .ok (.aload_n 0, 1) := by decide +kernel
theorem dX10_dropOf_5 : decode cX10_dropOf 5 = .ok (.getfield 19, 3) := by decide +kernel
theorem dX10_dropOf_8 : decode cX10_dropOf 8 = .ok (.iload_n 1, 1) := by decide +kernel
theorem dX10_dropOf_9 : decode cX10_dropOf 9 = .ok (.iaload, 1) := by decide +kernel
theorem dX10_dropOf_10 : decode cX10_dropOf 10 = .ok (.iaload, 1) := by decide +kernel
theorem dX10_dropOf_11 : decode cX10_dropOf 11 = .ok (.aload_n 0, 1) := by decide +kernel
theorem dX10_dropOf_12 : decode cX10_dropOf 12 = .ok (.getfield 16, 3) := by decide +kernel
theorem dX10_dropOf_15 : decode cX10_dropOf 15 = .ok (.aload_n 0, 1) := by decide +kernel
theorem dX10_dropOf_16 : decode cX10_dropOf 16 = .ok (.getfield 22, 3) := by decide +kernel
theorem dX10_dropOf_19 : decode cX10_dropOf 19 = .ok (.iload_n 1, 1) := by decide +kernel
theorem dX10_dropOf_20 : decode cX10_dropOf 20 = .ok (.iaload, 1) := by decide +kernel
theorem dX10_dropOf_21 : decode cX10_dropOf 21 = .ok (.iaload, 1) := by decide +kernel
theorem dX10_dropOf_22 : decode cX10_dropOf 22 = .ok (.isub, 1) := by decide +kernel
theorem dX10_dropOf_23 : decode cX10_dropOf 23 = .ok (.ireturn, 1) := by decide +kernel
theorem dX10_isClosed_0 : decode cX10_isClosed 0 = .ok (.aload_n 0, 1) := by decide +kernel
theorem dX10_isClosed_1 : decode cX10_isClosed 1 = .ok (.iload_n 1, 1) := by decide +kernel
theorem dX10_isClosed_2 : decode cX10_isClosed 2 = .ok (.invokevirtual 72, 3) := by decide +kernel
theorem dX10_isClosed_5 : decode cX10_isClosed 5 = .ok (.bipush 80, 2) := by decide +kernel
theorem dX10_isClosed_7 : decode cX10_isClosed 7 = .ok (.bipush 8, 2) := by decide +kernel
theorem dX10_isClosed_9 : decode cX10_isClosed 9 = .ok (.aload_n 0, 1) := by decide +kernel
theorem dX10_isClosed_10 : decode cX10_isClosed 10 = .ok (.getfield 28, 3) := by decide +kernel
theorem dX10_isClosed_13 : decode cX10_isClosed 13 = .ok (.iload_n 2, 1) := by decide +kernel
theorem dX10_isClosed_14 : decode cX10_isClosed 14 = .ok (.bipush 12, 2) := by decide +kernel
theorem dX10_isClosed_16 : decode cX10_isClosed 16 = .ok (.irem, 1) := by decide +kernel
theorem dX10_isClosed_17 : decode cX10_isClosed 17 = .ok (.iaload, 1) := by decide +kernel
theorem dX10_isClosed_18 : decode cX10_isClosed 18 = .ok (.imul, 1) := by decide +kernel
theorem dX10_isClosed_19 : decode cX10_isClosed 19 = .ok (.isub, 1) := by decide +kernel
theorem dX10_isClosed_20 : decode cX10_isClosed 20 = .ok (.if_icmp .le 7, 3) := by decide +kernel
theorem dX10_isClosed_23 : decode cX10_isClosed 23 = .ok (.iconst 1, 1) := by decide +kernel
theorem dX10_isClosed_24 : decode cX10_isClosed 24 = .ok (.goto 4, 3) := by decide +kernel
theorem dX10_isClosed_27 : decode cX10_isClosed 27 = .ok (.iconst 0, 1) := by decide +kernel
theorem dX10_isClosed_28 : decode cX10_isClosed 28 = .ok (.ireturn, 1) := by decide +kernel
theorem dX10_rideOf_0 : decode cX10_rideOf 0 = .ok (.aload_n 0, 1) := by decide +kernel
theorem dX10_rideOf_1 : decode cX10_rideOf 1 = .ok (.iload_n 1, 1) := by decide +kernel
theorem dX10_rideOf_2 : decode cX10_rideOf 2 = .ok (.invokevirtual 75, 3) := by decide +kernel
theorem dX10_rideOf_5 : decode cX10_rideOf 5 = .ok (.iload_n 2, 1) := by decide +kernel
theorem dX10_rideOf_6 : decode cX10_rideOf 6 = .ok (.bipush 10, 2) := by decide +kernel
theorem dX10_rideOf_8 : decode cX10_rideOf 8 = .ok (.idiv, 1) := by decide +kernel
theorem dX10_rideOf_9 : decode cX10_rideOf 9 = .ok (.iadd, 1) := by decide +kernel
theorem dX10_rideOf_10 : decode cX10_rideOf 10 = .ok (.istore_n 3, 1) := by decide +kernel
theorem dX10_rideOf_11 : decode cX10_rideOf 11 = .ok (.iconst 2, 1) := by decide +kernel
theorem dX10_rideOf_12 : decode cX10_rideOf 12 = .ok (.aload_n 0, 1) := by decide +kernel
theorem dX10_rideOf_13 : decode cX10_rideOf 13 = .ok (.iload_n 1, 1) := by decide +kernel
theorem dX10_rideOf_14 : decode cX10_rideOf 14 = .ok (.invokevirtual 72, 3) := by decide +kernel
theorem dX10_rideOf_17 : decode cX10_rideOf 17 = .ok (.imul, 1) := by decide +kernel
theorem dX10_rideOf_18 : decode cX10_rideOf 18 = .ok (.iload_n 3, 1) := by decide +kernel
theorem dX10_rideOf_19 : decode cX10_rideOf 19 = .ok (.iadd, 1) := by decide +kernel
theorem dX10_rideOf_20 : decode cX10_rideOf 20 = .ok (.iconst 1, 1) := by decide +kernel
theorem dX10_rideOf_21 : decode cX10_rideOf 21 = .ok (.isub, 1) := by decide +kernel
theorem dX10_rideOf_22 : decode cX10_rideOf 22 = .ok (.iload_n 3, 1) := by decide +kernel
theorem dX10_rideOf_23 : decode cX10_rideOf 23 = .ok (.idiv, 1) := by decide +kernel
theorem dX10_rideOf_24 : decode cX10_rideOf 24 = .ok (.istore 4, 2) := by decide +kernel
theorem dX10_rideOf_26 : decode cX10_rideOf 26 = .ok (.iload_n 2, 1) := by decide +kernel
theorem dX10_rideOf_27 : decode cX10_rideOf 27 = .ok (.aload_n 0, 1) := by decide +kernel
theorem dX10_rideOf_28 : decode cX10_rideOf 28 = .ok (.iload_n 1, 1) := by decide +kernel
theorem dX10_rideOf_29 : decode cX10_rideOf 29 = .ok (.invokevirtual 75, 3) := by decide +kernel
theorem dX10_rideOf_32 : decode cX10_rideOf 32 = .ok (.imul, 1) := by decide +kernel
theorem dX10_rideOf_33 : decode cX10_rideOf 33 = .ok (.bipush 10, 2) := by decide +kernel
theorem dX10_rideOf_35 : decode cX10_rideOf 35 = .ok (.aload_n 0, 1) := by decide +kernel
theorem dX10_rideOf_36 : decode cX10_rideOf 36 = .ok (.iload_n 1, 1) := by decide +kernel
theorem dX10_rideOf_37 : decode cX10_rideOf 37 = .ok (.invokevirtual 72, 3) := by decide +kernel
theorem dX10_rideOf_40 : decode cX10_rideOf 40 = .ok (.imul, 1) := by decide +kernel
theorem dX10_rideOf_41 : decode cX10_rideOf 41 = .ok (.if_icmp .ge 11, 3) := by decide +kernel
theorem dX10_rideOf_44 : decode cX10_rideOf 44 = .ok (.bipush (-2), 2) := by decide +kernel
theorem dX10_rideOf_46 : decode cX10_rideOf 46 = .ok (.iload 4, 2) := by decide +kernel
theorem dX10_rideOf_48 : decode cX10_rideOf 48 = .ok (.imul, 1) := by decide +kernel
theorem dX10_rideOf_49 : decode cX10_rideOf 49 = .ok (.goto 5, 3) := by decide +kernel
theorem dX10_rideOf_52 : decode cX10_rideOf 52 = .ok (.iload 4, 2) := by decide +kernel
theorem dX10_rideOf_54 : decode cX10_rideOf 54 = .ok (.ireturn, 1) := by decide +kernel
theorem dX10_fewest_0 : decode cX10_fewest 0 = .ok (.iload_n 1, 1) := by decide +kernel
theorem dX10_fewest_1 : decode cX10_fewest 1 = .ok (.iload_n 2, 1) := by decide +kernel
theorem dX10_fewest_2 : decode cX10_fewest 2 = .ok (.if_icmp .ne 5, 3) := by decide +kernel
theorem dX10_fewest_5 : decode cX10_fewest 5 = .ok (.iconst 0, 1) := by decide +kernel
theorem dX10_fewest_6 : decode cX10_fewest 6 = .ok (.ireturn, 1) := by decide +kernel
theorem dX10_fewest_7 : decode cX10_fewest 7 = .ok (.iconst (-1), 1) := by decide +kernel
theorem dX10_fewest_8 : decode cX10_fewest 8 = .ok (.istore 4, 2) := by decide +kernel
theorem dX10_fewest_10 : decode cX10_fewest 10 = .ok (.iconst 0, 1) := by decide +kernel
theorem dX10_fewest_11 : decode cX10_fewest 11 = .ok (.istore 5, 2) := by decide +kernel
theorem dX10_fewest_13 : decode cX10_fewest 13 = .ok (.iload 5, 2) := by decide +kernel
theorem dX10_fewest_15 : decode cX10_fewest 15 = .ok (.aload_n 0, 1) := by decide +kernel
theorem dX10_fewest_16 : decode cX10_fewest 16 = .ok (.getfield 63, 3) := by decide +kernel
theorem dX10_fewest_19 : decode cX10_fewest 19 = .ok (.if_icmp .ge 76, 3) := by decide +kernel
theorem dX10_fewest_22 : decode cX10_fewest 22 = .ok (.aload_n 0, 1) := by decide +kernel
theorem dX10_fewest_23 : decode cX10_fewest 23 = .ok (.getfield 19, 3) := by decide +kernel
theorem dX10_fewest_26 : decode cX10_fewest 26 = .ok (.iload 5, 2) := by decide +kernel
theorem dX10_fewest_28 : decode cX10_fewest 28 = .ok (.iaload, 1) := by decide +kernel
theorem dX10_fewest_29 : decode cX10_fewest 29 = .ok (.iload_n 1, 1) := by decide +kernel
theorem dX10_fewest_30 : decode cX10_fewest 30 = .ok (.if_icmp .ne 59, 3) := by decide +kernel
theorem dX10_fewest_33 : decode cX10_fewest 33 = .ok (.aload_n 0, 1) := by decide +kernel
theorem dX10_fewest_34 : decode cX10_fewest 34 = .ok (.getfield 25, 3) := by decide +kernel
theorem dX10_fewest_37 : decode cX10_fewest 37 = .ok (.iload 5, 2) := by decide +kernel
theorem dX10_fewest_39 : decode cX10_fewest 39 = .ok (.iaload, 1) := by decide +kernel
theorem dX10_fewest_40 : decode cX10_fewest 40 = .ok (.iload_n 3, 1) := by decide +kernel
theorem dX10_fewest_41 : decode cX10_fewest 41 = .ok (.if_icmp .ge 6, 3) := by decide +kernel
theorem dX10_fewest_44 : decode cX10_fewest 44 = .ok (.goto 45, 3) := by decide +kernel
theorem dX10_fewest_47 : decode cX10_fewest 47 = .ok (.aload_n 0, 1) := by decide +kernel
theorem dX10_fewest_48 : decode cX10_fewest 48 = .ok (.aload_n 0, 1) := by decide +kernel
theorem dX10_fewest_49 : decode cX10_fewest 49 = .ok (.getfield 22, 3) := by decide +kernel
theorem dX10_fewest_52 : decode cX10_fewest 52 = .ok (.iload 5, 2) := by decide +kernel
theorem dX10_fewest_54 : decode cX10_fewest 54 = .ok (.iaload, 1) := by decide +kernel
theorem dX10_fewest_55 : decode cX10_fewest 55 = .ok (.iload_n 2, 1) := by decide +kernel
theorem dX10_fewest_56 : decode cX10_fewest 56 = .ok (.iload_n 3, 1) := by decide +kernel
theorem dX10_fewest_57 : decode cX10_fewest 57 = .ok (.invokevirtual 78, 3) := by decide +kernel
theorem dX10_fewest_60 : decode cX10_fewest 60 = .ok (.istore 6, 2) := by decide +kernel
theorem dX10_fewest_62 : decode cX10_fewest 62 = .ok (.iload 6, 2) := by decide +kernel
theorem dX10_fewest_64 : decode cX10_fewest 64 = .ok (.iconst (-1), 1) := by decide +kernel
theorem dX10_fewest_65 : decode cX10_fewest 65 = .ok (.if_icmp .eq 24, 3) := by decide +kernel
theorem dX10_fewest_68 : decode cX10_fewest 68 = .ok (.iload 4, 2) := by decide +kernel
theorem dX10_fewest_70 : decode cX10_fewest 70 = .ok (.iconst (-1), 1) := by decide +kernel
theorem dX10_fewest_71 : decode cX10_fewest 71 = .ok (.if_icmp .eq 12, 3) := by decide +kernel
theorem dX10_fewest_74 : decode cX10_fewest 74 = .ok (.iload 6, 2) := by decide +kernel
theorem dX10_fewest_76 : decode cX10_fewest 76 = .ok (.iconst 1, 1) := by decide +kernel
theorem dX10_fewest_77 : decode cX10_fewest 77 = .ok (.iadd, 1) := by decide +kernel
theorem dX10_fewest_78 : decode cX10_fewest 78 = .ok (.iload 4, 2) := by decide +kernel
theorem dX10_fewest_80 : decode cX10_fewest 80 = .ok (.if_icmp .ge 9, 3) := by decide +kernel
theorem dX10_fewest_83 : decode cX10_fewest 83 = .ok (.iload 6, 2) := by decide +kernel
theorem dX10_fewest_85 : decode cX10_fewest 85 = .ok (.iconst 1, 1) := by decide +kernel
theorem dX10_fewest_86 : decode cX10_fewest 86 = .ok (.iadd, 1) := by decide +kernel
theorem dX10_fewest_87 : decode cX10_fewest 87 = .ok (.istore 4, 2) := by decide +kernel
theorem dX10_fewest_89 : decode cX10_fewest 89 = .ok (.iinc 5 1, 3) := by decide +kernel
theorem dX10_fewest_92 : decode cX10_fewest 92 = .ok (.goto (-79), 3) := by decide +kernel
theorem dX10_fewest_95 : decode cX10_fewest 95 = .ok (.iload 4, 2) := by decide +kernel
theorem dX10_fewest_97 : decode cX10_fewest 97 = .ok (.ireturn, 1) := by decide +kernel
theorem dX10_first_0 : decode cX10_first 0 = .ok (.aload_n 0, 1) := by decide +kernel
theorem dX10_first_1 : decode cX10_first 1 = .ok (.iload_n 1, 1) := by decide +kernel
theorem dX10_first_2 : decode cX10_first 2 = .ok (.iload_n 2, 1) := by decide +kernel
theorem dX10_first_3 : decode cX10_first 3 = .ok (.iload_n 3, 1) := by decide +kernel
theorem dX10_first_4 : decode cX10_first 4 = .ok (.invokevirtual 78, 3) := by decide +kernel
theorem dX10_first_7 : decode cX10_first 7 = .ok (.istore 4, 2) := by decide +kernel
theorem dX10_first_9 : decode cX10_first 9 = .ok (.iconst 0, 1) := by decide +kernel
theorem dX10_first_10 : decode cX10_first 10 = .ok (.istore 5, 2) := by decide +kernel
theorem dX10_first_12 : decode cX10_first 12 = .ok (.iload 5, 2) := by decide +kernel
theorem dX10_first_14 : decode cX10_first 14 = .ok (.aload_n 0, 1) := by decide +kernel
theorem dX10_first_15 : decode cX10_first 15 = .ok (.getfield 63, 3) := by decide +kernel
theorem dX10_first_18 : decode cX10_first 18 = .ok (.if_icmp .ge 59, 3) := by decide +kernel
theorem dX10_first_21 : decode cX10_first 21 = .ok (.iload 4, 2) := by decide +kernel
theorem dX10_first_23 : decode cX10_first 23 = .ok (.ifCond .le 54, 3) := by decide +kernel
theorem dX10_first_26 : decode cX10_first 26 = .ok (.aload_n 0, 1) := by decide +kernel
theorem dX10_first_27 : decode cX10_first 27 = .ok (.getfield 19, 3) := by decide +kernel
theorem dX10_first_30 : decode cX10_first 30 = .ok (.iload 5, 2) := by decide +kernel
theorem dX10_first_32 : decode cX10_first 32 = .ok (.iaload, 1) := by decide +kernel
theorem dX10_first_33 : decode cX10_first 33 = .ok (.iload_n 1, 1) := by decide +kernel
theorem dX10_first_34 : decode cX10_first 34 = .ok (.if_icmp .ne 37, 3) := by decide +kernel
theorem dX10_first_37 : decode cX10_first 37 = .ok (.aload_n 0, 1) := by decide +kernel
theorem dX10_first_38 : decode cX10_first 38 = .ok (.getfield 25, 3) := by decide +kernel
theorem dX10_first_41 : decode cX10_first 41 = .ok (.iload 5, 2) := by decide +kernel
theorem dX10_first_43 : decode cX10_first 43 = .ok (.iaload, 1) := by decide +kernel
theorem dX10_first_44 : decode cX10_first 44 = .ok (.iload_n 3, 1) := by decide +kernel
theorem dX10_first_45 : decode cX10_first 45 = .ok (.if_icmp .lt 26, 3) := by decide +kernel
theorem dX10_first_48 : decode cX10_first 48 = .ok (.aload_n 0, 1) := by decide +kernel
theorem dX10_first_49 : decode cX10_first 49 = .ok (.aload_n 0, 1) := by decide +kernel
theorem dX10_first_50 : decode cX10_first 50 = .ok (.getfield 22, 3) := by decide +kernel
theorem dX10_first_53 : decode cX10_first 53 = .ok (.iload 5, 2) := by decide +kernel
theorem dX10_first_55 : decode cX10_first 55 = .ok (.iaload, 1) := by decide +kernel
theorem dX10_first_56 : decode cX10_first 56 = .ok (.iload_n 2, 1) := by decide +kernel
theorem dX10_first_57 : decode cX10_first 57 = .ok (.iload_n 3, 1) := by decide +kernel
theorem dX10_first_58 : decode cX10_first 58 = .ok (.invokevirtual 78, 3) := by decide +kernel
theorem dX10_first_61 : decode cX10_first 61 = .ok (.iload 4, 2) := by decide +kernel
theorem dX10_first_63 : decode cX10_first 63 = .ok (.iconst 1, 1) := by decide +kernel
theorem dX10_first_64 : decode cX10_first 64 = .ok (.isub, 1) := by decide +kernel
theorem dX10_first_65 : decode cX10_first 65 = .ok (.if_icmp .ne 6, 3) := by decide +kernel
theorem dX10_first_68 : decode cX10_first 68 = .ok (.iload 5, 2) := by decide +kernel
theorem dX10_first_70 : decode cX10_first 70 = .ok (.ireturn, 1) := by decide +kernel
theorem dX10_first_71 : decode cX10_first 71 = .ok (.iinc 5 1, 3) := by decide +kernel
theorem dX10_first_74 : decode cX10_first 74 = .ok (.goto (-62), 3) := by decide +kernel
theorem dX10_first_77 : decode cX10_first 77 = .ok (.iconst (-1), 1) := by decide +kernel
theorem dX10_first_78 : decode cX10_first 78 = .ok (.ireturn, 1) := by decide +kernel
theorem dX10_build_0 : decode cX10_build 0 = .ok (.aload_n 0, 1) := by decide +kernel
theorem dX10_build_1 : decode cX10_build 1 = .ok (.iconst 0, 1) := by decide +kernel
theorem dX10_build_2 : decode cX10_build 2 = .ok (.putfield 52, 3) := by decide +kernel
theorem dX10_build_5 : decode cX10_build 5 = .ok (.iload_n 1, 1) := by decide +kernel
theorem dX10_build_6 : decode cX10_build 6 = .ok (.iconst 0, 1) := by decide +kernel
theorem dX10_build_7 : decode cX10_build 7 = .ok (.bipush 40, 2) := by decide +kernel
theorem dX10_build_9 : decode cX10_build 9 = .ok (.invokestatic 59, 3) := by decide +kernel
theorem dX10_build_12 : decode cX10_build 12 = .ok (.ifCond .eq 23, 3) := by decide +kernel
theorem dX10_build_15 : decode cX10_build 15 = .ok (.iload_n 2, 1) := by decide +kernel
theorem dX10_build_16 : decode cX10_build 16 = .ok (.iconst 0, 1) := by decide +kernel
theorem dX10_build_17 : decode cX10_build 17 = .ok (.bipush 40, 2) := by decide +kernel
theorem dX10_build_19 : decode cX10_build 19 = .ok (.invokestatic 59, 3) := by decide +kernel
theorem dX10_build_22 : decode cX10_build 22 = .ok (.ifCond .eq 13, 3) := by decide +kernel
theorem dX10_build_25 : decode cX10_build 25 = .ok (.iload_n 3, 1) := by decide +kernel
theorem dX10_build_26 : decode cX10_build 26 = .ok (.iconst 0, 1) := by decide +kernel
theorem dX10_build_27 : decode cX10_build 27 = .ok (.bipush 60, 2) := by decide +kernel
theorem dX10_build_29 : decode cX10_build 29 = .ok (.invokestatic 59, 3) := by decide +kernel
theorem dX10_build_32 : decode cX10_build 32 = .ok (.ifCond .ne 9, 3) := by decide +kernel
theorem dX10_build_35 : decode cX10_build 35 = .ok (.aload_n 0, 1) := by decide +kernel
theorem dX10_build_36 : decode cX10_build 36 = .ok (.iconst 1, 1) := by decide +kernel
theorem dX10_build_37 : decode cX10_build 37 = .ok (.invokevirtual 82, 3) := by decide +kernel
theorem dX10_build_40 : decode cX10_build 40 = .ok (.ireturn, 1) := by decide +kernel
theorem dX10_build_41 : decode cX10_build 41 = .ok (.aload_n 0, 1) := by decide +kernel
theorem dX10_build_42 : decode cX10_build 42 = .ok (.getfield 56, 3) := by decide +kernel
theorem dX10_build_45 : decode cX10_build 45 = .ok (.bipush 8, 2) := by decide +kernel
theorem dX10_build_47 : decode cX10_build 47 = .ok (.if_icmp .ge 7, 3) := by decide +kernel
theorem dX10_build_50 : decode cX10_build 50 = .ok (.iconst 1, 1) := by decide +kernel
theorem dX10_build_51 : decode cX10_build 51 = .ok (.goto 4, 3) := by decide +kernel
theorem dX10_build_54 : decode cX10_build 54 = .ok (.iconst 0, 1) := by decide +kernel
theorem dX10_build_55 : decode cX10_build 55 = .ok (.istore 4, 2) := by decide +kernel
theorem dX10_build_57 : decode cX10_build 57 = .ok (.iconst 0, 1) := by decide +kernel
theorem dX10_build_58 : decode cX10_build 58 = .ok (.istore 5, 2) := by decide +kernel
theorem dX10_build_60 : decode cX10_build 60 = .ok (.iload 5, 2) := by decide +kernel
theorem dX10_build_62 : decode cX10_build 62 = .ok (.aload_n 0, 1) := by decide +kernel
theorem dX10_build_63 : decode cX10_build 63 = .ok (.getfield 56, 3) := by decide +kernel
theorem dX10_build_66 : decode cX10_build 66 = .ok (.if_icmp .ge 43, 3) := by decide +kernel
theorem dX10_build_69 : decode cX10_build 69 = .ok (.iload 4, 2) := by decide +kernel
theorem dX10_build_71 : decode cX10_build 71 = .ok (.ifCond .eq 29, 3) := by decide +kernel
theorem dX10_build_74 : decode cX10_build 74 = .ok (.aload_n 0, 1) := by decide +kernel
theorem dX10_build_75 : decode cX10_build 75 = .ok (.getfield 9, 3) := by decide +kernel
theorem dX10_build_78 : decode cX10_build 78 = .ok (.iload 5, 2) := by decide +kernel
theorem dX10_build_80 : decode cX10_build 80 = .ok (.iaload, 1) := by decide +kernel
theorem dX10_build_81 : decode cX10_build 81 = .ok (.iload_n 1, 1) := by decide +kernel
theorem dX10_build_82 : decode cX10_build 82 = .ok (.if_icmp .ne 14, 3) := by decide +kernel
theorem dX10_build_85 : decode cX10_build 85 = .ok (.aload_n 0, 1) := by decide +kernel
theorem dX10_build_86 : decode cX10_build 86 = .ok (.getfield 13, 3) := by decide +kernel
theorem dX10_build_89 : decode cX10_build 89 = .ok (.iload 5, 2) := by decide +kernel
theorem dX10_build_91 : decode cX10_build 91 = .ok (.iaload, 1) := by decide +kernel
theorem dX10_build_92 : decode cX10_build 92 = .ok (.iload_n 2, 1) := by decide +kernel
theorem dX10_build_93 : decode cX10_build 93 = .ok (.if_icmp .eq 7, 3) := by decide +kernel
theorem dX10_build_96 : decode cX10_build 96 = .ok (.iconst 1, 1) := by decide +kernel
theorem dX10_build_97 : decode cX10_build 97 = .ok (.goto 4, 3) := by decide +kernel
theorem dX10_build_100 : decode cX10_build 100 = .ok (.iconst 0, 1) := by decide +kernel
theorem dX10_build_101 : decode cX10_build 101 = .ok (.istore 4, 2) := by decide +kernel
theorem dX10_build_103 : decode cX10_build 103 = .ok (.iinc 5 1, 3) := by decide +kernel
theorem dX10_build_106 : decode cX10_build 106 = .ok (.goto (-46), 3) := by decide +kernel
theorem dX10_build_109 : decode cX10_build 109 = .ok (.iload 4, 2) := by decide +kernel
theorem dX10_build_111 : decode cX10_build 111 = .ok (.ifCond .ne 9, 3) := by decide +kernel
theorem dX10_build_114 : decode cX10_build 114 = .ok (.aload_n 0, 1) := by decide +kernel
theorem dX10_build_115 : decode cX10_build 115 = .ok (.iconst 2, 1) := by decide +kernel
theorem dX10_build_116 : decode cX10_build 116 = .ok (.invokevirtual 82, 3) := by decide +kernel
theorem dX10_build_119 : decode cX10_build 119 = .ok (.ireturn, 1) := by decide +kernel
theorem dX10_build_120 : decode cX10_build 120 = .ok (.aload_n 0, 1) := by decide +kernel
theorem dX10_build_121 : decode cX10_build 121 = .ok (.getfield 9, 3) := by decide +kernel
theorem dX10_build_124 : decode cX10_build 124 = .ok (.aload_n 0, 1) := by decide +kernel
theorem dX10_build_125 : decode cX10_build 125 = .ok (.getfield 56, 3) := by decide +kernel
theorem dX10_build_128 : decode cX10_build 128 = .ok (.iload_n 1, 1) := by decide +kernel
theorem dX10_build_129 : decode cX10_build 129 = .ok (.iastore, 1) := by decide +kernel
theorem dX10_build_130 : decode cX10_build 130 = .ok (.aload_n 0, 1) := by decide +kernel
theorem dX10_build_131 : decode cX10_build 131 = .ok (.getfield 13, 3) := by decide +kernel
theorem dX10_build_134 : decode cX10_build 134 = .ok (.aload_n 0, 1) := by decide +kernel
theorem dX10_build_135 : decode cX10_build 135 = .ok (.getfield 56, 3) := by decide +kernel
theorem dX10_build_138 : decode cX10_build 138 = .ok (.iload_n 2, 1) := by decide +kernel
theorem dX10_build_139 : decode cX10_build 139 = .ok (.iastore, 1) := by decide +kernel
theorem dX10_build_140 : decode cX10_build 140 = .ok (.aload_n 0, 1) := by decide +kernel
theorem dX10_build_141 : decode cX10_build 141 = .ok (.getfield 16, 3) := by decide +kernel
theorem dX10_build_144 : decode cX10_build 144 = .ok (.aload_n 0, 1) := by decide +kernel
theorem dX10_build_145 : decode cX10_build 145 = .ok (.getfield 56, 3) := by decide +kernel
theorem dX10_build_148 : decode cX10_build 148 = .ok (.iload_n 3, 1) := by decide +kernel
theorem dX10_build_149 : decode cX10_build 149 = .ok (.iastore, 1) := by decide +kernel
theorem dX10_build_150 : decode cX10_build 150 = .ok (.aload_n 0, 1) := by decide +kernel
theorem dX10_build_151 : decode cX10_build 151 = .ok (.dup, 1) := by decide +kernel
theorem dX10_build_152 : decode cX10_build 152 = .ok (.getfield 56, 3) := by decide +kernel
theorem dX10_build_155 : decode cX10_build 155 = .ok (.iconst 1, 1) := by decide +kernel
theorem dX10_build_156 : decode cX10_build 156 = .ok (.iadd, 1) := by decide +kernel
theorem dX10_build_157 : decode cX10_build 157 = .ok (.putfield 56, 3) := by decide +kernel
theorem dX10_build_160 : decode cX10_build 160 = .ok (.aload_n 0, 1) := by decide +kernel
theorem dX10_build_161 : decode cX10_build 161 = .ok (.getfield 56, 3) := by decide +kernel
theorem dX10_build_164 : decode cX10_build 164 = .ok (.iconst 1, 1) := by decide +kernel
theorem dX10_build_165 : decode cX10_build 165 = .ok (.isub, 1) := by decide +kernel
theorem dX10_build_166 : decode cX10_build 166 = .ok (.ireturn, 1) := by decide +kernel
theorem dX10_span_0 : decode cX10_span 0 = .ok (.aload_n 0, 1) := by decide +kernel
theorem dX10_span_1 : decode cX10_span 1 = .ok (.iconst 0, 1) := by decide +kernel
theorem dX10_span_2 : decode cX10_span 2 = .ok (.putfield 52, 3) := by decide +kernel
theorem dX10_span_5 : decode cX10_span 5 = .ok (.aload_n 0, 1) := by decide +kernel
theorem dX10_span_6 : decode cX10_span 6 = .ok (.iload_n 1, 1) := by decide +kernel
theorem dX10_span_7 : decode cX10_span 7 = .ok (.invokevirtual 85, 3) := by decide +kernel
theorem dX10_span_10 : decode cX10_span 10 = .ok (.ifCond .eq 11, 3) := by decide +kernel
theorem dX10_span_13 : decode cX10_span 13 = .ok (.aload_n 0, 1) := by decide +kernel
theorem dX10_span_14 : decode cX10_span 14 = .ok (.iload_n 2, 1) := by decide +kernel
theorem dX10_span_15 : decode cX10_span 15 = .ok (.invokevirtual 85, 3) := by decide +kernel
theorem dX10_span_18 : decode cX10_span 18 = .ok (.ifCond .ne 9, 3) := by decide +kernel
theorem dX10_span_21 : decode cX10_span 21 = .ok (.aload_n 0, 1) := by decide +kernel
theorem dX10_span_22 : decode cX10_span 22 = .ok (.iconst 1, 1) := by decide +kernel
theorem dX10_span_23 : decode cX10_span 23 = .ok (.invokevirtual 82, 3) := by decide +kernel
theorem dX10_span_26 : decode cX10_span 26 = .ok (.ireturn, 1) := by decide +kernel
theorem dX10_span_27 : decode cX10_span 27 = .ok (.aload_n 0, 1) := by decide +kernel
theorem dX10_span_28 : decode cX10_span 28 = .ok (.getfield 16, 3) := by decide +kernel
theorem dX10_span_31 : decode cX10_span 31 = .ok (.iload_n 2, 1) := by decide +kernel
theorem dX10_span_32 : decode cX10_span 32 = .ok (.iaload, 1) := by decide +kernel
theorem dX10_span_33 : decode cX10_span 33 = .ok (.aload_n 0, 1) := by decide +kernel
theorem dX10_span_34 : decode cX10_span 34 = .ok (.getfield 16, 3) := by decide +kernel
theorem dX10_span_37 : decode cX10_span 37 = .ok (.iload_n 1, 1) := by decide +kernel
theorem dX10_span_38 : decode cX10_span 38 = .ok (.iaload, 1) := by decide +kernel
theorem dX10_span_39 : decode cX10_span 39 = .ok (.if_icmp .ge 25, 3) := by decide +kernel
theorem dX10_span_42 : decode cX10_span 42 = .ok (.iload_n 3, 1) := by decide +kernel
theorem dX10_span_43 : decode cX10_span 43 = .ok (.bipush 20, 2) := by decide +kernel
theorem dX10_span_45 : decode cX10_span 45 = .ok (.sipush 150, 3) := by decide +kernel
theorem dX10_span_48 : decode cX10_span 48 = .ok (.invokestatic 59, 3) := by decide +kernel
theorem dX10_span_51 : decode cX10_span 51 = .ok (.ifCond .eq 13, 3) := by decide +kernel
theorem dX10_span_54 : decode cX10_span 54 = .ok (.iload 4, 2) := by decide +kernel
theorem dX10_span_56 : decode cX10_span 56 = .ok (.iconst 1, 1) := by decide +kernel
theorem dX10_span_57 : decode cX10_span 57 = .ok (.iconst 3, 1) := by decide +kernel
theorem dX10_span_58 : decode cX10_span 58 = .ok (.invokestatic 59, 3) := by decide +kernel
theorem dX10_span_61 : decode cX10_span 61 = .ok (.ifCond .ne 9, 3) := by decide +kernel
theorem dX10_span_64 : decode cX10_span 64 = .ok (.aload_n 0, 1) := by decide +kernel
theorem dX10_span_65 : decode cX10_span 65 = .ok (.iconst 2, 1) := by decide +kernel
theorem dX10_span_66 : decode cX10_span 66 = .ok (.invokevirtual 82, 3) := by decide +kernel
theorem dX10_span_69 : decode cX10_span 69 = .ok (.ireturn, 1) := by decide +kernel
theorem dX10_span_70 : decode cX10_span 70 = .ok (.aload_n 0, 1) := by decide +kernel
theorem dX10_span_71 : decode cX10_span 71 = .ok (.getfield 63, 3) := by decide +kernel
theorem dX10_span_74 : decode cX10_span 74 = .ok (.bipush 12, 2) := by decide +kernel
theorem dX10_span_76 : decode cX10_span 76 = .ok (.if_icmp .ne 9, 3) := by decide +kernel
theorem dX10_span_79 : decode cX10_span 79 = .ok (.aload_n 0, 1) := by decide +kernel
theorem dX10_span_80 : decode cX10_span 80 = .ok (.iconst 3, 1) := by decide +kernel
theorem dX10_span_81 : decode cX10_span 81 = .ok (.invokevirtual 82, 3) := by decide +kernel
theorem dX10_span_84 : decode cX10_span 84 = .ok (.ireturn, 1) := by decide +kernel
theorem dX10_span_85 : decode cX10_span 85 = .ok (.aload_n 0, 1) := by decide +kernel
theorem dX10_span_86 : decode cX10_span 86 = .ok (.getfield 19, 3) := by decide +kernel
theorem dX10_span_89 : decode cX10_span 89 = .ok (.aload_n 0, 1) := by decide +kernel
theorem dX10_span_90 : decode cX10_span 90 = .ok (.getfield 63, 3) := by decide +kernel
theorem dX10_span_93 : decode cX10_span 93 = .ok (.iload_n 1, 1) := by decide +kernel
theorem dX10_span_94 : decode cX10_span 94 = .ok (.iastore, 1) := by decide +kernel
theorem dX10_span_95 : decode cX10_span 95 = .ok (.aload_n 0, 1) := by decide +kernel
theorem dX10_span_96 : decode cX10_span 96 = .ok (.getfield 22, 3) := by decide +kernel
theorem dX10_span_99 : decode cX10_span 99 = .ok (.aload_n 0, 1) := by decide +kernel
theorem dX10_span_100 : decode cX10_span 100 = .ok (.getfield 63, 3) := by decide +kernel
theorem dX10_span_103 : decode cX10_span 103 = .ok (.iload_n 2, 1) := by decide +kernel
theorem dX10_span_104 : decode cX10_span 104 = .ok (.iastore, 1) := by decide +kernel
theorem dX10_span_105 : decode cX10_span 105 = .ok (.aload_n 0, 1) := by decide +kernel
theorem dX10_span_106 : decode cX10_span 106 = .ok (.getfield 25, 3) := by decide +kernel
theorem dX10_span_109 : decode cX10_span 109 = .ok (.aload_n 0, 1) := by decide +kernel
theorem dX10_span_110 : decode cX10_span 110 = .ok (.getfield 63, 3) := by decide +kernel
theorem dX10_span_113 : decode cX10_span 113 = .ok (.iload_n 3, 1) := by decide +kernel
theorem dX10_span_114 : decode cX10_span 114 = .ok (.iastore, 1) := by decide +kernel
theorem dX10_span_115 : decode cX10_span 115 = .ok (.aload_n 0, 1) := by decide +kernel
theorem dX10_span_116 : decode cX10_span 116 = .ok (.getfield 45, 3) := by decide +kernel
theorem dX10_span_119 : decode cX10_span 119 = .ok (.getfield 89, 3) := by decide +kernel
theorem dX10_span_122 : decode cX10_span 122 = .ok (.aload_n 0, 1) := by decide +kernel
theorem dX10_span_123 : decode cX10_span 123 = .ok (.getfield 63, 3) := by decide +kernel
theorem dX10_span_126 : decode cX10_span 126 = .ok (.iload 4, 2) := by decide +kernel
theorem dX10_span_128 : decode cX10_span 128 = .ok (.iastore, 1) := by decide +kernel
theorem dX10_span_129 : decode cX10_span 129 = .ok (.aload_n 0, 1) := by decide +kernel
theorem dX10_span_130 : decode cX10_span 130 = .ok (.dup, 1) := by decide +kernel
theorem dX10_span_131 : decode cX10_span 131 = .ok (.getfield 63, 3) := by decide +kernel
theorem dX10_span_134 : decode cX10_span 134 = .ok (.iconst 1, 1) := by decide +kernel
theorem dX10_span_135 : decode cX10_span 135 = .ok (.iadd, 1) := by decide +kernel
theorem dX10_span_136 : decode cX10_span 136 = .ok (.putfield 63, 3) := by decide +kernel
theorem dX10_span_139 : decode cX10_span 139 = .ok (.aload_n 0, 1) := by decide +kernel
theorem dX10_span_140 : decode cX10_span 140 = .ok (.getfield 63, 3) := by decide +kernel
theorem dX10_span_143 : decode cX10_span 143 = .ok (.iconst 1, 1) := by decide +kernel
theorem dX10_span_144 : decode cX10_span 144 = .ok (.isub, 1) := by decide +kernel
theorem dX10_span_145 : decode cX10_span 145 = .ok (.ireturn, 1) := by decide +kernel
theorem dX10_add_0 : decode cX10_add 0 = .ok (.aload_n 0, 1) := by decide +kernel
theorem dX10_add_1 : decode cX10_add 1 = .ok (.iconst 0, 1) := by decide +kernel
theorem dX10_add_2 : decode cX10_add 2 = .ok (.putfield 52, 3) := by decide +kernel
theorem dX10_add_5 : decode cX10_add 5 = .ok (.aload_n 0, 1) := by decide +kernel
theorem dX10_add_6 : decode cX10_add 6 = .ok (.iload_n 1, 1) := by decide +kernel
theorem dX10_add_7 : decode cX10_add 7 = .ok (.invokevirtual 92, 3) := by decide +kernel
theorem dX10_add_10 : decode cX10_add 10 = .ok (.ifCond .ne 9, 3) := by decide +kernel
theorem dX10_add_13 : decode cX10_add 13 = .ok (.aload_n 0, 1) := by decide +kernel
theorem dX10_add_14 : decode cX10_add 14 = .ok (.iconst 1, 1) := by decide +kernel
theorem dX10_add_15 : decode cX10_add 15 = .ok (.invokevirtual 82, 3) := by decide +kernel
theorem dX10_add_18 : decode cX10_add 18 = .ok (.ireturn, 1) := by decide +kernel
theorem dX10_add_19 : decode cX10_add 19 = .ok (.aload_n 0, 1) := by decide +kernel
theorem dX10_add_20 : decode cX10_add 20 = .ok (.getfield 45, 3) := by decide +kernel
theorem dX10_add_23 : decode cX10_add 23 = .ok (.getfield 89, 3) := by decide +kernel
theorem dX10_add_26 : decode cX10_add 26 = .ok (.iload_n 1, 1) := by decide +kernel
theorem dX10_add_27 : decode cX10_add 27 = .ok (.iaload, 1) := by decide +kernel
theorem dX10_add_28 : decode cX10_add 28 = .ok (.iconst 3, 1) := by decide +kernel
theorem dX10_add_29 : decode cX10_add 29 = .ok (.if_icmp .ne 9, 3) := by decide +kernel
theorem dX10_add_32 : decode cX10_add 32 = .ok (.aload_n 0, 1) := by decide +kernel
theorem dX10_add_33 : decode cX10_add 33 = .ok (.iconst 2, 1) := by decide +kernel
theorem dX10_add_34 : decode cX10_add 34 = .ok (.invokevirtual 82, 3) := by decide +kernel
theorem dX10_add_37 : decode cX10_add 37 = .ok (.ireturn, 1) := by decide +kernel
theorem dX10_add_38 : decode cX10_add 38 = .ok (.aload_n 0, 1) := by decide +kernel
theorem dX10_add_39 : decode cX10_add 39 = .ok (.getfield 45, 3) := by decide +kernel
theorem dX10_add_42 : decode cX10_add 42 = .ok (.getfield 89, 3) := by decide +kernel
theorem dX10_add_45 : decode cX10_add 45 = .ok (.iload_n 1, 1) := by decide +kernel
theorem dX10_add_46 : decode cX10_add 46 = .ok (.dup2, 1) := by decide +kernel
theorem dX10_add_47 : decode cX10_add 47 = .ok (.iaload, 1) := by decide +kernel
theorem dX10_add_48 : decode cX10_add 48 = .ok (.iconst 1, 1) := by decide +kernel
theorem dX10_add_49 : decode cX10_add 49 = .ok (.iadd, 1) := by decide +kernel
theorem dX10_add_50 : decode cX10_add 50 = .ok (.iastore, 1) := by decide +kernel
theorem dX10_add_51 : decode cX10_add 51 = .ok (.aload_n 0, 1) := by decide +kernel
theorem dX10_add_52 : decode cX10_add 52 = .ok (.getfield 45, 3) := by decide +kernel
theorem dX10_add_55 : decode cX10_add 55 = .ok (.getfield 89, 3) := by decide +kernel
theorem dX10_add_58 : decode cX10_add 58 = .ok (.iload_n 1, 1) := by decide +kernel
theorem dX10_add_59 : decode cX10_add 59 = .ok (.iaload, 1) := by decide +kernel
theorem dX10_add_60 : decode cX10_add 60 = .ok (.ireturn, 1) := by decide +kernel
theorem dX10_setWind_0 : decode cX10_setWind 0 = .ok (.aload_n 0, 1) := by decide +kernel
theorem dX10_setWind_1 : decode cX10_setWind 1 = .ok (.iconst 0, 1) := by decide +kernel
theorem dX10_setWind_2 : decode cX10_setWind 2 = .ok (.putfield 52, 3) := by decide +kernel
theorem dX10_setWind_5 : decode cX10_setWind 5 = .ok (.iload_n 1, 1) := by decide +kernel
theorem dX10_setWind_6 : decode cX10_setWind 6 = .ok (.iconst 0, 1) := by decide +kernel
theorem dX10_setWind_7 : decode cX10_setWind 7 = .ok (.bipush 11, 2) := by decide +kernel
theorem dX10_setWind_9 : decode cX10_setWind 9 = .ok (.invokestatic 59, 3) := by decide +kernel
theorem dX10_setWind_12 : decode cX10_setWind 12 = .ok (.ifCond .ne 9, 3) := by decide +kernel
theorem dX10_setWind_15 : decode cX10_setWind 15 = .ok (.aload_n 0, 1) := by decide +kernel
theorem dX10_setWind_16 : decode cX10_setWind 16 = .ok (.iconst 1, 1) := by decide +kernel
theorem dX10_setWind_17 : decode cX10_setWind 17 = .ok (.invokevirtual 82, 3) := by decide +kernel
theorem dX10_setWind_20 : decode cX10_setWind 20 = .ok (.ireturn, 1) := by decide +kernel
theorem dX10_setWind_21 : decode cX10_setWind 21 = .ok (.iload_n 2, 1) := by decide +kernel
theorem dX10_setWind_22 : decode cX10_setWind 22 = .ok (.iconst 0, 1) := by decide +kernel
theorem dX10_setWind_23 : decode cX10_setWind 23 = .ok (.bipush 9, 2) := by decide +kernel
theorem dX10_setWind_25 : decode cX10_setWind 25 = .ok (.invokestatic 59, 3) := by decide +kernel
theorem dX10_setWind_28 : decode cX10_setWind 28 = .ok (.ifCond .ne 9, 3) := by decide +kernel
theorem dX10_setWind_31 : decode cX10_setWind 31 = .ok (.aload_n 0, 1) := by decide +kernel
theorem dX10_setWind_32 : decode cX10_setWind 32 = .ok (.iconst 2, 1) := by decide +kernel
theorem dX10_setWind_33 : decode cX10_setWind 33 = .ok (.invokevirtual 82, 3) := by decide +kernel
theorem dX10_setWind_36 : decode cX10_setWind 36 = .ok (.ireturn, 1) := by decide +kernel
theorem dX10_setWind_37 : decode cX10_setWind 37 = .ok (.aload_n 0, 1) := by decide +kernel
theorem dX10_setWind_38 : decode cX10_setWind 38 = .ok (.getfield 28, 3) := by decide +kernel
theorem dX10_setWind_41 : decode cX10_setWind 41 = .ok (.iload_n 1, 1) := by decide +kernel
theorem dX10_setWind_42 : decode cX10_setWind 42 = .ok (.iaload, 1) := by decide +kernel
theorem dX10_setWind_43 : decode cX10_setWind 43 = .ok (.istore_n 3, 1) := by decide +kernel
theorem dX10_setWind_44 : decode cX10_setWind 44 = .ok (.aload_n 0, 1) := by decide +kernel
theorem dX10_setWind_45 : decode cX10_setWind 45 = .ok (.getfield 28, 3) := by decide +kernel
theorem dX10_setWind_48 : decode cX10_setWind 48 = .ok (.iload_n 1, 1) := by decide +kernel
theorem dX10_setWind_49 : decode cX10_setWind 49 = .ok (.iload_n 2, 1) := by decide +kernel
theorem dX10_setWind_50 : decode cX10_setWind 50 = .ok (.iastore, 1) := by decide +kernel
theorem dX10_setWind_51 : decode cX10_setWind 51 = .ok (.iload_n 3, 1) := by decide +kernel
theorem dX10_setWind_52 : decode cX10_setWind 52 = .ok (.ireturn, 1) := by decide +kernel
theorem dX10_platformTold_0 : decode cX10_platformTold 0 = .ok (.iconst 0, 1) := by decide +kernel
theorem dX10_platformTold_1 : decode cX10_platformTold 1 = .ok (.istore_n 3, 1) := by decide +kernel
theorem dX10_platformTold_2 : decode cX10_platformTold 2 = .ok (.iconst 0, 1) := by decide +kernel
theorem dX10_platformTold_3 : decode cX10_platformTold 3 = .ok (.istore 4, 2) := by decide +kernel
theorem dX10_platformTold_5 : decode cX10_platformTold 5 = .ok (.iconst 0, 1) := by decide +kernel
theorem dX10_platformTold_6 : decode cX10_platformTold 6 = .ok (.istore 5, 2) := by decide +kernel
theorem dX10_platformTold_8 : decode cX10_platformTold 8 = .ok (.iconst 0, 1) := by decide +kernel
theorem dX10_platformTold_9 : decode cX10_platformTold 9 = .ok (.istore 6, 2) := by decide +kernel
theorem dX10_platformTold_11 : decode cX10_platformTold 11 = .ok (.iload 6, 2) := by decide +kernel
theorem dX10_platformTold_13 : decode cX10_platformTold 13 = .ok (.aload_n 0, 1) := by decide +kernel
theorem dX10_platformTold_14 : decode cX10_platformTold 14 = .ok (.getfield 63, 3) := by decide +kernel
theorem dX10_platformTold_17 : decode cX10_platformTold 17 = .ok (.if_icmp .ge 49, 3) := by decide +kernel
theorem dX10_platformTold_20 : decode cX10_platformTold 20 = .ok (.iload_n 3, 1) := by decide +kernel
theorem dX10_platformTold_21 : decode cX10_platformTold 21 = .ok (.aload_n 0, 1) := by decide +kernel
theorem dX10_platformTold_22 : decode cX10_platformTold 22 = .ok (.getfield 19, 3) := by decide +kernel
theorem dX10_platformTold_25 : decode cX10_platformTold 25 = .ok (.iload 6, 2) := by decide +kernel
theorem dX10_platformTold_27 : decode cX10_platformTold 27 = .ok (.iaload, 1) := by decide +kernel
theorem dX10_platformTold_28 : decode cX10_platformTold 28 = .ok (.iload_n 1, 1) := by decide +kernel
theorem dX10_platformTold_29 : decode cX10_platformTold 29 = .ok (.if_icmp .ne 7, 3) := by decide +kernel
theorem dX10_platformTold_32 : decode cX10_platformTold 32 = .ok (.iconst 1, 1) := by decide +kernel
theorem dX10_platformTold_33 : decode cX10_platformTold 33 = .ok (.goto 4, 3) := by decide +kernel
theorem dX10_platformTold_36 : decode cX10_platformTold 36 = .ok (.iconst 0, 1) := by decide +kernel
theorem dX10_platformTold_37 : decode cX10_platformTold 37 = .ok (.iadd, 1) := by decide +kernel
theorem dX10_platformTold_38 : decode cX10_platformTold 38 = .ok (.istore_n 3, 1) := by decide +kernel
theorem dX10_platformTold_39 : decode cX10_platformTold 39 = .ok (.iload 4, 2) := by decide +kernel
theorem dX10_platformTold_41 : decode cX10_platformTold 41 = .ok (.aload_n 0, 1) := by decide +kernel
theorem dX10_platformTold_42 : decode cX10_platformTold 42 = .ok (.getfield 22, 3) := by decide +kernel
theorem dX10_platformTold_45 : decode cX10_platformTold 45 = .ok (.iload 6, 2) := by decide +kernel
theorem dX10_platformTold_47 : decode cX10_platformTold 47 = .ok (.iaload, 1) := by decide +kernel
theorem dX10_platformTold_48 : decode cX10_platformTold 48 = .ok (.iload_n 1, 1) := by decide +kernel
theorem dX10_platformTold_49 : decode cX10_platformTold 49 = .ok (.if_icmp .ne 7, 3) := by decide +kernel
theorem dX10_platformTold_52 : decode cX10_platformTold 52 = .ok (.iconst 1, 1) := by decide +kernel
theorem dX10_platformTold_53 : decode cX10_platformTold 53 = .ok (.goto 4, 3) := by decide +kernel
theorem dX10_platformTold_56 : decode cX10_platformTold 56 = .ok (.iconst 0, 1) := by decide +kernel
theorem dX10_platformTold_57 : decode cX10_platformTold 57 = .ok (.iadd, 1) := by decide +kernel
theorem dX10_platformTold_58 : decode cX10_platformTold 58 = .ok (.istore 4, 2) := by decide +kernel
theorem dX10_platformTold_60 : decode cX10_platformTold 60 = .ok (.iinc 6 1, 3) := by decide +kernel
theorem dX10_platformTold_63 : decode cX10_platformTold 63 = .ok (.goto (-52), 3) := by decide +kernel
theorem dX10_platformTold_66 : decode cX10_platformTold 66 = .ok (.iconst 0, 1) := by decide +kernel
theorem dX10_platformTold_67 : decode cX10_platformTold 67 = .ok (.istore 6, 2) := by decide +kernel
theorem dX10_platformTold_69 : decode cX10_platformTold 69 = .ok (.iload 6, 2) := by decide +kernel
theorem dX10_platformTold_71 : decode cX10_platformTold 71 = .ok (.aload_n 0, 1) := by decide +kernel
theorem dX10_platformTold_72 : decode cX10_platformTold 72 = .ok (.getfield 95, 3) := by decide +kernel
theorem dX10_platformTold_75 : decode cX10_platformTold 75 = .ok (.if_icmp .ge 44, 3) := by decide +kernel
theorem dX10_platformTold_78 : decode cX10_platformTold 78 = .ok (.iload 5, 2) := by decide +kernel
theorem dX10_platformTold_80 : decode cX10_platformTold 80 = .ok (.aload_n 0, 1) := by decide +kernel
theorem dX10_platformTold_81 : decode cX10_platformTold 81 = .ok (.getfield 45, 3) := by decide +kernel
theorem dX10_platformTold_84 : decode cX10_platformTold 84 = .ok (.getfield 98, 3) := by decide +kernel
theorem dX10_platformTold_87 : decode cX10_platformTold 87 = .ok (.iload 6, 2) := by decide +kernel
theorem dX10_platformTold_89 : decode cX10_platformTold 89 = .ok (.iaload, 1) := by decide +kernel
theorem dX10_platformTold_90 : decode cX10_platformTold 90 = .ok (.iconst 2, 1) := by decide +kernel
theorem dX10_platformTold_91 : decode cX10_platformTold 91 = .ok (.if_icmp .ne 18, 3) := by decide +kernel
theorem dX10_platformTold_94 : decode cX10_platformTold 94 = .ok (.aload_n 0, 1) := by decide +kernel
theorem dX10_platformTold_95 : decode cX10_platformTold 95 = .ok (.getfield 37, 3) := by decide +kernel
theorem dX10_platformTold_98 : decode cX10_platformTold 98 = .ok (.iload 6, 2) := by decide +kernel
theorem dX10_platformTold_100 : decode cX10_platformTold 100 = .ok (.iaload, 1) := by decide +kernel
theorem dX10_platformTold_101 : decode cX10_platformTold 101 = .ok (.iload_n 1, 1) := by decide +kernel
theorem dX10_platformTold_102 : decode cX10_platformTold 102 = .ok (.if_icmp .ne 7, 3) := by decide +kernel
theorem dX10_platformTold_105 : decode cX10_platformTold 105 = .ok (.iconst 1, 1) := by decide +kernel
theorem dX10_platformTold_106 : decode cX10_platformTold 106 = .ok (.goto 4, 3) := by decide +kernel
theorem dX10_platformTold_109 : decode cX10_platformTold 109 = .ok (.iconst 0, 1) := by decide +kernel
theorem dX10_platformTold_110 : decode cX10_platformTold 110 = .ok (.iadd, 1) := by decide +kernel
theorem dX10_platformTold_111 : decode cX10_platformTold 111 = .ok (.istore 5, 2) := by decide +kernel
theorem dX10_platformTold_113 : decode cX10_platformTold 113 = .ok (.iinc 6 1, 3) := by decide +kernel
theorem dX10_platformTold_116 : decode cX10_platformTold 116 = .ok (.goto (-47), 3) := by decide +kernel
theorem dX10_platformTold_119 : decode cX10_platformTold 119 = .ok (.bipush 8, 2) := by decide +kernel
theorem dX10_platformTold_121 : decode cX10_platformTold 121 = .ok (.newarray .int, 2) := by decide +kernel
theorem dX10_platformTold_123 : decode cX10_platformTold 123 = .ok (.dup, 1) := by decide +kernel
theorem dX10_platformTold_124 : decode cX10_platformTold 124 = .ok (.iconst 0, 1) := by decide +kernel
theorem dX10_platformTold_125 : decode cX10_platformTold 125 = .ok (.aload_n 0, 1) := by decide +kernel
theorem dX10_platformTold_126 : decode cX10_platformTold 126 = .ok (.getfield 9, 3) := by decide +kernel
theorem dX10_platformTold_129 : decode cX10_platformTold 129 = .ok (.iload_n 1, 1) := by decide +kernel
theorem dX10_platformTold_130 : decode cX10_platformTold 130 = .ok (.iaload, 1) := by decide +kernel
theorem dX10_platformTold_131 : decode cX10_platformTold 131 = .ok (.iastore, 1) := by decide +kernel
theorem dX10_platformTold_132 : decode cX10_platformTold 132 = .ok (.dup, 1) := by decide +kernel
theorem dX10_platformTold_133 : decode cX10_platformTold 133 = .ok (.iconst 1, 1) := by decide +kernel
theorem dX10_platformTold_134 : decode cX10_platformTold 134 = .ok (.aload_n 0, 1) := by decide +kernel
theorem dX10_platformTold_135 : decode cX10_platformTold 135 = .ok (.getfield 13, 3) := by decide +kernel
theorem dX10_platformTold_138 : decode cX10_platformTold 138 = .ok (.iload_n 1, 1) := by decide +kernel
theorem dX10_platformTold_139 : decode cX10_platformTold 139 = .ok (.iaload, 1) := by decide +kernel
theorem dX10_platformTold_140 : decode cX10_platformTold 140 = .ok (.iastore, 1) := by decide +kernel
theorem dX10_platformTold_141 : decode cX10_platformTold 141 = .ok (.dup, 1) := by decide +kernel
theorem dX10_platformTold_142 : decode cX10_platformTold 142 = .ok (.iconst 2, 1) := by decide +kernel
theorem dX10_platformTold_143 : decode cX10_platformTold 143 = .ok (.aload_n 0, 1) := by decide +kernel
theorem dX10_platformTold_144 : decode cX10_platformTold 144 = .ok (.getfield 16, 3) := by decide +kernel
theorem dX10_platformTold_147 : decode cX10_platformTold 147 = .ok (.iload_n 1, 1) := by decide +kernel
theorem dX10_platformTold_148 : decode cX10_platformTold 148 = .ok (.iaload, 1) := by decide +kernel
theorem dX10_platformTold_149 : decode cX10_platformTold 149 = .ok (.iastore, 1) := by decide +kernel
theorem dX10_platformTold_150 : decode cX10_platformTold 150 = .ok (.dup, 1) := by decide +kernel
theorem dX10_platformTold_151 : decode cX10_platformTold 151 = .ok (.iconst 3, 1) := by decide +kernel
theorem dX10_platformTold_152 : decode cX10_platformTold 152 = .ok (.aload_n 0, 1) := by decide +kernel
theorem dX10_platformTold_153 : decode cX10_platformTold 153 = .ok (.getfield 45, 3) := by decide +kernel
theorem dX10_platformTold_156 : decode cX10_platformTold 156 = .ok (.getfield 101, 3) := by decide +kernel
theorem dX10_platformTold_159 : decode cX10_platformTold 159 = .ok (.iload_n 1, 1) := by decide +kernel
theorem dX10_platformTold_160 : decode cX10_platformTold 160 = .ok (.iaload, 1) := by decide +kernel
theorem dX10_platformTold_161 : decode cX10_platformTold 161 = .ok (.iastore, 1) := by decide +kernel
theorem dX10_platformTold_162 : decode cX10_platformTold 162 = .ok (.dup, 1) := by decide +kernel
theorem dX10_platformTold_163 : decode cX10_platformTold 163 = .ok (.iconst 4, 1) := by decide +kernel
theorem dX10_platformTold_164 : decode cX10_platformTold 164 = .ok (.aload_n 0, 1) := by decide +kernel
theorem dX10_platformTold_165 : decode cX10_platformTold 165 = .ok (.getfield 45, 3) := by decide +kernel
theorem dX10_platformTold_168 : decode cX10_platformTold 168 = .ok (.getfield 101, 3) := by decide +kernel
theorem dX10_platformTold_171 : decode cX10_platformTold 171 = .ok (.iload_n 1, 1) := by decide +kernel
theorem dX10_platformTold_172 : decode cX10_platformTold 172 = .ok (.iaload, 1) := by decide +kernel
theorem dX10_platformTold_173 : decode cX10_platformTold 173 = .ok (.ifCond .ne 7, 3) := by decide +kernel
theorem dX10_platformTold_176 : decode cX10_platformTold 176 = .ok (.iconst (-1), 1) := by decide +kernel
theorem dX10_platformTold_177 : decode cX10_platformTold 177 = .ok (.goto 15, 3) := by decide +kernel
theorem dX10_platformTold_180 : decode cX10_platformTold 180 = .ok (.aload_n 0, 1) := by decide +kernel
theorem dX10_platformTold_181 : decode cX10_platformTold 181 = .ok (.getfield 45, 3) := by decide +kernel
theorem dX10_platformTold_184 : decode cX10_platformTold 184 = .ok (.getfield 104, 3) := by decide +kernel
theorem dX10_platformTold_187 : decode cX10_platformTold 187 = .ok (.bipush 12, 2) := by decide +kernel
theorem dX10_platformTold_189 : decode cX10_platformTold 189 = .ok (.iload_n 1, 1) := by decide +kernel
theorem dX10_platformTold_190 : decode cX10_platformTold 190 = .ok (.imul, 1) := by decide +kernel
theorem dX10_platformTold_191 : decode cX10_platformTold 191 = .ok (.iaload, 1) := by decide +kernel
theorem dX10_platformTold_192 : decode cX10_platformTold 192 = .ok (.iastore, 1) := by decide +kernel
theorem dX10_platformTold_193 : decode cX10_platformTold 193 = .ok (.dup, 1) := by decide +kernel
theorem dX10_platformTold_194 : decode cX10_platformTold 194 = .ok (.iconst 5, 1) := by decide +kernel
theorem dX10_platformTold_195 : decode cX10_platformTold 195 = .ok (.iload_n 3, 1) := by decide +kernel
theorem dX10_platformTold_196 : decode cX10_platformTold 196 = .ok (.iastore, 1) := by decide +kernel
theorem dX10_platformTold_197 : decode cX10_platformTold 197 = .ok (.dup, 1) := by decide +kernel
theorem dX10_platformTold_198 : decode cX10_platformTold 198 = .ok (.bipush 6, 2) := by decide +kernel
theorem dX10_platformTold_200 : decode cX10_platformTold 200 = .ok (.iload 4, 2) := by decide +kernel
theorem dX10_platformTold_202 : decode cX10_platformTold 202 = .ok (.iastore, 1) := by decide +kernel
theorem dX10_platformTold_203 : decode cX10_platformTold 203 = .ok (.dup, 1) := by decide +kernel
theorem dX10_platformTold_204 : decode cX10_platformTold 204 = .ok (.bipush 7, 2) := by decide +kernel
theorem dX10_platformTold_206 : decode cX10_platformTold 206 = .ok (.iload 5, 2) := by decide +kernel
theorem dX10_platformTold_208 : decode cX10_platformTold 208 = .ok (.iastore, 1) := by decide +kernel
theorem dX10_platformTold_209 : decode cX10_platformTold 209 = .ok (.astore 6, 2) := by decide +kernel
theorem dX10_platformTold_211 : decode cX10_platformTold 211 = .ok (.aload 6, 2) := by decide +kernel
theorem dX10_platformTold_213 : decode cX10_platformTold 213 = .ok (.iload_n 2, 1) := by decide +kernel
theorem dX10_platformTold_214 : decode cX10_platformTold 214 = .ok (.iaload, 1) := by decide +kernel
theorem dX10_platformTold_215 : decode cX10_platformTold 215 = .ok (.ireturn, 1) := by decide +kernel
theorem dX10_platform_0 : decode cX10_platform 0 = .ok (.aload_n 0, 1) := by decide +kernel
theorem dX10_platform_1 : decode cX10_platform 1 = .ok (.iconst 0, 1) := by decide +kernel
theorem dX10_platform_2 : decode cX10_platform 2 = .ok (.putfield 52, 3) := by decide +kernel
theorem dX10_platform_5 : decode cX10_platform 5 = .ok (.aload_n 0, 1) := by decide +kernel
theorem dX10_platform_6 : decode cX10_platform 6 = .ok (.iload_n 1, 1) := by decide +kernel
theorem dX10_platform_7 : decode cX10_platform 7 = .ok (.invokevirtual 85, 3) := by decide +kernel
theorem dX10_platform_10 : decode cX10_platform 10 = .ok (.ifCond .eq 22, 3) := by decide +kernel
theorem dX10_platform_13 : decode cX10_platform 13 = .ok (.iload_n 2, 1) := by decide +kernel
theorem dX10_platform_14 : decode cX10_platform 14 = .ok (.iconst 0, 1) := by decide +kernel
theorem dX10_platform_15 : decode cX10_platform 15 = .ok (.bipush 7, 2) := by decide +kernel
theorem dX10_platform_17 : decode cX10_platform 17 = .ok (.invokestatic 59, 3) := by decide +kernel
theorem dX10_platform_20 : decode cX10_platform 20 = .ok (.ifCond .eq 12, 3) := by decide +kernel
theorem dX10_platform_23 : decode cX10_platform 23 = .ok (.aload_n 0, 1) := by decide +kernel
theorem dX10_platform_24 : decode cX10_platform 24 = .ok (.iload_n 1, 1) := by decide +kernel
theorem dX10_platform_25 : decode cX10_platform 25 = .ok (.iload_n 2, 1) := by decide +kernel
theorem dX10_platform_26 : decode cX10_platform 26 = .ok (.invokevirtual 107, 3) := by decide +kernel
theorem dX10_platform_29 : decode cX10_platform 29 = .ok (.goto 8, 3) := by decide +kernel
theorem dX10_platform_32 : decode cX10_platform 32 = .ok (.aload_n 0, 1) := by decide +kernel
theorem dX10_platform_33 : decode cX10_platform 33 = .ok (.iconst 1, 1) := by decide +kernel
theorem dX10_platform_34 : decode cX10_platform 34 = .ok (.invokevirtual 82, 3) := by decide +kernel
theorem dX10_platform_37 : decode cX10_platform 37 = .ok (.ireturn, 1) := by decide +kernel
theorem dX10_lineTold_0 : decode cX10_lineTold 0 = .ok (.bipush 11, 2) := by decide +kernel
theorem dX10_lineTold_2 : decode cX10_lineTold 2 = .ok (.newarray .int, 2) := by decide +kernel
theorem dX10_lineTold_4 : decode cX10_lineTold 4 = .ok (.dup, 1) := by decide +kernel
theorem dX10_lineTold_5 : decode cX10_lineTold 5 = .ok (.iconst 0, 1) := by decide +kernel
theorem dX10_lineTold_6 : decode cX10_lineTold 6 = .ok (.aload_n 0, 1) := by decide +kernel
theorem dX10_lineTold_7 : decode cX10_lineTold 7 = .ok (.getfield 19, 3) := by decide +kernel
theorem dX10_lineTold_10 : decode cX10_lineTold 10 = .ok (.iload_n 1, 1) := by decide +kernel
theorem dX10_lineTold_11 : decode cX10_lineTold 11 = .ok (.iaload, 1) := by decide +kernel
theorem dX10_lineTold_12 : decode cX10_lineTold 12 = .ok (.iastore, 1) := by decide +kernel
theorem dX10_lineTold_13 : decode cX10_lineTold 13 = .ok (.dup, 1) := by decide +kernel
theorem dX10_lineTold_14 : decode cX10_lineTold 14 = .ok (.iconst 1, 1) := by decide +kernel
theorem dX10_lineTold_15 : decode cX10_lineTold 15 = .ok (.aload_n 0, 1) := by decide +kernel
theorem dX10_lineTold_16 : decode cX10_lineTold 16 = .ok (.getfield 22, 3) := by decide +kernel
theorem dX10_lineTold_19 : decode cX10_lineTold 19 = .ok (.iload_n 1, 1) := by decide +kernel
theorem dX10_lineTold_20 : decode cX10_lineTold 20 = .ok (.iaload, 1) := by decide +kernel
theorem dX10_lineTold_21 : decode cX10_lineTold 21 = .ok (.iastore, 1) := by decide +kernel
theorem dX10_lineTold_22 : decode cX10_lineTold 22 = .ok (.dup, 1) := by decide +kernel
theorem dX10_lineTold_23 : decode cX10_lineTold 23 = .ok (.iconst 2, 1) := by decide +kernel
theorem dX10_lineTold_24 : decode cX10_lineTold 24 = .ok (.aload_n 0, 1) := by decide +kernel
theorem dX10_lineTold_25 : decode cX10_lineTold 25 = .ok (.getfield 25, 3) := by decide +kernel
theorem dX10_lineTold_28 : decode cX10_lineTold 28 = .ok (.iload_n 1, 1) := by decide +kernel
theorem dX10_lineTold_29 : decode cX10_lineTold 29 = .ok (.iaload, 1) := by decide +kernel
theorem dX10_lineTold_30 : decode cX10_lineTold 30 = .ok (.iastore, 1) := by decide +kernel
theorem dX10_lineTold_31 : decode cX10_lineTold 31 = .ok (.dup, 1) := by decide +kernel
theorem dX10_lineTold_32 : decode cX10_lineTold 32 = .ok (.iconst 3, 1) := by decide +kernel
theorem dX10_lineTold_33 : decode cX10_lineTold 33 = .ok (.aload_n 0, 1) := by decide +kernel
theorem dX10_lineTold_34 : decode cX10_lineTold 34 = .ok (.iload_n 1, 1) := by decide +kernel
theorem dX10_lineTold_35 : decode cX10_lineTold 35 = .ok (.invokevirtual 72, 3) := by decide +kernel
theorem dX10_lineTold_38 : decode cX10_lineTold 38 = .ok (.iastore, 1) := by decide +kernel
theorem dX10_lineTold_39 : decode cX10_lineTold 39 = .ok (.dup, 1) := by decide +kernel
theorem dX10_lineTold_40 : decode cX10_lineTold 40 = .ok (.iconst 4, 1) := by decide +kernel
theorem dX10_lineTold_41 : decode cX10_lineTold 41 = .ok (.aload_n 0, 1) := by decide +kernel
theorem dX10_lineTold_42 : decode cX10_lineTold 42 = .ok (.iload_n 1, 1) := by decide +kernel
theorem dX10_lineTold_43 : decode cX10_lineTold 43 = .ok (.invokevirtual 75, 3) := by decide +kernel
theorem dX10_lineTold_46 : decode cX10_lineTold 46 = .ok (.iastore, 1) := by decide +kernel
theorem dX10_lineTold_47 : decode cX10_lineTold 47 = .ok (.dup, 1) := by decide +kernel
theorem dX10_lineTold_48 : decode cX10_lineTold 48 = .ok (.iconst 5, 1) := by decide +kernel
theorem dX10_lineTold_49 : decode cX10_lineTold 49 = .ok (.aload_n 0, 1) := by decide +kernel
theorem dX10_lineTold_50 : decode cX10_lineTold 50 = .ok (.getfield 45, 3) := by decide +kernel
theorem dX10_lineTold_53 : decode cX10_lineTold 53 = .ok (.getfield 89, 3) := by decide +kernel
theorem dX10_lineTold_56 : decode cX10_lineTold 56 = .ok (.iload_n 1, 1) := by decide +kernel
theorem dX10_lineTold_57 : decode cX10_lineTold 57 = .ok (.iaload, 1) := by decide +kernel
theorem dX10_lineTold_58 : decode cX10_lineTold 58 = .ok (.iastore, 1) := by decide +kernel
theorem dX10_lineTold_59 : decode cX10_lineTold 59 = .ok (.dup, 1) := by decide +kernel
theorem dX10_lineTold_60 : decode cX10_lineTold 60 = .ok (.bipush 6, 2) := by decide +kernel
theorem dX10_lineTold_62 : decode cX10_lineTold 62 = .ok (.aload_n 0, 1) := by decide +kernel
theorem dX10_lineTold_63 : decode cX10_lineTold 63 = .ok (.getfield 45, 3) := by decide +kernel
theorem dX10_lineTold_66 : decode cX10_lineTold 66 = .ok (.getfield 89, 3) := by decide +kernel
theorem dX10_lineTold_69 : decode cX10_lineTold 69 = .ok (.iload_n 1, 1) := by decide +kernel
theorem dX10_lineTold_70 : decode cX10_lineTold 70 = .ok (.iaload, 1) := by decide +kernel
theorem dX10_lineTold_71 : decode cX10_lineTold 71 = .ok (.aload_n 0, 1) := by decide +kernel
theorem dX10_lineTold_72 : decode cX10_lineTold 72 = .ok (.getfield 45, 3) := by decide +kernel
theorem dX10_lineTold_75 : decode cX10_lineTold 75 = .ok (.getfield 111, 3) := by decide +kernel
theorem dX10_lineTold_78 : decode cX10_lineTold 78 = .ok (.iload_n 1, 1) := by decide +kernel
theorem dX10_lineTold_79 : decode cX10_lineTold 79 = .ok (.iaload, 1) := by decide +kernel
theorem dX10_lineTold_80 : decode cX10_lineTold 80 = .ok (.isub, 1) := by decide +kernel
theorem dX10_lineTold_81 : decode cX10_lineTold 81 = .ok (.iastore, 1) := by decide +kernel
theorem dX10_lineTold_82 : decode cX10_lineTold 82 = .ok (.dup, 1) := by decide +kernel
theorem dX10_lineTold_83 : decode cX10_lineTold 83 = .ok (.bipush 7, 2) := by decide +kernel
theorem dX10_lineTold_85 : decode cX10_lineTold 85 = .ok (.aload_n 0, 1) := by decide +kernel
theorem dX10_lineTold_86 : decode cX10_lineTold 86 = .ok (.getfield 45, 3) := by decide +kernel
theorem dX10_lineTold_89 : decode cX10_lineTold 89 = .ok (.iload_n 1, 1) := by decide +kernel
theorem dX10_lineTold_90 : decode cX10_lineTold 90 = .ok (.invokevirtual 114, 3) := by decide +kernel
theorem dX10_lineTold_93 : decode cX10_lineTold 93 = .ok (.iastore, 1) := by decide +kernel
theorem dX10_lineTold_94 : decode cX10_lineTold 94 = .ok (.dup, 1) := by decide +kernel
theorem dX10_lineTold_95 : decode cX10_lineTold 95 = .ok (.bipush 8, 2) := by decide +kernel
theorem dX10_lineTold_97 : decode cX10_lineTold 97 = .ok (.aload_n 0, 1) := by decide +kernel
theorem dX10_lineTold_98 : decode cX10_lineTold 98 = .ok (.getfield 45, 3) := by decide +kernel
theorem dX10_lineTold_101 : decode cX10_lineTold 101 = .ok (.getfield 117, 3) := by decide +kernel
theorem dX10_lineTold_104 : decode cX10_lineTold 104 = .ok (.iload_n 1, 1) := by decide +kernel
theorem dX10_lineTold_105 : decode cX10_lineTold 105 = .ok (.iaload, 1) := by decide +kernel
theorem dX10_lineTold_106 : decode cX10_lineTold 106 = .ok (.iastore, 1) := by decide +kernel
theorem dX10_lineTold_107 : decode cX10_lineTold 107 = .ok (.dup, 1) := by decide +kernel
theorem dX10_lineTold_108 : decode cX10_lineTold 108 = .ok (.bipush 9, 2) := by decide +kernel
theorem dX10_lineTold_110 : decode cX10_lineTold 110 = .ok (.aload_n 0, 1) := by decide +kernel
theorem dX10_lineTold_111 : decode cX10_lineTold 111 = .ok (.getfield 45, 3) := by decide +kernel
theorem dX10_lineTold_114 : decode cX10_lineTold 114 = .ok (.getfield 120, 3) := by decide +kernel
theorem dX10_lineTold_117 : decode cX10_lineTold 117 = .ok (.iload_n 1, 1) := by decide +kernel
theorem dX10_lineTold_118 : decode cX10_lineTold 118 = .ok (.iaload, 1) := by decide +kernel
theorem dX10_lineTold_119 : decode cX10_lineTold 119 = .ok (.iastore, 1) := by decide +kernel
theorem dX10_lineTold_120 : decode cX10_lineTold 120 = .ok (.dup, 1) := by decide +kernel
theorem dX10_lineTold_121 : decode cX10_lineTold 121 = .ok (.bipush 10, 2) := by decide +kernel
theorem dX10_lineTold_123 : decode cX10_lineTold 123 = .ok (.aload_n 0, 1) := by decide +kernel
theorem dX10_lineTold_124 : decode cX10_lineTold 124 = .ok (.iload_n 1, 1) := by decide +kernel
theorem dX10_lineTold_125 : decode cX10_lineTold 125 = .ok (.aload_n 0, 1) := by decide +kernel
theorem dX10_lineTold_126 : decode cX10_lineTold 126 = .ok (.getfield 45, 3) := by decide +kernel
theorem dX10_lineTold_129 : decode cX10_lineTold 129 = .ok (.getfield 123, 3) := by decide +kernel
theorem dX10_lineTold_132 : decode cX10_lineTold 132 = .ok (.invokevirtual 126, 3) := by decide +kernel
theorem dX10_lineTold_135 : decode cX10_lineTold 135 = .ok (.ifCond .eq 7, 3) := by decide +kernel
theorem dX10_lineTold_138 : decode cX10_lineTold 138 = .ok (.iconst 1, 1) := by decide +kernel
theorem dX10_lineTold_139 : decode cX10_lineTold 139 = .ok (.goto 4, 3) := by decide +kernel
theorem dX10_lineTold_142 : decode cX10_lineTold 142 = .ok (.iconst 0, 1) := by decide +kernel
theorem dX10_lineTold_143 : decode cX10_lineTold 143 = .ok (.iastore, 1) := by decide +kernel
theorem dX10_lineTold_144 : decode cX10_lineTold 144 = .ok (.astore_n 3, 1) := by decide +kernel
theorem dX10_lineTold_145 : decode cX10_lineTold 145 = .ok (.aload_n 3, 1) := by decide +kernel
theorem dX10_lineTold_146 : decode cX10_lineTold 146 = .ok (.iload_n 2, 1) := by decide +kernel
theorem dX10_lineTold_147 : decode cX10_lineTold 147 = .ok (.iaload, 1) := by decide +kernel
theorem dX10_lineTold_148 : decode cX10_lineTold 148 = .ok (.ireturn, 1) := by decide +kernel
theorem dX10_line_0 : decode cX10_line 0 = .ok (.aload_n 0, 1) := by decide +kernel
theorem dX10_line_1 : decode cX10_line 1 = .ok (.iconst 0, 1) := by decide +kernel
theorem dX10_line_2 : decode cX10_line 2 = .ok (.putfield 52, 3) := by decide +kernel
theorem dX10_line_5 : decode cX10_line 5 = .ok (.aload_n 0, 1) := by decide +kernel
theorem dX10_line_6 : decode cX10_line 6 = .ok (.iload_n 1, 1) := by decide +kernel
theorem dX10_line_7 : decode cX10_line 7 = .ok (.invokevirtual 92, 3) := by decide +kernel
theorem dX10_line_10 : decode cX10_line 10 = .ok (.ifCond .eq 22, 3) := by decide +kernel
theorem dX10_line_13 : decode cX10_line 13 = .ok (.iload_n 2, 1) := by decide +kernel
theorem dX10_line_14 : decode cX10_line 14 = .ok (.iconst 0, 1) := by decide +kernel
theorem dX10_line_15 : decode cX10_line 15 = .ok (.bipush 10, 2) := by decide +kernel
theorem dX10_line_17 : decode cX10_line 17 = .ok (.invokestatic 59, 3) := by decide +kernel
theorem dX10_line_20 : decode cX10_line 20 = .ok (.ifCond .eq 12, 3) := by decide +kernel
theorem dX10_line_23 : decode cX10_line 23 = .ok (.aload_n 0, 1) := by decide +kernel
theorem dX10_line_24 : decode cX10_line 24 = .ok (.iload_n 1, 1) := by decide +kernel
theorem dX10_line_25 : decode cX10_line 25 = .ok (.iload_n 2, 1) := by decide +kernel
theorem dX10_line_26 : decode cX10_line 26 = .ok (.invokevirtual 130, 3) := by decide +kernel
theorem dX10_line_29 : decode cX10_line 29 = .ok (.goto 8, 3) := by decide +kernel
theorem dX10_line_32 : decode cX10_line 32 = .ok (.aload_n 0, 1) := by decide +kernel
theorem dX10_line_33 : decode cX10_line 33 = .ok (.iconst 1, 1) := by decide +kernel
theorem dX10_line_34 : decode cX10_line 34 = .ok (.invokevirtual 82, 3) := by decide +kernel
theorem dX10_line_37 : decode cX10_line 37 = .ok (.ireturn, 1) := by decide +kernel
theorem dX10_ride_0 : decode cX10_ride 0 = .ok (.aload_n 0, 1) := by decide +kernel
theorem dX10_ride_1 : decode cX10_ride 1 = .ok (.iconst 0, 1) := by decide +kernel
theorem dX10_ride_2 : decode cX10_ride 2 = .ok (.putfield 52, 3) := by decide +kernel
theorem dX10_ride_5 : decode cX10_ride 5 = .ok (.aload_n 0, 1) := by decide +kernel
theorem dX10_ride_6 : decode cX10_ride 6 = .ok (.iload_n 1, 1) := by decide +kernel
theorem dX10_ride_7 : decode cX10_ride 7 = .ok (.invokevirtual 92, 3) := by decide +kernel
theorem dX10_ride_10 : decode cX10_ride 10 = .ok (.ifCond .ne 9, 3) := by decide +kernel
theorem dX10_ride_13 : decode cX10_ride 13 = .ok (.aload_n 0, 1) := by decide +kernel
theorem dX10_ride_14 : decode cX10_ride 14 = .ok (.iconst 1, 1) := by decide +kernel
theorem dX10_ride_15 : decode cX10_ride 15 = .ok (.invokevirtual 82, 3) := by decide +kernel
theorem dX10_ride_18 : decode cX10_ride 18 = .ok (.ireturn, 1) := by decide +kernel
theorem dX10_ride_19 : decode cX10_ride 19 = .ok (.iload_n 2, 1) := by decide +kernel
theorem dX10_ride_20 : decode cX10_ride 20 = .ok (.bipush 20, 2) := by decide +kernel
theorem dX10_ride_22 : decode cX10_ride 22 = .ok (.bipush 120, 2) := by decide +kernel
theorem dX10_ride_24 : decode cX10_ride 24 = .ok (.invokestatic 59, 3) := by decide +kernel
theorem dX10_ride_27 : decode cX10_ride 27 = .ok (.ifCond .ne 9, 3) := by decide +kernel
theorem dX10_ride_30 : decode cX10_ride 30 = .ok (.aload_n 0, 1) := by decide +kernel
theorem dX10_ride_31 : decode cX10_ride 31 = .ok (.iconst 2, 1) := by decide +kernel
theorem dX10_ride_32 : decode cX10_ride 32 = .ok (.invokevirtual 82, 3) := by decide +kernel
theorem dX10_ride_35 : decode cX10_ride 35 = .ok (.ireturn, 1) := by decide +kernel
theorem dX10_ride_36 : decode cX10_ride 36 = .ok (.aload_n 0, 1) := by decide +kernel
theorem dX10_ride_37 : decode cX10_ride 37 = .ok (.getfield 25, 3) := by decide +kernel
theorem dX10_ride_40 : decode cX10_ride 40 = .ok (.iload_n 1, 1) := by decide +kernel
theorem dX10_ride_41 : decode cX10_ride 41 = .ok (.iaload, 1) := by decide +kernel
theorem dX10_ride_42 : decode cX10_ride 42 = .ok (.iload_n 2, 1) := by decide +kernel
theorem dX10_ride_43 : decode cX10_ride 43 = .ok (.if_icmp .ge 7, 3) := by decide +kernel
theorem dX10_ride_46 : decode cX10_ride 46 = .ok (.iconst 0, 1) := by decide +kernel
theorem dX10_ride_47 : decode cX10_ride 47 = .ok (.goto 9, 3) := by decide +kernel
theorem dX10_ride_50 : decode cX10_ride 50 = .ok (.aload_n 0, 1) := by decide +kernel
theorem dX10_ride_51 : decode cX10_ride 51 = .ok (.iload_n 1, 1) := by decide +kernel
theorem dX10_ride_52 : decode cX10_ride 52 = .ok (.iload_n 2, 1) := by decide +kernel
theorem dX10_ride_53 : decode cX10_ride 53 = .ok (.invokevirtual 133, 3) := by decide +kernel
theorem dX10_ride_56 : decode cX10_ride 56 = .ok (.ireturn, 1) := by decide +kernel
theorem dX10_come_0 : decode cX10_come 0 = .ok (.aload_n 0, 1) := by decide +kernel
theorem dX10_come_1 : decode cX10_come 1 = .ok (.iconst 0, 1) := by decide +kernel
theorem dX10_come_2 : decode cX10_come 2 = .ok (.putfield 52, 3) := by decide +kernel
theorem dX10_come_5 : decode cX10_come 5 = .ok (.aload_n 0, 1) := by decide +kernel
theorem dX10_come_6 : decode cX10_come 6 = .ok (.iload_n 1, 1) := by decide +kernel
theorem dX10_come_7 : decode cX10_come 7 = .ok (.invokevirtual 85, 3) := by decide +kernel
theorem dX10_come_10 : decode cX10_come 10 = .ok (.ifCond .eq 11, 3) := by decide +kernel
theorem dX10_come_13 : decode cX10_come 13 = .ok (.aload_n 0, 1) := by decide +kernel
theorem dX10_come_14 : decode cX10_come 14 = .ok (.iload_n 2, 1) := by decide +kernel
theorem dX10_come_15 : decode cX10_come 15 = .ok (.invokevirtual 85, 3) := by decide +kernel
theorem dX10_come_18 : decode cX10_come 18 = .ok (.ifCond .ne 9, 3) := by decide +kernel
theorem dX10_come_21 : decode cX10_come 21 = .ok (.aload_n 0, 1) := by decide +kernel
theorem dX10_come_22 : decode cX10_come 22 = .ok (.iconst 1, 1) := by decide +kernel
theorem dX10_come_23 : decode cX10_come 23 = .ok (.invokevirtual 82, 3) := by decide +kernel
theorem dX10_come_26 : decode cX10_come 26 = .ok (.ireturn, 1) := by decide +kernel
theorem dX10_come_27 : decode cX10_come 27 = .ok (.iload_n 3, 1) := by decide +kernel
theorem dX10_come_28 : decode cX10_come 28 = .ok (.bipush 20, 2) := by decide +kernel
theorem dX10_come_30 : decode cX10_come 30 = .ok (.bipush 120, 2) := by decide +kernel
theorem dX10_come_32 : decode cX10_come 32 = .ok (.invokestatic 59, 3) := by decide +kernel
theorem dX10_come_35 : decode cX10_come 35 = .ok (.ifCond .eq 14, 3) := by decide +kernel
theorem dX10_come_38 : decode cX10_come 38 = .ok (.iload 4, 2) := by decide +kernel
theorem dX10_come_40 : decode cX10_come 40 = .ok (.iconst 1, 1) := by decide +kernel
theorem dX10_come_41 : decode cX10_come 41 = .ok (.bipush 60, 2) := by decide +kernel
theorem dX10_come_43 : decode cX10_come 43 = .ok (.invokestatic 59, 3) := by decide +kernel
theorem dX10_come_46 : decode cX10_come 46 = .ok (.ifCond .ne 9, 3) := by decide +kernel
theorem dX10_come_49 : decode cX10_come 49 = .ok (.aload_n 0, 1) := by decide +kernel
theorem dX10_come_50 : decode cX10_come 50 = .ok (.iconst 2, 1) := by decide +kernel
theorem dX10_come_51 : decode cX10_come 51 = .ok (.invokevirtual 82, 3) := by decide +kernel
theorem dX10_come_54 : decode cX10_come 54 = .ok (.ireturn, 1) := by decide +kernel
theorem dX10_come_55 : decode cX10_come 55 = .ok (.aload_n 0, 1) := by decide +kernel
theorem dX10_come_56 : decode cX10_come 56 = .ok (.getfield 95, 3) := by decide +kernel
theorem dX10_come_59 : decode cX10_come 59 = .ok (.bipush 12, 2) := by decide +kernel
theorem dX10_come_61 : decode cX10_come 61 = .ok (.if_icmp .ne 9, 3) := by decide +kernel
theorem dX10_come_64 : decode cX10_come 64 = .ok (.aload_n 0, 1) := by decide +kernel
theorem dX10_come_65 : decode cX10_come 65 = .ok (.iconst 3, 1) := by decide +kernel
theorem dX10_come_66 : decode cX10_come 66 = .ok (.invokevirtual 82, 3) := by decide +kernel
theorem dX10_come_69 : decode cX10_come 69 = .ok (.ireturn, 1) := by decide +kernel
theorem dX10_come_70 : decode cX10_come 70 = .ok (.aload_n 0, 1) := by decide +kernel
theorem dX10_come_71 : decode cX10_come 71 = .ok (.getfield 31, 3) := by decide +kernel
theorem dX10_come_74 : decode cX10_come 74 = .ok (.aload_n 0, 1) := by decide +kernel
theorem dX10_come_75 : decode cX10_come 75 = .ok (.getfield 95, 3) := by decide +kernel
theorem dX10_come_78 : decode cX10_come 78 = .ok (.iload_n 3, 1) := by decide +kernel
theorem dX10_come_79 : decode cX10_come 79 = .ok (.iastore, 1) := by decide +kernel
theorem dX10_come_80 : decode cX10_come 80 = .ok (.aload_n 0, 1) := by decide +kernel
theorem dX10_come_81 : decode cX10_come 81 = .ok (.getfield 34, 3) := by decide +kernel
theorem dX10_come_84 : decode cX10_come 84 = .ok (.aload_n 0, 1) := by decide +kernel
theorem dX10_come_85 : decode cX10_come 85 = .ok (.getfield 95, 3) := by decide +kernel
theorem dX10_come_88 : decode cX10_come 88 = .ok (.iload 4, 2) := by decide +kernel
theorem dX10_come_90 : decode cX10_come 90 = .ok (.iastore, 1) := by decide +kernel
theorem dX10_come_91 : decode cX10_come 91 = .ok (.aload_n 0, 1) := by decide +kernel
theorem dX10_come_92 : decode cX10_come 92 = .ok (.getfield 37, 3) := by decide +kernel
theorem dX10_come_95 : decode cX10_come 95 = .ok (.aload_n 0, 1) := by decide +kernel
theorem dX10_come_96 : decode cX10_come 96 = .ok (.getfield 95, 3) := by decide +kernel
theorem dX10_come_99 : decode cX10_come 99 = .ok (.iload_n 2, 1) := by decide +kernel
theorem dX10_come_100 : decode cX10_come 100 = .ok (.iastore, 1) := by decide +kernel
theorem dX10_come_101 : decode cX10_come 101 = .ok (.aload_n 0, 1) := by decide +kernel
theorem dX10_come_102 : decode cX10_come 102 = .ok (.getfield 45, 3) := by decide +kernel
theorem dX10_come_105 : decode cX10_come 105 = .ok (.getfield 136, 3) := by decide +kernel
theorem dX10_come_108 : decode cX10_come 108 = .ok (.aload_n 0, 1) := by decide +kernel
theorem dX10_come_109 : decode cX10_come 109 = .ok (.getfield 95, 3) := by decide +kernel
theorem dX10_come_112 : decode cX10_come 112 = .ok (.iconst (-1), 1) := by decide +kernel
theorem dX10_come_113 : decode cX10_come 113 = .ok (.iastore, 1) := by decide +kernel
theorem dX10_come_114 : decode cX10_come 114 = .ok (.aload_n 0, 1) := by decide +kernel
theorem dX10_come_115 : decode cX10_come 115 = .ok (.dup, 1) := by decide +kernel
theorem dX10_come_116 : decode cX10_come 116 = .ok (.getfield 95, 3) := by decide +kernel
theorem dX10_come_119 : decode cX10_come 119 = .ok (.iconst 1, 1) := by decide +kernel
theorem dX10_come_120 : decode cX10_come 120 = .ok (.iadd, 1) := by decide +kernel
theorem dX10_come_121 : decode cX10_come 121 = .ok (.putfield 95, 3) := by decide +kernel
theorem dX10_come_124 : decode cX10_come 124 = .ok (.aload_n 0, 1) := by decide +kernel
theorem dX10_come_125 : decode cX10_come 125 = .ok (.getfield 45, 3) := by decide +kernel
theorem dX10_come_128 : decode cX10_come 128 = .ok (.aload_n 0, 1) := by decide +kernel
theorem dX10_come_129 : decode cX10_come 129 = .ok (.getfield 95, 3) := by decide +kernel
theorem dX10_come_132 : decode cX10_come 132 = .ok (.iconst 1, 1) := by decide +kernel
theorem dX10_come_133 : decode cX10_come 133 = .ok (.isub, 1) := by decide +kernel
theorem dX10_come_134 : decode cX10_come 134 = .ok (.iload_n 1, 1) := by decide +kernel
theorem dX10_come_135 : decode cX10_come 135 = .ok (.invokevirtual 139, 3) := by decide +kernel
theorem dX10_come_138 : decode cX10_come 138 = .ok (.aload_n 0, 1) := by decide +kernel
theorem dX10_come_139 : decode cX10_come 139 = .ok (.getfield 95, 3) := by decide +kernel
theorem dX10_come_142 : decode cX10_come 142 = .ok (.iconst 1, 1) := by decide +kernel
theorem dX10_come_143 : decode cX10_come 143 = .ok (.isub, 1) := by decide +kernel
theorem dX10_come_144 : decode cX10_come 144 = .ok (.ireturn, 1) := by decide +kernel
theorem dX10_riderTold_0 : decode cX10_riderTold 0 = .ok (.iload_n 2, 1) := by decide +kernel
theorem dX10_riderTold_1 : decode cX10_riderTold 1 = .ok (.iconst 3, 1) := by decide +kernel
theorem dX10_riderTold_2 : decode cX10_riderTold 2 = .ok (.if_icmp .ge 37, 3) := by decide +kernel
theorem dX10_riderTold_5 : decode cX10_riderTold 5 = .ok (.iload_n 2, 1) := by decide +kernel
theorem dX10_riderTold_6 : decode cX10_riderTold 6 = .ok (.ifCond .ne 12, 3) := by decide +kernel
theorem dX10_riderTold_9 : decode cX10_riderTold 9 = .ok (.aload_n 0, 1) := by decide +kernel
theorem dX10_riderTold_10 : decode cX10_riderTold 10 = .ok (.getfield 31, 3) := by decide +kernel
theorem dX10_riderTold_13 : decode cX10_riderTold 13 = .ok (.iload_n 1, 1) := by decide +kernel
theorem dX10_riderTold_14 : decode cX10_riderTold 14 = .ok (.iaload, 1) := by decide +kernel
theorem dX10_riderTold_15 : decode cX10_riderTold 15 = .ok (.goto 23, 3) := by decide +kernel
theorem dX10_riderTold_18 : decode cX10_riderTold 18 = .ok (.iload_n 2, 1) := by decide +kernel
theorem dX10_riderTold_19 : decode cX10_riderTold 19 = .ok (.iconst 1, 1) := by decide +kernel
theorem dX10_riderTold_20 : decode cX10_riderTold 20 = .ok (.if_icmp .ne 12, 3) := by decide +kernel
theorem dX10_riderTold_23 : decode cX10_riderTold 23 = .ok (.aload_n 0, 1) := by decide +kernel
theorem dX10_riderTold_24 : decode cX10_riderTold 24 = .ok (.getfield 34, 3) := by decide +kernel
theorem dX10_riderTold_27 : decode cX10_riderTold 27 = .ok (.iload_n 1, 1) := by decide +kernel
theorem dX10_riderTold_28 : decode cX10_riderTold 28 = .ok (.iaload, 1) := by decide +kernel
theorem dX10_riderTold_29 : decode cX10_riderTold 29 = .ok (.goto 9, 3) := by decide +kernel
theorem dX10_riderTold_32 : decode cX10_riderTold 32 = .ok (.aload_n 0, 1) := by decide +kernel
theorem dX10_riderTold_33 : decode cX10_riderTold 33 = .ok (.getfield 37, 3) := by decide +kernel
theorem dX10_riderTold_36 : decode cX10_riderTold 36 = .ok (.iload_n 1, 1) := by decide +kernel
theorem dX10_riderTold_37 : decode cX10_riderTold 37 = .ok (.iaload, 1) := by decide +kernel
theorem dX10_riderTold_38 : decode cX10_riderTold 38 = .ok (.ireturn, 1) := by decide +kernel
theorem dX10_riderTold_39 : decode cX10_riderTold 39 = .ok (.aload_n 0, 1) := by decide +kernel
theorem dX10_riderTold_40 : decode cX10_riderTold 40 = .ok (.getfield 45, 3) := by decide +kernel
theorem dX10_riderTold_43 : decode cX10_riderTold 43 = .ok (.getfield 98, 3) := by decide +kernel
theorem dX10_riderTold_46 : decode cX10_riderTold 46 = .ok (.iload_n 1, 1) := by decide +kernel
theorem dX10_riderTold_47 : decode cX10_riderTold 47 = .ok (.iaload, 1) := by decide +kernel
theorem dX10_riderTold_48 : decode cX10_riderTold 48 = .ok (.ifCond .ne 7, 3) := by decide +kernel
theorem dX10_riderTold_51 : decode cX10_riderTold 51 = .ok (.iconst 1, 1) := by decide +kernel
theorem dX10_riderTold_52 : decode cX10_riderTold 52 = .ok (.goto 4, 3) := by decide +kernel
theorem dX10_riderTold_55 : decode cX10_riderTold 55 = .ok (.iconst 0, 1) := by decide +kernel
theorem dX10_riderTold_56 : decode cX10_riderTold 56 = .ok (.istore_n 3, 1) := by decide +kernel
theorem dX10_riderTold_57 : decode cX10_riderTold 57 = .ok (.iload_n 2, 1) := by decide +kernel
theorem dX10_riderTold_58 : decode cX10_riderTold 58 = .ok (.tableswitch 234 3 9 #[42, 52, 83, 110, 152, 190, 224], 42) := by decide +kernel
theorem dX10_riderTold_100 : decode cX10_riderTold 100 = .ok (.aload_n 0, 1) := by decide +kernel
theorem dX10_riderTold_101 : decode cX10_riderTold 101 = .ok (.getfield 45, 3) := by decide +kernel
theorem dX10_riderTold_104 : decode cX10_riderTold 104 = .ok (.getfield 98, 3) := by decide +kernel
theorem dX10_riderTold_107 : decode cX10_riderTold 107 = .ok (.iload_n 1, 1) := by decide +kernel
theorem dX10_riderTold_108 : decode cX10_riderTold 108 = .ok (.iaload, 1) := by decide +kernel
theorem dX10_riderTold_109 : decode cX10_riderTold 109 = .ok (.ireturn, 1) := by decide +kernel
theorem dX10_riderTold_110 : decode cX10_riderTold 110 = .ok (.iload_n 3, 1) := by decide +kernel
theorem dX10_riderTold_111 : decode cX10_riderTold 111 = .ok (.ifCond .ne 16, 3) := by decide +kernel
theorem dX10_riderTold_114 : decode cX10_riderTold 114 = .ok (.aload_n 0, 1) := by decide +kernel
theorem dX10_riderTold_115 : decode cX10_riderTold 115 = .ok (.getfield 45, 3) := by decide +kernel
theorem dX10_riderTold_118 : decode cX10_riderTold 118 = .ok (.getfield 98, 3) := by decide +kernel
theorem dX10_riderTold_121 : decode cX10_riderTold 121 = .ok (.iload_n 1, 1) := by decide +kernel
theorem dX10_riderTold_122 : decode cX10_riderTold 122 = .ok (.iaload, 1) := by decide +kernel
theorem dX10_riderTold_123 : decode cX10_riderTold 123 = .ok (.iconst 2, 1) := by decide +kernel
theorem dX10_riderTold_124 : decode cX10_riderTold 124 = .ok (.if_icmp .ne 15, 3) := by decide +kernel
theorem dX10_riderTold_127 : decode cX10_riderTold 127 = .ok (.aload_n 0, 1) := by decide +kernel
theorem dX10_riderTold_128 : decode cX10_riderTold 128 = .ok (.getfield 45, 3) := by decide +kernel
theorem dX10_riderTold_131 : decode cX10_riderTold 131 = .ok (.getfield 143, 3) := by decide +kernel
theorem dX10_riderTold_134 : decode cX10_riderTold 134 = .ok (.iload_n 1, 1) := by decide +kernel
theorem dX10_riderTold_135 : decode cX10_riderTold 135 = .ok (.iaload, 1) := by decide +kernel
theorem dX10_riderTold_136 : decode cX10_riderTold 136 = .ok (.goto 4, 3) := by decide +kernel
theorem dX10_riderTold_139 : decode cX10_riderTold 139 = .ok (.iconst (-1), 1) := by decide +kernel
theorem dX10_riderTold_140 : decode cX10_riderTold 140 = .ok (.ireturn, 1) := by decide +kernel
theorem dX10_riderTold_141 : decode cX10_riderTold 141 = .ok (.aload_n 0, 1) := by decide +kernel
theorem dX10_riderTold_142 : decode cX10_riderTold 142 = .ok (.getfield 45, 3) := by decide +kernel
theorem dX10_riderTold_145 : decode cX10_riderTold 145 = .ok (.getfield 98, 3) := by decide +kernel
theorem dX10_riderTold_148 : decode cX10_riderTold 148 = .ok (.iload_n 1, 1) := by decide +kernel
theorem dX10_riderTold_149 : decode cX10_riderTold 149 = .ok (.iaload, 1) := by decide +kernel
theorem dX10_riderTold_150 : decode cX10_riderTold 150 = .ok (.iconst 1, 1) := by decide +kernel
theorem dX10_riderTold_151 : decode cX10_riderTold 151 = .ok (.if_icmp .ne 15, 3) := by decide +kernel
theorem dX10_riderTold_154 : decode cX10_riderTold 154 = .ok (.aload_n 0, 1) := by decide +kernel
theorem dX10_riderTold_155 : decode cX10_riderTold 155 = .ok (.getfield 45, 3) := by decide +kernel
theorem dX10_riderTold_158 : decode cX10_riderTold 158 = .ok (.getfield 143, 3) := by decide +kernel
theorem dX10_riderTold_161 : decode cX10_riderTold 161 = .ok (.iload_n 1, 1) := by decide +kernel
theorem dX10_riderTold_162 : decode cX10_riderTold 162 = .ok (.iaload, 1) := by decide +kernel
theorem dX10_riderTold_163 : decode cX10_riderTold 163 = .ok (.goto 4, 3) := by decide +kernel
theorem dX10_riderTold_166 : decode cX10_riderTold 166 = .ok (.iconst (-1), 1) := by decide +kernel
theorem dX10_riderTold_167 : decode cX10_riderTold 167 = .ok (.ireturn, 1) := by decide +kernel
theorem dX10_riderTold_168 : decode cX10_riderTold 168 = .ok (.iload_n 3, 1) := by decide +kernel
theorem dX10_riderTold_169 : decode cX10_riderTold 169 = .ok (.ifCond .eq 15, 3) := by decide +kernel
theorem dX10_riderTold_172 : decode cX10_riderTold 172 = .ok (.aload_n 0, 1) := by decide +kernel
theorem dX10_riderTold_173 : decode cX10_riderTold 173 = .ok (.getfield 45, 3) := by decide +kernel
theorem dX10_riderTold_176 : decode cX10_riderTold 176 = .ok (.getfield 146, 3) := by decide +kernel
theorem dX10_riderTold_179 : decode cX10_riderTold 179 = .ok (.iload_n 1, 1) := by decide +kernel
theorem dX10_riderTold_180 : decode cX10_riderTold 180 = .ok (.iaload, 1) := by decide +kernel
theorem dX10_riderTold_181 : decode cX10_riderTold 181 = .ok (.goto 28, 3) := by decide +kernel
theorem dX10_riderTold_184 : decode cX10_riderTold 184 = .ok (.aload_n 0, 1) := by decide +kernel
theorem dX10_riderTold_185 : decode cX10_riderTold 185 = .ok (.getfield 45, 3) := by decide +kernel
theorem dX10_riderTold_188 : decode cX10_riderTold 188 = .ok (.getfield 98, 3) := by decide +kernel
theorem dX10_riderTold_191 : decode cX10_riderTold 191 = .ok (.iload_n 1, 1) := by decide +kernel
theorem dX10_riderTold_192 : decode cX10_riderTold 192 = .ok (.iaload, 1) := by decide +kernel
theorem dX10_riderTold_193 : decode cX10_riderTold 193 = .ok (.iconst 1, 1) := by decide +kernel
theorem dX10_riderTold_194 : decode cX10_riderTold 194 = .ok (.if_icmp .ne 14, 3) := by decide +kernel
theorem dX10_riderTold_197 : decode cX10_riderTold 197 = .ok (.aload_n 0, 1) := by decide +kernel
theorem dX10_riderTold_198 : decode cX10_riderTold 198 = .ok (.getfield 45, 3) := by decide +kernel
theorem dX10_riderTold_201 : decode cX10_riderTold 201 = .ok (.iload_n 1, 1) := by decide +kernel
theorem dX10_riderTold_202 : decode cX10_riderTold 202 = .ok (.invokevirtual 149, 3) := by decide +kernel
theorem dX10_riderTold_205 : decode cX10_riderTold 205 = .ok (.goto 4, 3) := by decide +kernel
theorem dX10_riderTold_208 : decode cX10_riderTold 208 = .ok (.iconst 0, 1) := by decide +kernel
theorem dX10_riderTold_209 : decode cX10_riderTold 209 = .ok (.ireturn, 1) := by decide +kernel
theorem dX10_riderTold_210 : decode cX10_riderTold 210 = .ok (.iload_n 3, 1) := by decide +kernel
theorem dX10_riderTold_211 : decode cX10_riderTold 211 = .ok (.ifCond .eq 35, 3) := by decide +kernel
theorem dX10_riderTold_214 : decode cX10_riderTold 214 = .ok (.iconst 0, 1) := by decide +kernel
theorem dX10_riderTold_215 : decode cX10_riderTold 215 = .ok (.aload_n 0, 1) := by decide +kernel
theorem dX10_riderTold_216 : decode cX10_riderTold 216 = .ok (.aload_n 0, 1) := by decide +kernel
theorem dX10_riderTold_217 : decode cX10_riderTold 217 = .ok (.getfield 45, 3) := by decide +kernel
theorem dX10_riderTold_220 : decode cX10_riderTold 220 = .ok (.getfield 143, 3) := by decide +kernel
theorem dX10_riderTold_223 : decode cX10_riderTold 223 = .ok (.iload_n 1, 1) := by decide +kernel
theorem dX10_riderTold_224 : decode cX10_riderTold 224 = .ok (.iaload, 1) := by decide +kernel
theorem dX10_riderTold_225 : decode cX10_riderTold 225 = .ok (.aload_n 0, 1) := by decide +kernel
theorem dX10_riderTold_226 : decode cX10_riderTold 226 = .ok (.getfield 37, 3) := by decide +kernel
theorem dX10_riderTold_229 : decode cX10_riderTold 229 = .ok (.iload_n 1, 1) := by decide +kernel
theorem dX10_riderTold_230 : decode cX10_riderTold 230 = .ok (.iaload, 1) := by decide +kernel
theorem dX10_riderTold_231 : decode cX10_riderTold 231 = .ok (.aload_n 0, 1) := by decide +kernel
theorem dX10_riderTold_232 : decode cX10_riderTold 232 = .ok (.getfield 31, 3) := by decide +kernel
theorem dX10_riderTold_235 : decode cX10_riderTold 235 = .ok (.iload_n 1, 1) := by decide +kernel
theorem dX10_riderTold_236 : decode cX10_riderTold 236 = .ok (.iaload, 1) := by decide +kernel
theorem dX10_riderTold_237 : decode cX10_riderTold 237 = .ok (.invokevirtual 78, 3) := by decide +kernel
theorem dX10_riderTold_240 : decode cX10_riderTold 240 = .ok (.invokestatic 152, 3) := by decide +kernel
theorem dX10_riderTold_243 : decode cX10_riderTold 243 = .ok (.goto 4, 3) := by decide +kernel
theorem dX10_riderTold_246 : decode cX10_riderTold 246 = .ok (.iconst 0, 1) := by decide +kernel
theorem dX10_riderTold_247 : decode cX10_riderTold 247 = .ok (.ireturn, 1) := by decide +kernel
theorem dX10_riderTold_248 : decode cX10_riderTold 248 = .ok (.iload_n 3, 1) := by decide +kernel
theorem dX10_riderTold_249 : decode cX10_riderTold 249 = .ok (.ifCond .eq 31, 3) := by decide +kernel
theorem dX10_riderTold_252 : decode cX10_riderTold 252 = .ok (.aload_n 0, 1) := by decide +kernel
theorem dX10_riderTold_253 : decode cX10_riderTold 253 = .ok (.aload_n 0, 1) := by decide +kernel
theorem dX10_riderTold_254 : decode cX10_riderTold 254 = .ok (.getfield 45, 3) := by decide +kernel
theorem dX10_riderTold_257 : decode cX10_riderTold 257 = .ok (.getfield 143, 3) := by decide +kernel
theorem dX10_riderTold_260 : decode cX10_riderTold 260 = .ok (.iload_n 1, 1) := by decide +kernel
theorem dX10_riderTold_261 : decode cX10_riderTold 261 = .ok (.iaload, 1) := by decide +kernel
theorem dX10_riderTold_262 : decode cX10_riderTold 262 = .ok (.aload_n 0, 1) := by decide +kernel
theorem dX10_riderTold_263 : decode cX10_riderTold 263 = .ok (.getfield 37, 3) := by decide +kernel
theorem dX10_riderTold_266 : decode cX10_riderTold 266 = .ok (.iload_n 1, 1) := by decide +kernel
theorem dX10_riderTold_267 : decode cX10_riderTold 267 = .ok (.iaload, 1) := by decide +kernel
theorem dX10_riderTold_268 : decode cX10_riderTold 268 = .ok (.aload_n 0, 1) := by decide +kernel
theorem dX10_riderTold_269 : decode cX10_riderTold 269 = .ok (.getfield 31, 3) := by decide +kernel
theorem dX10_riderTold_272 : decode cX10_riderTold 272 = .ok (.iload_n 1, 1) := by decide +kernel
theorem dX10_riderTold_273 : decode cX10_riderTold 273 = .ok (.iaload, 1) := by decide +kernel
theorem dX10_riderTold_274 : decode cX10_riderTold 274 = .ok (.invokevirtual 155, 3) := by decide +kernel
theorem dX10_riderTold_277 : decode cX10_riderTold 277 = .ok (.goto 4, 3) := by decide +kernel
theorem dX10_riderTold_280 : decode cX10_riderTold 280 = .ok (.iconst (-1), 1) := by decide +kernel
theorem dX10_riderTold_281 : decode cX10_riderTold 281 = .ok (.ireturn, 1) := by decide +kernel
theorem dX10_riderTold_282 : decode cX10_riderTold 282 = .ok (.aload_n 0, 1) := by decide +kernel
theorem dX10_riderTold_283 : decode cX10_riderTold 283 = .ok (.getfield 45, 3) := by decide +kernel
theorem dX10_riderTold_286 : decode cX10_riderTold 286 = .ok (.getfield 158, 3) := by decide +kernel
theorem dX10_riderTold_289 : decode cX10_riderTold 289 = .ok (.iload_n 1, 1) := by decide +kernel
theorem dX10_riderTold_290 : decode cX10_riderTold 290 = .ok (.iaload, 1) := by decide +kernel
theorem dX10_riderTold_291 : decode cX10_riderTold 291 = .ok (.ireturn, 1) := by decide +kernel
theorem dX10_riderTold_292 : decode cX10_riderTold 292 = .ok (.aload_n 0, 1) := by decide +kernel
theorem dX10_riderTold_293 : decode cX10_riderTold 293 = .ok (.getfield 45, 3) := by decide +kernel
theorem dX10_riderTold_296 : decode cX10_riderTold 296 = .ok (.getfield 136, 3) := by decide +kernel
theorem dX10_riderTold_299 : decode cX10_riderTold 299 = .ok (.iload_n 1, 1) := by decide +kernel
theorem dX10_riderTold_300 : decode cX10_riderTold 300 = .ok (.iaload, 1) := by decide +kernel
theorem dX10_riderTold_301 : decode cX10_riderTold 301 = .ok (.ireturn, 1) := by decide +kernel
theorem dX10_rider_0 : decode cX10_rider 0 = .ok (.aload_n 0, 1) := by decide +kernel
theorem dX10_rider_1 : decode cX10_rider 1 = .ok (.iconst 0, 1) := by decide +kernel
theorem dX10_rider_2 : decode cX10_rider 2 = .ok (.putfield 52, 3) := by decide +kernel
theorem dX10_rider_5 : decode cX10_rider 5 = .ok (.iload_n 1, 1) := by decide +kernel
theorem dX10_rider_6 : decode cX10_rider 6 = .ok (.iconst 0, 1) := by decide +kernel
theorem dX10_rider_7 : decode cX10_rider 7 = .ok (.aload_n 0, 1) := by decide +kernel
theorem dX10_rider_8 : decode cX10_rider 8 = .ok (.getfield 95, 3) := by decide +kernel
theorem dX10_rider_11 : decode cX10_rider 11 = .ok (.iconst 1, 1) := by decide +kernel
theorem dX10_rider_12 : decode cX10_rider 12 = .ok (.isub, 1) := by decide +kernel
theorem dX10_rider_13 : decode cX10_rider 13 = .ok (.invokestatic 59, 3) := by decide +kernel
theorem dX10_rider_16 : decode cX10_rider 16 = .ok (.ifCond .eq 22, 3) := by decide +kernel
theorem dX10_rider_19 : decode cX10_rider 19 = .ok (.iload_n 2, 1) := by decide +kernel
theorem dX10_rider_20 : decode cX10_rider 20 = .ok (.iconst 0, 1) := by decide +kernel
theorem dX10_rider_21 : decode cX10_rider 21 = .ok (.bipush 10, 2) := by decide +kernel
theorem dX10_rider_23 : decode cX10_rider 23 = .ok (.invokestatic 59, 3) := by decide +kernel
theorem dX10_rider_26 : decode cX10_rider 26 = .ok (.ifCond .eq 12, 3) := by decide +kernel
theorem dX10_rider_29 : decode cX10_rider 29 = .ok (.aload_n 0, 1) := by decide +kernel
theorem dX10_rider_30 : decode cX10_rider 30 = .ok (.iload_n 1, 1) := by decide +kernel
theorem dX10_rider_31 : decode cX10_rider 31 = .ok (.iload_n 2, 1) := by decide +kernel
theorem dX10_rider_32 : decode cX10_rider 32 = .ok (.invokevirtual 161, 3) := by decide +kernel
theorem dX10_rider_35 : decode cX10_rider 35 = .ok (.goto 8, 3) := by decide +kernel
theorem dX10_rider_38 : decode cX10_rider 38 = .ok (.aload_n 0, 1) := by decide +kernel
theorem dX10_rider_39 : decode cX10_rider 39 = .ok (.iconst 1, 1) := by decide +kernel
theorem dX10_rider_40 : decode cX10_rider 40 = .ok (.invokevirtual 82, 3) := by decide +kernel
theorem dX10_rider_43 : decode cX10_rider 43 = .ok (.ireturn, 1) := by decide +kernel
theorem dX10_queue_0 : decode cX10_queue 0 = .ok (.aload_n 0, 1) := by decide +kernel
theorem dX10_queue_1 : decode cX10_queue 1 = .ok (.iconst 0, 1) := by decide +kernel
theorem dX10_queue_2 : decode cX10_queue 2 = .ok (.putfield 52, 3) := by decide +kernel
theorem dX10_queue_5 : decode cX10_queue 5 = .ok (.aload_n 0, 1) := by decide +kernel
theorem dX10_queue_6 : decode cX10_queue 6 = .ok (.iload_n 1, 1) := by decide +kernel
theorem dX10_queue_7 : decode cX10_queue 7 = .ok (.invokevirtual 85, 3) := by decide +kernel
theorem dX10_queue_10 : decode cX10_queue 10 = .ok (.ifCond .eq 39, 3) := by decide +kernel
theorem dX10_queue_13 : decode cX10_queue 13 = .ok (.iload_n 2, 1) := by decide +kernel
theorem dX10_queue_14 : decode cX10_queue 14 = .ok (.iconst 0, 1) := by decide +kernel
theorem dX10_queue_15 : decode cX10_queue 15 = .ok (.aload_n 0, 1) := by decide +kernel
theorem dX10_queue_16 : decode cX10_queue 16 = .ok (.getfield 45, 3) := by decide +kernel
theorem dX10_queue_19 : decode cX10_queue 19 = .ok (.getfield 101, 3) := by decide +kernel
theorem dX10_queue_22 : decode cX10_queue 22 = .ok (.iload_n 1, 1) := by decide +kernel
theorem dX10_queue_23 : decode cX10_queue 23 = .ok (.iaload, 1) := by decide +kernel
theorem dX10_queue_24 : decode cX10_queue 24 = .ok (.iconst 1, 1) := by decide +kernel
theorem dX10_queue_25 : decode cX10_queue 25 = .ok (.isub, 1) := by decide +kernel
theorem dX10_queue_26 : decode cX10_queue 26 = .ok (.invokestatic 59, 3) := by decide +kernel
theorem dX10_queue_29 : decode cX10_queue 29 = .ok (.ifCond .eq 20, 3) := by decide +kernel
theorem dX10_queue_32 : decode cX10_queue 32 = .ok (.aload_n 0, 1) := by decide +kernel
theorem dX10_queue_33 : decode cX10_queue 33 = .ok (.getfield 45, 3) := by decide +kernel
theorem dX10_queue_36 : decode cX10_queue 36 = .ok (.getfield 104, 3) := by decide +kernel
theorem dX10_queue_39 : decode cX10_queue 39 = .ok (.bipush 12, 2) := by decide +kernel
theorem dX10_queue_41 : decode cX10_queue 41 = .ok (.iload_n 1, 1) := by decide +kernel
theorem dX10_queue_42 : decode cX10_queue 42 = .ok (.imul, 1) := by decide +kernel
theorem dX10_queue_43 : decode cX10_queue 43 = .ok (.iload_n 2, 1) := by decide +kernel
theorem dX10_queue_44 : decode cX10_queue 44 = .ok (.iadd, 1) := by decide +kernel
theorem dX10_queue_45 : decode cX10_queue 45 = .ok (.iaload, 1) := by decide +kernel
theorem dX10_queue_46 : decode cX10_queue 46 = .ok (.goto 8, 3) := by decide +kernel
theorem dX10_queue_49 : decode cX10_queue 49 = .ok (.aload_n 0, 1) := by decide +kernel
theorem dX10_queue_50 : decode cX10_queue 50 = .ok (.iconst 1, 1) := by decide +kernel
theorem dX10_queue_51 : decode cX10_queue 51 = .ok (.invokevirtual 82, 3) := by decide +kernel
theorem dX10_queue_54 : decode cX10_queue 54 = .ok (.ireturn, 1) := by decide +kernel
theorem dX10_pass_0 : decode cX10_pass 0 = .ok (.aload_n 0, 1) := by decide +kernel
theorem dX10_pass_1 : decode cX10_pass 1 = .ok (.iconst 0, 1) := by decide +kernel
theorem dX10_pass_2 : decode cX10_pass 2 = .ok (.putfield 52, 3) := by decide +kernel
theorem dX10_pass_5 : decode cX10_pass 5 = .ok (.iload_n 1, 1) := by decide +kernel
theorem dX10_pass_6 : decode cX10_pass 6 = .ok (.iconst 1, 1) := by decide +kernel
theorem dX10_pass_7 : decode cX10_pass 7 = .ok (.bipush 100, 2) := by decide +kernel
theorem dX10_pass_9 : decode cX10_pass 9 = .ok (.invokestatic 59, 3) := by decide +kernel
theorem dX10_pass_12 : decode cX10_pass 12 = .ok (.ifCond .ne 9, 3) := by decide +kernel
theorem dX10_pass_15 : decode cX10_pass 15 = .ok (.aload_n 0, 1) := by decide +kernel
theorem dX10_pass_16 : decode cX10_pass 16 = .ok (.iconst 1, 1) := by decide +kernel
theorem dX10_pass_17 : decode cX10_pass 17 = .ok (.invokevirtual 82, 3) := by decide +kernel
theorem dX10_pass_20 : decode cX10_pass 20 = .ok (.ireturn, 1) := by decide +kernel
theorem dX10_pass_21 : decode cX10_pass 21 = .ok (.iconst 0, 1) := by decide +kernel
theorem dX10_pass_22 : decode cX10_pass 22 = .ok (.istore_n 2, 1) := by decide +kernel
theorem dX10_pass_23 : decode cX10_pass 23 = .ok (.iconst 0, 1) := by decide +kernel
theorem dX10_pass_24 : decode cX10_pass 24 = .ok (.istore_n 3, 1) := by decide +kernel
theorem dX10_pass_25 : decode cX10_pass 25 = .ok (.iload_n 3, 1) := by decide +kernel
theorem dX10_pass_26 : decode cX10_pass 26 = .ok (.iload_n 1, 1) := by decide +kernel
theorem dX10_pass_27 : decode cX10_pass 27 = .ok (.if_icmp .ge 19, 3) := by decide +kernel
theorem dX10_pass_30 : decode cX10_pass 30 = .ok (.iload_n 2, 1) := by decide +kernel
theorem dX10_pass_31 : decode cX10_pass 31 = .ok (.aload_n 0, 1) := by decide +kernel
theorem dX10_pass_32 : decode cX10_pass 32 = .ok (.getfield 45, 3) := by decide +kernel
theorem dX10_pass_35 : decode cX10_pass 35 = .ok (.invokevirtual 164, 3) := by decide +kernel
theorem dX10_pass_38 : decode cX10_pass 38 = .ok (.iadd, 1) := by decide +kernel
theorem dX10_pass_39 : decode cX10_pass 39 = .ok (.istore_n 2, 1) := by decide +kernel
theorem dX10_pass_40 : decode cX10_pass 40 = .ok (.iinc 3 1, 3) := by decide +kernel
theorem dX10_pass_43 : decode cX10_pass 43 = .ok (.goto (-18), 3) := by decide +kernel
theorem dX10_pass_46 : decode cX10_pass 46 = .ok (.iload_n 2, 1) := by decide +kernel
theorem dX10_pass_47 : decode cX10_pass 47 = .ok (.ireturn, 1) := by decide +kernel
theorem dX10_counted_0 : decode cX10_counted 0 = .ok (.iconst 0, 1) := by decide +kernel
theorem dX10_counted_1 : decode cX10_counted 1 = .ok (.istore_n 2, 1) := by decide +kernel
theorem dX10_counted_2 : decode cX10_counted 2 = .ok (.iconst 0, 1) := by decide +kernel
theorem dX10_counted_3 : decode cX10_counted 3 = .ok (.istore_n 3, 1) := by decide +kernel
theorem dX10_counted_4 : decode cX10_counted 4 = .ok (.iconst 0, 1) := by decide +kernel
theorem dX10_counted_5 : decode cX10_counted 5 = .ok (.istore 4, 2) := by decide +kernel
theorem dX10_counted_7 : decode cX10_counted 7 = .ok (.iload 4, 2) := by decide +kernel
theorem dX10_counted_9 : decode cX10_counted 9 = .ok (.aload_n 0, 1) := by decide +kernel
theorem dX10_counted_10 : decode cX10_counted 10 = .ok (.getfield 63, 3) := by decide +kernel
theorem dX10_counted_13 : decode cX10_counted 13 = .ok (.if_icmp .ge 35, 3) := by decide +kernel
theorem dX10_counted_16 : decode cX10_counted 16 = .ok (.iload_n 2, 1) := by decide +kernel
theorem dX10_counted_17 : decode cX10_counted 17 = .ok (.aload_n 0, 1) := by decide +kernel
theorem dX10_counted_18 : decode cX10_counted 18 = .ok (.getfield 45, 3) := by decide +kernel
theorem dX10_counted_21 : decode cX10_counted 21 = .ok (.getfield 89, 3) := by decide +kernel
theorem dX10_counted_24 : decode cX10_counted 24 = .ok (.iload 4, 2) := by decide +kernel
theorem dX10_counted_26 : decode cX10_counted 26 = .ok (.iaload, 1) := by decide +kernel
theorem dX10_counted_27 : decode cX10_counted 27 = .ok (.iadd, 1) := by decide +kernel
theorem dX10_counted_28 : decode cX10_counted 28 = .ok (.istore_n 2, 1) := by decide +kernel
theorem dX10_counted_29 : decode cX10_counted 29 = .ok (.iload_n 3, 1) := by decide +kernel
theorem dX10_counted_30 : decode cX10_counted 30 = .ok (.aload_n 0, 1) := by decide +kernel
theorem dX10_counted_31 : decode cX10_counted 31 = .ok (.getfield 45, 3) := by decide +kernel
theorem dX10_counted_34 : decode cX10_counted 34 = .ok (.getfield 117, 3) := by decide +kernel
theorem dX10_counted_37 : decode cX10_counted 37 = .ok (.iload 4, 2) := by decide +kernel
theorem dX10_counted_39 : decode cX10_counted 39 = .ok (.iaload, 1) := by decide +kernel
theorem dX10_counted_40 : decode cX10_counted 40 = .ok (.iadd, 1) := by decide +kernel
theorem dX10_counted_41 : decode cX10_counted 41 = .ok (.istore_n 3, 1) := by decide +kernel
theorem dX10_counted_42 : decode cX10_counted 42 = .ok (.iinc 4 1, 3) := by decide +kernel
theorem dX10_counted_45 : decode cX10_counted 45 = .ok (.goto (-38), 3) := by decide +kernel
theorem dX10_counted_48 : decode cX10_counted 48 = .ok (.bipush 10, 2) := by decide +kernel
theorem dX10_counted_50 : decode cX10_counted 50 = .ok (.newarray .int, 2) := by decide +kernel
theorem dX10_counted_52 : decode cX10_counted 52 = .ok (.dup, 1) := by decide +kernel
theorem dX10_counted_53 : decode cX10_counted 53 = .ok (.iconst 0, 1) := by decide +kernel
theorem dX10_counted_54 : decode cX10_counted 54 = .ok (.aload_n 0, 1) := by decide +kernel
theorem dX10_counted_55 : decode cX10_counted 55 = .ok (.getfield 45, 3) := by decide +kernel
theorem dX10_counted_58 : decode cX10_counted 58 = .ok (.getfield 123, 3) := by decide +kernel
theorem dX10_counted_61 : decode cX10_counted 61 = .ok (.iastore, 1) := by decide +kernel
theorem dX10_counted_62 : decode cX10_counted 62 = .ok (.dup, 1) := by decide +kernel
theorem dX10_counted_63 : decode cX10_counted 63 = .ok (.iconst 1, 1) := by decide +kernel
theorem dX10_counted_64 : decode cX10_counted 64 = .ok (.aload_n 0, 1) := by decide +kernel
theorem dX10_counted_65 : decode cX10_counted 65 = .ok (.getfield 56, 3) := by decide +kernel
theorem dX10_counted_68 : decode cX10_counted 68 = .ok (.iastore, 1) := by decide +kernel
theorem dX10_counted_69 : decode cX10_counted 69 = .ok (.dup, 1) := by decide +kernel
theorem dX10_counted_70 : decode cX10_counted 70 = .ok (.iconst 2, 1) := by decide +kernel
theorem dX10_counted_71 : decode cX10_counted 71 = .ok (.aload_n 0, 1) := by decide +kernel
theorem dX10_counted_72 : decode cX10_counted 72 = .ok (.getfield 63, 3) := by decide +kernel
theorem dX10_counted_75 : decode cX10_counted 75 = .ok (.iastore, 1) := by decide +kernel
theorem dX10_counted_76 : decode cX10_counted 76 = .ok (.dup, 1) := by decide +kernel
theorem dX10_counted_77 : decode cX10_counted 77 = .ok (.iconst 3, 1) := by decide +kernel
theorem dX10_counted_78 : decode cX10_counted 78 = .ok (.aload_n 0, 1) := by decide +kernel
theorem dX10_counted_79 : decode cX10_counted 79 = .ok (.getfield 95, 3) := by decide +kernel
theorem dX10_counted_82 : decode cX10_counted 82 = .ok (.iastore, 1) := by decide +kernel
theorem dX10_counted_83 : decode cX10_counted 83 = .ok (.dup, 1) := by decide +kernel
theorem dX10_counted_84 : decode cX10_counted 84 = .ok (.iconst 4, 1) := by decide +kernel
theorem dX10_counted_85 : decode cX10_counted 85 = .ok (.aload_n 0, 1) := by decide +kernel
theorem dX10_counted_86 : decode cX10_counted 86 = .ok (.getfield 45, 3) := by decide +kernel
theorem dX10_counted_89 : decode cX10_counted 89 = .ok (.iconst 0, 1) := by decide +kernel
theorem dX10_counted_90 : decode cX10_counted 90 = .ok (.invokevirtual 168, 3) := by decide +kernel
theorem dX10_counted_93 : decode cX10_counted 93 = .ok (.iastore, 1) := by decide +kernel
theorem dX10_counted_94 : decode cX10_counted 94 = .ok (.dup, 1) := by decide +kernel
theorem dX10_counted_95 : decode cX10_counted 95 = .ok (.iconst 5, 1) := by decide +kernel
theorem dX10_counted_96 : decode cX10_counted 96 = .ok (.aload_n 0, 1) := by decide +kernel
theorem dX10_counted_97 : decode cX10_counted 97 = .ok (.getfield 45, 3) := by decide +kernel
theorem dX10_counted_100 : decode cX10_counted 100 = .ok (.iconst 1, 1) := by decide +kernel
theorem dX10_counted_101 : decode cX10_counted 101 = .ok (.invokevirtual 168, 3) := by decide +kernel
theorem dX10_counted_104 : decode cX10_counted 104 = .ok (.iastore, 1) := by decide +kernel
theorem dX10_counted_105 : decode cX10_counted 105 = .ok (.dup, 1) := by decide +kernel
theorem dX10_counted_106 : decode cX10_counted 106 = .ok (.bipush 6, 2) := by decide +kernel
theorem dX10_counted_108 : decode cX10_counted 108 = .ok (.aload_n 0, 1) := by decide +kernel
theorem dX10_counted_109 : decode cX10_counted 109 = .ok (.getfield 45, 3) := by decide +kernel
theorem dX10_counted_112 : decode cX10_counted 112 = .ok (.iconst 2, 1) := by decide +kernel
theorem dX10_counted_113 : decode cX10_counted 113 = .ok (.invokevirtual 168, 3) := by decide +kernel
theorem dX10_counted_116 : decode cX10_counted 116 = .ok (.iastore, 1) := by decide +kernel
theorem dX10_counted_117 : decode cX10_counted 117 = .ok (.dup, 1) := by decide +kernel
theorem dX10_counted_118 : decode cX10_counted 118 = .ok (.bipush 7, 2) := by decide +kernel
theorem dX10_counted_120 : decode cX10_counted 120 = .ok (.aload_n 0, 1) := by decide +kernel
theorem dX10_counted_121 : decode cX10_counted 121 = .ok (.getfield 45, 3) := by decide +kernel
theorem dX10_counted_124 : decode cX10_counted 124 = .ok (.iconst 3, 1) := by decide +kernel
theorem dX10_counted_125 : decode cX10_counted 125 = .ok (.invokevirtual 168, 3) := by decide +kernel
theorem dX10_counted_128 : decode cX10_counted 128 = .ok (.iastore, 1) := by decide +kernel
theorem dX10_counted_129 : decode cX10_counted 129 = .ok (.dup, 1) := by decide +kernel
theorem dX10_counted_130 : decode cX10_counted 130 = .ok (.bipush 8, 2) := by decide +kernel
theorem dX10_counted_132 : decode cX10_counted 132 = .ok (.iload_n 2, 1) := by decide +kernel
theorem dX10_counted_133 : decode cX10_counted 133 = .ok (.iastore, 1) := by decide +kernel
theorem dX10_counted_134 : decode cX10_counted 134 = .ok (.dup, 1) := by decide +kernel
theorem dX10_counted_135 : decode cX10_counted 135 = .ok (.bipush 9, 2) := by decide +kernel
theorem dX10_counted_137 : decode cX10_counted 137 = .ok (.iload_n 3, 1) := by decide +kernel
theorem dX10_counted_138 : decode cX10_counted 138 = .ok (.iastore, 1) := by decide +kernel
theorem dX10_counted_139 : decode cX10_counted 139 = .ok (.astore 4, 2) := by decide +kernel
theorem dX10_counted_141 : decode cX10_counted 141 = .ok (.aload 4, 2) := by decide +kernel
theorem dX10_counted_143 : decode cX10_counted 143 = .ok (.iload_n 1, 1) := by decide +kernel
theorem dX10_counted_144 : decode cX10_counted 144 = .ok (.iaload, 1) := by decide +kernel
theorem dX10_counted_145 : decode cX10_counted 145 = .ok (.ireturn, 1) := by decide +kernel
theorem dX10_count_0 : decode cX10_count 0 = .ok (.aload_n 0, 1) := by decide +kernel
theorem dX10_count_1 : decode cX10_count 1 = .ok (.iconst 0, 1) := by decide +kernel
theorem dX10_count_2 : decode cX10_count 2 = .ok (.putfield 52, 3) := by decide +kernel
theorem dX10_count_5 : decode cX10_count 5 = .ok (.iload_n 1, 1) := by decide +kernel
theorem dX10_count_6 : decode cX10_count 6 = .ok (.iconst 0, 1) := by decide +kernel
theorem dX10_count_7 : decode cX10_count 7 = .ok (.bipush 9, 2) := by decide +kernel
theorem dX10_count_9 : decode cX10_count 9 = .ok (.invokestatic 59, 3) := by decide +kernel
theorem dX10_count_12 : decode cX10_count 12 = .ok (.ifCond .eq 11, 3) := by decide +kernel
theorem dX10_count_15 : decode cX10_count 15 = .ok (.aload_n 0, 1) := by decide +kernel
theorem dX10_count_16 : decode cX10_count 16 = .ok (.iload_n 1, 1) := by decide +kernel
theorem dX10_count_17 : decode cX10_count 17 = .ok (.invokevirtual 171, 3) := by decide +kernel
theorem dX10_count_20 : decode cX10_count 20 = .ok (.goto 8, 3) := by decide +kernel
theorem dX10_count_23 : decode cX10_count 23 = .ok (.aload_n 0, 1) := by decide +kernel
theorem dX10_count_24 : decode cX10_count 24 = .ok (.iconst 1, 1) := by decide +kernel
theorem dX10_count_25 : decode cX10_count 25 = .ok (.invokevirtual 82, 3) := by decide +kernel
theorem dX10_count_28 : decode cX10_count 28 = .ok (.ireturn, 1) := by decide +kernel
theorem dX10_way_0 : decode cX10_way 0 = .ok (.aload_n 0, 1) := by decide +kernel
theorem dX10_way_1 : decode cX10_way 1 = .ok (.iconst 0, 1) := by decide +kernel
theorem dX10_way_2 : decode cX10_way 2 = .ok (.putfield 52, 3) := by decide +kernel
theorem dX10_way_5 : decode cX10_way 5 = .ok (.aload_n 0, 1) := by decide +kernel
theorem dX10_way_6 : decode cX10_way 6 = .ok (.iload_n 1, 1) := by decide +kernel
theorem dX10_way_7 : decode cX10_way 7 = .ok (.invokevirtual 85, 3) := by decide +kernel
theorem dX10_way_10 : decode cX10_way 10 = .ok (.ifCond .eq 11, 3) := by decide +kernel
theorem dX10_way_13 : decode cX10_way 13 = .ok (.aload_n 0, 1) := by decide +kernel
theorem dX10_way_14 : decode cX10_way 14 = .ok (.iload_n 2, 1) := by decide +kernel
theorem dX10_way_15 : decode cX10_way 15 = .ok (.invokevirtual 85, 3) := by decide +kernel
theorem dX10_way_18 : decode cX10_way 18 = .ok (.ifCond .ne 9, 3) := by decide +kernel
theorem dX10_way_21 : decode cX10_way 21 = .ok (.aload_n 0, 1) := by decide +kernel
theorem dX10_way_22 : decode cX10_way 22 = .ok (.iconst 1, 1) := by decide +kernel
theorem dX10_way_23 : decode cX10_way 23 = .ok (.invokevirtual 82, 3) := by decide +kernel
theorem dX10_way_26 : decode cX10_way 26 = .ok (.ireturn, 1) := by decide +kernel
theorem dX10_way_27 : decode cX10_way 27 = .ok (.iload_n 3, 1) := by decide +kernel
theorem dX10_way_28 : decode cX10_way 28 = .ok (.bipush 20, 2) := by decide +kernel
theorem dX10_way_30 : decode cX10_way 30 = .ok (.bipush 120, 2) := by decide +kernel
theorem dX10_way_32 : decode cX10_way 32 = .ok (.invokestatic 59, 3) := by decide +kernel
theorem dX10_way_35 : decode cX10_way 35 = .ok (.ifCond .eq 13, 3) := by decide +kernel
theorem dX10_way_38 : decode cX10_way 38 = .ok (.aload_n 0, 1) := by decide +kernel
theorem dX10_way_39 : decode cX10_way 39 = .ok (.iload_n 1, 1) := by decide +kernel
theorem dX10_way_40 : decode cX10_way 40 = .ok (.iload_n 2, 1) := by decide +kernel
theorem dX10_way_41 : decode cX10_way 41 = .ok (.iload_n 3, 1) := by decide +kernel
theorem dX10_way_42 : decode cX10_way 42 = .ok (.invokevirtual 78, 3) := by decide +kernel
theorem dX10_way_45 : decode cX10_way 45 = .ok (.goto 8, 3) := by decide +kernel
theorem dX10_way_48 : decode cX10_way 48 = .ok (.aload_n 0, 1) := by decide +kernel
theorem dX10_way_49 : decode cX10_way 49 = .ok (.iconst 2, 1) := by decide +kernel
theorem dX10_way_50 : decode cX10_way 50 = .ok (.invokevirtual 82, 3) := by decide +kernel
theorem dX10_way_53 : decode cX10_way 53 = .ok (.ireturn, 1) := by decide +kernel
theorem dX10_arrives_0 : decode cX10_arrives 0 = .ok (.aload_n 0, 1) := by decide +kernel
theorem dX10_arrives_1 : decode cX10_arrives 1 = .ok (.iconst 0, 1) := by decide +kernel
theorem dX10_arrives_2 : decode cX10_arrives 2 = .ok (.putfield 52, 3) := by decide +kernel
theorem dX10_arrives_5 : decode cX10_arrives 5 = .ok (.iload_n 1, 1) := by decide +kernel
theorem dX10_arrives_6 : decode cX10_arrives 6 = .ok (.iconst 0, 1) := by decide +kernel
theorem dX10_arrives_7 : decode cX10_arrives 7 = .ok (.aload_n 0, 1) := by decide +kernel
theorem dX10_arrives_8 : decode cX10_arrives 8 = .ok (.getfield 95, 3) := by decide +kernel
theorem dX10_arrives_11 : decode cX10_arrives 11 = .ok (.iconst 1, 1) := by decide +kernel
theorem dX10_arrives_12 : decode cX10_arrives 12 = .ok (.isub, 1) := by decide +kernel
theorem dX10_arrives_13 : decode cX10_arrives 13 = .ok (.invokestatic 59, 3) := by decide +kernel
theorem dX10_arrives_16 : decode cX10_arrives 16 = .ok (.ifCond .ne 9, 3) := by decide +kernel
theorem dX10_arrives_19 : decode cX10_arrives 19 = .ok (.aload_n 0, 1) := by decide +kernel
theorem dX10_arrives_20 : decode cX10_arrives 20 = .ok (.iconst 1, 1) := by decide +kernel
theorem dX10_arrives_21 : decode cX10_arrives 21 = .ok (.invokevirtual 82, 3) := by decide +kernel
theorem dX10_arrives_24 : decode cX10_arrives 24 = .ok (.ireturn, 1) := by decide +kernel
theorem dX10_arrives_25 : decode cX10_arrives 25 = .ok (.aload_n 0, 1) := by decide +kernel
theorem dX10_arrives_26 : decode cX10_arrives 26 = .ok (.getfield 49, 3) := by decide +kernel
theorem dX10_arrives_29 : decode cX10_arrives 29 = .ok (.aload_n 0, 1) := by decide +kernel
theorem dX10_arrives_30 : decode cX10_arrives 30 = .ok (.getfield 45, 3) := by decide +kernel
theorem dX10_arrives_33 : decode cX10_arrives 33 = .ok (.invokevirtual 174, 3) := by decide +kernel
theorem dX10_arrives_36 : decode cX10_arrives 36 = .ok (.iconst 0, 1) := by decide +kernel
theorem dX10_arrives_37 : decode cX10_arrives 37 = .ok (.istore_n 2, 1) := by decide +kernel
theorem dX10_arrives_38 : decode cX10_arrives 38 = .ok (.iload_n 2, 1) := by decide +kernel
theorem dX10_arrives_39 : decode cX10_arrives 39 = .ok (.sipush 200, 3) := by decide +kernel
theorem dX10_arrives_42 : decode cX10_arrives 42 = .ok (.if_icmp .ge 30, 3) := by decide +kernel
theorem dX10_arrives_45 : decode cX10_arrives 45 = .ok (.aload_n 0, 1) := by decide +kernel
theorem dX10_arrives_46 : decode cX10_arrives 46 = .ok (.getfield 49, 3) := by decide +kernel
theorem dX10_arrives_49 : decode cX10_arrives 49 = .ok (.getfield 98, 3) := by decide +kernel
theorem dX10_arrives_52 : decode cX10_arrives 52 = .ok (.iload_n 1, 1) := by decide +kernel
theorem dX10_arrives_53 : decode cX10_arrives 53 = .ok (.iaload, 1) := by decide +kernel
theorem dX10_arrives_54 : decode cX10_arrives 54 = .ok (.iconst 2, 1) := by decide +kernel
theorem dX10_arrives_55 : decode cX10_arrives 55 = .ok (.if_icmp .ge 17, 3) := by decide +kernel
theorem dX10_arrives_58 : decode cX10_arrives 58 = .ok (.aload_n 0, 1) := by decide +kernel
theorem dX10_arrives_59 : decode cX10_arrives 59 = .ok (.getfield 49, 3) := by decide +kernel
theorem dX10_arrives_62 : decode cX10_arrives 62 = .ok (.invokevirtual 164, 3) := by decide +kernel
theorem dX10_arrives_65 : decode cX10_arrives 65 = .ok (.pop, 1) := by decide +kernel
theorem dX10_arrives_66 : decode cX10_arrives 66 = .ok (.iinc 2 1, 3) := by decide +kernel
theorem dX10_arrives_69 : decode cX10_arrives 69 = .ok (.goto (-31), 3) := by decide +kernel
theorem dX10_arrives_72 : decode cX10_arrives 72 = .ok (.aload_n 0, 1) := by decide +kernel
theorem dX10_arrives_73 : decode cX10_arrives 73 = .ok (.getfield 49, 3) := by decide +kernel
theorem dX10_arrives_76 : decode cX10_arrives 76 = .ok (.getfield 136, 3) := by decide +kernel
theorem dX10_arrives_79 : decode cX10_arrives 79 = .ok (.iload_n 1, 1) := by decide +kernel
theorem dX10_arrives_80 : decode cX10_arrives 80 = .ok (.iaload, 1) := by decide +kernel
theorem dX10_arrives_81 : decode cX10_arrives 81 = .ok (.ireturn, 1) := by decide +kernel
theorem dX10_arrivedIn_0 : decode cX10_arrivedIn 0 = .ok (.iconst 0, 1) := by decide +kernel
theorem dX10_arrivedIn_1 : decode cX10_arrivedIn 1 = .ok (.istore_n 2, 1) := by decide +kernel
theorem dX10_arrivedIn_2 : decode cX10_arrivedIn 2 = .ok (.iload_n 2, 1) := by decide +kernel
theorem dX10_arrivedIn_3 : decode cX10_arrivedIn 3 = .ok (.iload_n 1, 1) := by decide +kernel
theorem dX10_arrivedIn_4 : decode cX10_arrivedIn 4 = .ok (.if_icmp .ge 17, 3) := by decide +kernel
theorem dX10_arrivedIn_7 : decode cX10_arrivedIn 7 = .ok (.aload_n 0, 1) := by decide +kernel
theorem dX10_arrivedIn_8 : decode cX10_arrivedIn 8 = .ok (.getfield 49, 3) := by decide +kernel
theorem dX10_arrivedIn_11 : decode cX10_arrivedIn 11 = .ok (.invokevirtual 164, 3) := by decide +kernel
theorem dX10_arrivedIn_14 : decode cX10_arrivedIn 14 = .ok (.pop, 1) := by decide +kernel
theorem dX10_arrivedIn_15 : decode cX10_arrivedIn 15 = .ok (.iinc 2 1, 3) := by decide +kernel
theorem dX10_arrivedIn_18 : decode cX10_arrivedIn 18 = .ok (.goto (-16), 3) := by decide +kernel
theorem dX10_arrivedIn_21 : decode cX10_arrivedIn 21 = .ok (.aload_n 0, 1) := by decide +kernel
theorem dX10_arrivedIn_22 : decode cX10_arrivedIn 22 = .ok (.getfield 49, 3) := by decide +kernel
theorem dX10_arrivedIn_25 : decode cX10_arrivedIn 25 = .ok (.iconst 2, 1) := by decide +kernel
theorem dX10_arrivedIn_26 : decode cX10_arrivedIn 26 = .ok (.invokevirtual 168, 3) := by decide +kernel
theorem dX10_arrivedIn_29 : decode cX10_arrivedIn 29 = .ok (.ireturn, 1) := by decide +kernel
theorem dX10_advise_0 : decode cX10_advise 0 = .ok (.aload_n 0, 1) := by decide +kernel
theorem dX10_advise_1 : decode cX10_advise 1 = .ok (.iconst 0, 1) := by decide +kernel
theorem dX10_advise_2 : decode cX10_advise 2 = .ok (.putfield 52, 3) := by decide +kernel
theorem dX10_advise_5 : decode cX10_advise 5 = .ok (.iload_n 1, 1) := by decide +kernel
theorem dX10_advise_6 : decode cX10_advise 6 = .ok (.iconst 1, 1) := by decide +kernel
theorem dX10_advise_7 : decode cX10_advise 7 = .ok (.bipush 30, 2) := by decide +kernel
theorem dX10_advise_9 : decode cX10_advise 9 = .ok (.invokestatic 59, 3) := by decide +kernel
theorem dX10_advise_12 : decode cX10_advise 12 = .ok (.ifCond .ne 9, 3) := by decide +kernel
theorem dX10_advise_15 : decode cX10_advise 15 = .ok (.aload_n 0, 1) := by decide +kernel
theorem dX10_advise_16 : decode cX10_advise 16 = .ok (.iconst 1, 1) := by decide +kernel
theorem dX10_advise_17 : decode cX10_advise 17 = .ok (.invokevirtual 82, 3) := by decide +kernel
theorem dX10_advise_20 : decode cX10_advise 20 = .ok (.ireturn, 1) := by decide +kernel
theorem dX10_advise_21 : decode cX10_advise 21 = .ok (.aload_n 0, 1) := by decide +kernel
theorem dX10_advise_22 : decode cX10_advise 22 = .ok (.getfield 49, 3) := by decide +kernel
theorem dX10_advise_25 : decode cX10_advise 25 = .ok (.aload_n 0, 1) := by decide +kernel
theorem dX10_advise_26 : decode cX10_advise 26 = .ok (.getfield 45, 3) := by decide +kernel
theorem dX10_advise_29 : decode cX10_advise 29 = .ok (.invokevirtual 174, 3) := by decide +kernel
theorem dX10_advise_32 : decode cX10_advise 32 = .ok (.iconst (-1), 1) := by decide +kernel
theorem dX10_advise_33 : decode cX10_advise 33 = .ok (.istore_n 2, 1) := by decide +kernel
theorem dX10_advise_34 : decode cX10_advise 34 = .ok (.aload_n 0, 1) := by decide +kernel
theorem dX10_advise_35 : decode cX10_advise 35 = .ok (.iload_n 1, 1) := by decide +kernel
theorem dX10_advise_36 : decode cX10_advise 36 = .ok (.invokevirtual 178, 3) := by decide +kernel
theorem dX10_advise_39 : decode cX10_advise 39 = .ok (.istore_n 3, 1) := by decide +kernel
theorem dX10_advise_40 : decode cX10_advise 40 = .ok (.iconst 0, 1) := by decide +kernel
theorem dX10_advise_41 : decode cX10_advise 41 = .ok (.istore 4, 2) := by decide +kernel
theorem dX10_advise_43 : decode cX10_advise 43 = .ok (.iload 4, 2) := by decide +kernel
theorem dX10_advise_45 : decode cX10_advise 45 = .ok (.aload_n 0, 1) := by decide +kernel
theorem dX10_advise_46 : decode cX10_advise 46 = .ok (.getfield 63, 3) := by decide +kernel
theorem dX10_advise_49 : decode cX10_advise 49 = .ok (.if_icmp .ge 73, 3) := by decide +kernel
theorem dX10_advise_52 : decode cX10_advise 52 = .ok (.aload_n 0, 1) := by decide +kernel
theorem dX10_advise_53 : decode cX10_advise 53 = .ok (.getfield 45, 3) := by decide +kernel
theorem dX10_advise_56 : decode cX10_advise 56 = .ok (.getfield 89, 3) := by decide +kernel
theorem dX10_advise_59 : decode cX10_advise 59 = .ok (.iload 4, 2) := by decide +kernel
theorem dX10_advise_61 : decode cX10_advise 61 = .ok (.iaload, 1) := by decide +kernel
theorem dX10_advise_62 : decode cX10_advise 62 = .ok (.iconst 3, 1) := by decide +kernel
theorem dX10_advise_63 : decode cX10_advise 63 = .ok (.if_icmp .ne 6, 3) := by decide +kernel
theorem dX10_advise_66 : decode cX10_advise 66 = .ok (.goto 50, 3) := by decide +kernel
theorem dX10_advise_69 : decode cX10_advise 69 = .ok (.aload_n 0, 1) := by decide +kernel
theorem dX10_advise_70 : decode cX10_advise 70 = .ok (.getfield 49, 3) := by decide +kernel
theorem dX10_advise_73 : decode cX10_advise 73 = .ok (.aload_n 0, 1) := by decide +kernel
theorem dX10_advise_74 : decode cX10_advise 74 = .ok (.getfield 45, 3) := by decide +kernel
theorem dX10_advise_77 : decode cX10_advise 77 = .ok (.invokevirtual 174, 3) := by decide +kernel
theorem dX10_advise_80 : decode cX10_advise 80 = .ok (.aload_n 0, 1) := by decide +kernel
theorem dX10_advise_81 : decode cX10_advise 81 = .ok (.getfield 49, 3) := by decide +kernel
theorem dX10_advise_84 : decode cX10_advise 84 = .ok (.getfield 89, 3) := by decide +kernel
theorem dX10_advise_87 : decode cX10_advise 87 = .ok (.iload 4, 2) := by decide +kernel
theorem dX10_advise_89 : decode cX10_advise 89 = .ok (.dup2, 1) := by decide +kernel
theorem dX10_advise_90 : decode cX10_advise 90 = .ok (.iaload, 1) := by decide +kernel
theorem dX10_advise_91 : decode cX10_advise 91 = .ok (.iconst 1, 1) := by decide +kernel
theorem dX10_advise_92 : decode cX10_advise 92 = .ok (.iadd, 1) := by decide +kernel
theorem dX10_advise_93 : decode cX10_advise 93 = .ok (.iastore, 1) := by decide +kernel
theorem dX10_advise_94 : decode cX10_advise 94 = .ok (.aload_n 0, 1) := by decide +kernel
theorem dX10_advise_95 : decode cX10_advise 95 = .ok (.iload_n 1, 1) := by decide +kernel
theorem dX10_advise_96 : decode cX10_advise 96 = .ok (.invokevirtual 178, 3) := by decide +kernel
theorem dX10_advise_99 : decode cX10_advise 99 = .ok (.istore 5, 2) := by decide +kernel
theorem dX10_advise_101 : decode cX10_advise 101 = .ok (.iload 5, 2) := by decide +kernel
theorem dX10_advise_103 : decode cX10_advise 103 = .ok (.iload_n 3, 1) := by decide +kernel
theorem dX10_advise_104 : decode cX10_advise 104 = .ok (.if_icmp .gt 6, 3) := by decide +kernel
theorem dX10_advise_107 : decode cX10_advise 107 = .ok (.goto 9, 3) := by decide +kernel
theorem dX10_advise_110 : decode cX10_advise 110 = .ok (.iload 4, 2) := by decide +kernel
theorem dX10_advise_112 : decode cX10_advise 112 = .ok (.istore_n 2, 1) := by decide +kernel
theorem dX10_advise_113 : decode cX10_advise 113 = .ok (.iload 5, 2) := by decide +kernel
theorem dX10_advise_115 : decode cX10_advise 115 = .ok (.istore_n 3, 1) := by decide +kernel
theorem dX10_advise_116 : decode cX10_advise 116 = .ok (.iinc 4 1, 3) := by decide +kernel
theorem dX10_advise_119 : decode cX10_advise 119 = .ok (.goto (-76), 3) := by decide +kernel
theorem dX10_advise_122 : decode cX10_advise 122 = .ok (.iload_n 2, 1) := by decide +kernel
theorem dX10_advise_123 : decode cX10_advise 123 = .ok (.ireturn, 1) := by decide +kernel
theorem dX10_mean_0 : decode cX10_mean 0 = .ok (.aload_n 0, 1) := by decide +kernel
theorem dX10_mean_1 : decode cX10_mean 1 = .ok (.iconst 0, 1) := by decide +kernel
theorem dX10_mean_2 : decode cX10_mean 2 = .ok (.putfield 52, 3) := by decide +kernel
theorem dX10_mean_5 : decode cX10_mean 5 = .ok (.iconst 0, 1) := by decide +kernel
theorem dX10_mean_6 : decode cX10_mean 6 = .ok (.istore_n 1, 1) := by decide +kernel
theorem dX10_mean_7 : decode cX10_mean 7 = .ok (.iconst 0, 1) := by decide +kernel
theorem dX10_mean_8 : decode cX10_mean 8 = .ok (.istore_n 2, 1) := by decide +kernel
theorem dX10_mean_9 : decode cX10_mean 9 = .ok (.iload_n 2, 1) := by decide +kernel
theorem dX10_mean_10 : decode cX10_mean 10 = .ok (.aload_n 0, 1) := by decide +kernel
theorem dX10_mean_11 : decode cX10_mean 11 = .ok (.getfield 95, 3) := by decide +kernel
theorem dX10_mean_14 : decode cX10_mean 14 = .ok (.if_icmp .ge 38, 3) := by decide +kernel
theorem dX10_mean_17 : decode cX10_mean 17 = .ok (.iload_n 1, 1) := by decide +kernel
theorem dX10_mean_18 : decode cX10_mean 18 = .ok (.aload_n 0, 1) := by decide +kernel
theorem dX10_mean_19 : decode cX10_mean 19 = .ok (.getfield 45, 3) := by decide +kernel
theorem dX10_mean_22 : decode cX10_mean 22 = .ok (.getfield 98, 3) := by decide +kernel
theorem dX10_mean_25 : decode cX10_mean 25 = .ok (.iload_n 2, 1) := by decide +kernel
theorem dX10_mean_26 : decode cX10_mean 26 = .ok (.iaload, 1) := by decide +kernel
theorem dX10_mean_27 : decode cX10_mean 27 = .ok (.iconst 2, 1) := by decide +kernel
theorem dX10_mean_28 : decode cX10_mean 28 = .ok (.if_icmp .ne 15, 3) := by decide +kernel
theorem dX10_mean_31 : decode cX10_mean 31 = .ok (.aload_n 0, 1) := by decide +kernel
theorem dX10_mean_32 : decode cX10_mean 32 = .ok (.getfield 45, 3) := by decide +kernel
theorem dX10_mean_35 : decode cX10_mean 35 = .ok (.getfield 136, 3) := by decide +kernel
theorem dX10_mean_38 : decode cX10_mean 38 = .ok (.iload_n 2, 1) := by decide +kernel
theorem dX10_mean_39 : decode cX10_mean 39 = .ok (.iaload, 1) := by decide +kernel
theorem dX10_mean_40 : decode cX10_mean 40 = .ok (.goto 4, 3) := by decide +kernel
theorem dX10_mean_43 : decode cX10_mean 43 = .ok (.iconst 0, 1) := by decide +kernel
theorem dX10_mean_44 : decode cX10_mean 44 = .ok (.iadd, 1) := by decide +kernel
theorem dX10_mean_45 : decode cX10_mean 45 = .ok (.istore_n 1, 1) := by decide +kernel
theorem dX10_mean_46 : decode cX10_mean 46 = .ok (.iinc 2 1, 3) := by decide +kernel
theorem dX10_mean_49 : decode cX10_mean 49 = .ok (.goto (-40), 3) := by decide +kernel
theorem dX10_mean_52 : decode cX10_mean 52 = .ok (.aload_n 0, 1) := by decide +kernel
theorem dX10_mean_53 : decode cX10_mean 53 = .ok (.getfield 45, 3) := by decide +kernel
theorem dX10_mean_56 : decode cX10_mean 56 = .ok (.iconst 2, 1) := by decide +kernel
theorem dX10_mean_57 : decode cX10_mean 57 = .ok (.invokevirtual 168, 3) := by decide +kernel
theorem dX10_mean_60 : decode cX10_mean 60 = .ok (.ifCond .ne 7, 3) := by decide +kernel
theorem dX10_mean_63 : decode cX10_mean 63 = .ok (.dconst 0, 1) := by decide +kernel
theorem dX10_mean_64 : decode cX10_mean 64 = .ok (.goto 15, 3) := by decide +kernel
theorem dX10_mean_67 : decode cX10_mean 67 = .ok (.iload_n 1, 1) := by decide +kernel
theorem dX10_mean_68 : decode cX10_mean 68 = .ok (.i2d, 1) := by decide +kernel
theorem dX10_mean_69 : decode cX10_mean 69 = .ok (.aload_n 0, 1) := by decide +kernel
theorem dX10_mean_70 : decode cX10_mean 70 = .ok (.getfield 45, 3) := by decide +kernel
theorem dX10_mean_73 : decode cX10_mean 73 = .ok (.iconst 2, 1) := by decide +kernel
theorem dX10_mean_74 : decode cX10_mean 74 = .ok (.invokevirtual 168, 3) := by decide +kernel
theorem dX10_mean_77 : decode cX10_mean 77 = .ok (.i2d, 1) := by decide +kernel
theorem dX10_mean_78 : decode cX10_mean 78 = .ok (.ddiv, 1) := by decide +kernel
theorem dX10_mean_79 : decode cX10_mean 79 = .ok (.dreturn, 1) := by decide +kernel
theorem dX10_digest_0 : decode cX10_digest 0 = .ok (.aload_n 0, 1) := by decide +kernel
theorem dX10_digest_1 : decode cX10_digest 1 = .ok (.iconst 0, 1) := by decide +kernel
theorem dX10_digest_2 : decode cX10_digest 2 = .ok (.putfield 52, 3) := by decide +kernel
theorem dX10_digest_5 : decode cX10_digest 5 = .ok (.ldc2_w 181, 3) := by decide +kernel
theorem dX10_digest_8 : decode cX10_digest 8 = .ok (.lstore_n 1, 1) := by decide +kernel
theorem dX10_digest_9 : decode cX10_digest 9 = .ok (.iconst 0, 1) := by decide +kernel
theorem dX10_digest_10 : decode cX10_digest 10 = .ok (.istore_n 3, 1) := by decide +kernel
theorem dX10_digest_11 : decode cX10_digest 11 = .ok (.iload_n 3, 1) := by decide +kernel
theorem dX10_digest_12 : decode cX10_digest 12 = .ok (.bipush 10, 2) := by decide +kernel
theorem dX10_digest_14 : decode cX10_digest 14 = .ok (.if_icmp .ge 22, 3) := by decide +kernel
theorem dX10_digest_17 : decode cX10_digest 17 = .ok (.lload_n 1, 1) := by decide +kernel
theorem dX10_digest_18 : decode cX10_digest 18 = .ok (.ldc2_w 183, 3) := by decide +kernel
theorem dX10_digest_21 : decode cX10_digest 21 = .ok (.lmul, 1) := by decide +kernel
theorem dX10_digest_22 : decode cX10_digest 22 = .ok (.aload_n 0, 1) := by decide +kernel
theorem dX10_digest_23 : decode cX10_digest 23 = .ok (.iload_n 3, 1) := by decide +kernel
theorem dX10_digest_24 : decode cX10_digest 24 = .ok (.invokevirtual 171, 3) := by decide +kernel
theorem dX10_digest_27 : decode cX10_digest 27 = .ok (.i2l, 1) := by decide +kernel
theorem dX10_digest_28 : decode cX10_digest 28 = .ok (.ladd, 1) := by decide +kernel
theorem dX10_digest_29 : decode cX10_digest 29 = .ok (.lstore_n 1, 1) := by decide +kernel
theorem dX10_digest_30 : decode cX10_digest 30 = .ok (.iinc 3 1, 3) := by decide +kernel
theorem dX10_digest_33 : decode cX10_digest 33 = .ok (.goto (-22), 3) := by decide +kernel
theorem dX10_digest_36 : decode cX10_digest 36 = .ok (.iconst 0, 1) := by decide +kernel
theorem dX10_digest_37 : decode cX10_digest 37 = .ok (.istore_n 3, 1) := by decide +kernel
theorem dX10_digest_38 : decode cX10_digest 38 = .ok (.iload_n 3, 1) := by decide +kernel
theorem dX10_digest_39 : decode cX10_digest 39 = .ok (.bipush 12, 2) := by decide +kernel
theorem dX10_digest_41 : decode cX10_digest 41 = .ok (.if_icmp .ge 23, 3) := by decide +kernel
theorem dX10_digest_44 : decode cX10_digest 44 = .ok (.lload_n 1, 1) := by decide +kernel
theorem dX10_digest_45 : decode cX10_digest 45 = .ok (.ldc2_w 183, 3) := by decide +kernel
theorem dX10_digest_48 : decode cX10_digest 48 = .ok (.lmul, 1) := by decide +kernel
theorem dX10_digest_49 : decode cX10_digest 49 = .ok (.aload_n 0, 1) := by decide +kernel
theorem dX10_digest_50 : decode cX10_digest 50 = .ok (.getfield 28, 3) := by decide +kernel
theorem dX10_digest_53 : decode cX10_digest 53 = .ok (.iload_n 3, 1) := by decide +kernel
theorem dX10_digest_54 : decode cX10_digest 54 = .ok (.iaload, 1) := by decide +kernel
theorem dX10_digest_55 : decode cX10_digest 55 = .ok (.i2l, 1) := by decide +kernel
theorem dX10_digest_56 : decode cX10_digest 56 = .ok (.ladd, 1) := by decide +kernel
theorem dX10_digest_57 : decode cX10_digest 57 = .ok (.lstore_n 1, 1) := by decide +kernel
theorem dX10_digest_58 : decode cX10_digest 58 = .ok (.iinc 3 1, 3) := by decide +kernel
theorem dX10_digest_61 : decode cX10_digest 61 = .ok (.goto (-23), 3) := by decide +kernel
theorem dX10_digest_64 : decode cX10_digest 64 = .ok (.iconst 0, 1) := by decide +kernel
theorem dX10_digest_65 : decode cX10_digest 65 = .ok (.istore_n 3, 1) := by decide +kernel
theorem dX10_digest_66 : decode cX10_digest 66 = .ok (.iload_n 3, 1) := by decide +kernel
theorem dX10_digest_67 : decode cX10_digest 67 = .ok (.aload_n 0, 1) := by decide +kernel
theorem dX10_digest_68 : decode cX10_digest 68 = .ok (.getfield 56, 3) := by decide +kernel
theorem dX10_digest_71 : decode cX10_digest 71 = .ok (.if_icmp .ge 86, 3) := by decide +kernel
theorem dX10_digest_74 : decode cX10_digest 74 = .ok (.iconst 0, 1) := by decide +kernel
theorem dX10_digest_75 : decode cX10_digest 75 = .ok (.istore 4, 2) := by decide +kernel
theorem dX10_digest_77 : decode cX10_digest 77 = .ok (.iload 4, 2) := by decide +kernel
theorem dX10_digest_79 : decode cX10_digest 79 = .ok (.bipush 8, 2) := by decide +kernel
theorem dX10_digest_81 : decode cX10_digest 81 = .ok (.if_icmp .ge 24, 3) := by decide +kernel
theorem dX10_digest_84 : decode cX10_digest 84 = .ok (.lload_n 1, 1) := by decide +kernel
theorem dX10_digest_85 : decode cX10_digest 85 = .ok (.ldc2_w 183, 3) := by decide +kernel
theorem dX10_digest_88 : decode cX10_digest 88 = .ok (.lmul, 1) := by decide +kernel
theorem dX10_digest_89 : decode cX10_digest 89 = .ok (.aload_n 0, 1) := by decide +kernel
theorem dX10_digest_90 : decode cX10_digest 90 = .ok (.iload_n 3, 1) := by decide +kernel
theorem dX10_digest_91 : decode cX10_digest 91 = .ok (.iload 4, 2) := by decide +kernel
theorem dX10_digest_93 : decode cX10_digest 93 = .ok (.invokevirtual 107, 3) := by decide +kernel
theorem dX10_digest_96 : decode cX10_digest 96 = .ok (.i2l, 1) := by decide +kernel
theorem dX10_digest_97 : decode cX10_digest 97 = .ok (.ladd, 1) := by decide +kernel
theorem dX10_digest_98 : decode cX10_digest 98 = .ok (.lstore_n 1, 1) := by decide +kernel
theorem dX10_digest_99 : decode cX10_digest 99 = .ok (.iinc 4 1, 3) := by decide +kernel
theorem dX10_digest_102 : decode cX10_digest 102 = .ok (.goto (-25), 3) := by decide +kernel
theorem dX10_digest_105 : decode cX10_digest 105 = .ok (.iconst 0, 1) := by decide +kernel
theorem dX10_digest_106 : decode cX10_digest 106 = .ok (.istore 4, 2) := by decide +kernel
theorem dX10_digest_108 : decode cX10_digest 108 = .ok (.iload 4, 2) := by decide +kernel
theorem dX10_digest_110 : decode cX10_digest 110 = .ok (.aload_n 0, 1) := by decide +kernel
theorem dX10_digest_111 : decode cX10_digest 111 = .ok (.getfield 45, 3) := by decide +kernel
theorem dX10_digest_114 : decode cX10_digest 114 = .ok (.getfield 101, 3) := by decide +kernel
theorem dX10_digest_117 : decode cX10_digest 117 = .ok (.iload_n 3, 1) := by decide +kernel
theorem dX10_digest_118 : decode cX10_digest 118 = .ok (.iaload, 1) := by decide +kernel
theorem dX10_digest_119 : decode cX10_digest 119 = .ok (.if_icmp .ge 32, 3) := by decide +kernel
theorem dX10_digest_122 : decode cX10_digest 122 = .ok (.lload_n 1, 1) := by decide +kernel
theorem dX10_digest_123 : decode cX10_digest 123 = .ok (.ldc2_w 183, 3) := by decide +kernel
theorem dX10_digest_126 : decode cX10_digest 126 = .ok (.lmul, 1) := by decide +kernel
theorem dX10_digest_127 : decode cX10_digest 127 = .ok (.aload_n 0, 1) := by decide +kernel
theorem dX10_digest_128 : decode cX10_digest 128 = .ok (.getfield 45, 3) := by decide +kernel
theorem dX10_digest_131 : decode cX10_digest 131 = .ok (.getfield 104, 3) := by decide +kernel
theorem dX10_digest_134 : decode cX10_digest 134 = .ok (.bipush 12, 2) := by decide +kernel
theorem dX10_digest_136 : decode cX10_digest 136 = .ok (.iload_n 3, 1) := by decide +kernel
theorem dX10_digest_137 : decode cX10_digest 137 = .ok (.imul, 1) := by decide +kernel
theorem dX10_digest_138 : decode cX10_digest 138 = .ok (.iload 4, 2) := by decide +kernel
theorem dX10_digest_140 : decode cX10_digest 140 = .ok (.iadd, 1) := by decide +kernel
theorem dX10_digest_141 : decode cX10_digest 141 = .ok (.iaload, 1) := by decide +kernel
theorem dX10_digest_142 : decode cX10_digest 142 = .ok (.i2l, 1) := by decide +kernel
theorem dX10_digest_143 : decode cX10_digest 143 = .ok (.ladd, 1) := by decide +kernel
theorem dX10_digest_144 : decode cX10_digest 144 = .ok (.lstore_n 1, 1) := by decide +kernel
theorem dX10_digest_145 : decode cX10_digest 145 = .ok (.iinc 4 1, 3) := by decide +kernel
theorem dX10_digest_148 : decode cX10_digest 148 = .ok (.goto (-40), 3) := by decide +kernel
theorem dX10_digest_151 : decode cX10_digest 151 = .ok (.iinc 3 1, 3) := by decide +kernel
theorem dX10_digest_154 : decode cX10_digest 154 = .ok (.goto (-88), 3) := by decide +kernel
theorem dX10_digest_157 : decode cX10_digest 157 = .ok (.iconst 0, 1) := by decide +kernel
theorem dX10_digest_158 : decode cX10_digest 158 = .ok (.istore_n 3, 1) := by decide +kernel
theorem dX10_digest_159 : decode cX10_digest 159 = .ok (.iload_n 3, 1) := by decide +kernel
theorem dX10_digest_160 : decode cX10_digest 160 = .ok (.aload_n 0, 1) := by decide +kernel
theorem dX10_digest_161 : decode cX10_digest 161 = .ok (.getfield 63, 3) := by decide +kernel
theorem dX10_digest_164 : decode cX10_digest 164 = .ok (.if_icmp .ge 40, 3) := by decide +kernel
theorem dX10_digest_167 : decode cX10_digest 167 = .ok (.iconst 0, 1) := by decide +kernel
theorem dX10_digest_168 : decode cX10_digest 168 = .ok (.istore 4, 2) := by decide +kernel
theorem dX10_digest_170 : decode cX10_digest 170 = .ok (.iload 4, 2) := by decide +kernel
theorem dX10_digest_172 : decode cX10_digest 172 = .ok (.bipush 11, 2) := by decide +kernel
theorem dX10_digest_174 : decode cX10_digest 174 = .ok (.if_icmp .ge 24, 3) := by decide +kernel
theorem dX10_digest_177 : decode cX10_digest 177 = .ok (.lload_n 1, 1) := by decide +kernel
theorem dX10_digest_178 : decode cX10_digest 178 = .ok (.ldc2_w 183, 3) := by decide +kernel
theorem dX10_digest_181 : decode cX10_digest 181 = .ok (.lmul, 1) := by decide +kernel
theorem dX10_digest_182 : decode cX10_digest 182 = .ok (.aload_n 0, 1) := by decide +kernel
theorem dX10_digest_183 : decode cX10_digest 183 = .ok (.iload_n 3, 1) := by decide +kernel
theorem dX10_digest_184 : decode cX10_digest 184 = .ok (.iload 4, 2) := by decide +kernel
theorem dX10_digest_186 : decode cX10_digest 186 = .ok (.invokevirtual 130, 3) := by decide +kernel
theorem dX10_digest_189 : decode cX10_digest 189 = .ok (.i2l, 1) := by decide +kernel
theorem dX10_digest_190 : decode cX10_digest 190 = .ok (.ladd, 1) := by decide +kernel
theorem dX10_digest_191 : decode cX10_digest 191 = .ok (.lstore_n 1, 1) := by decide +kernel
theorem dX10_digest_192 : decode cX10_digest 192 = .ok (.iinc 4 1, 3) := by decide +kernel
theorem dX10_digest_195 : decode cX10_digest 195 = .ok (.goto (-25), 3) := by decide +kernel
theorem dX10_digest_198 : decode cX10_digest 198 = .ok (.iinc 3 1, 3) := by decide +kernel
theorem dX10_digest_201 : decode cX10_digest 201 = .ok (.goto (-42), 3) := by decide +kernel
theorem dX10_digest_204 : decode cX10_digest 204 = .ok (.iconst 0, 1) := by decide +kernel
theorem dX10_digest_205 : decode cX10_digest 205 = .ok (.istore_n 3, 1) := by decide +kernel
theorem dX10_digest_206 : decode cX10_digest 206 = .ok (.iload_n 3, 1) := by decide +kernel
theorem dX10_digest_207 : decode cX10_digest 207 = .ok (.aload_n 0, 1) := by decide +kernel
theorem dX10_digest_208 : decode cX10_digest 208 = .ok (.getfield 95, 3) := by decide +kernel
theorem dX10_digest_211 : decode cX10_digest 211 = .ok (.if_icmp .ge 40, 3) := by decide +kernel
theorem dX10_digest_214 : decode cX10_digest 214 = .ok (.iconst 0, 1) := by decide +kernel
theorem dX10_digest_215 : decode cX10_digest 215 = .ok (.istore 4, 2) := by decide +kernel
theorem dX10_digest_217 : decode cX10_digest 217 = .ok (.iload 4, 2) := by decide +kernel
theorem dX10_digest_219 : decode cX10_digest 219 = .ok (.bipush 11, 2) := by decide +kernel
theorem dX10_digest_221 : decode cX10_digest 221 = .ok (.if_icmp .ge 24, 3) := by decide +kernel
theorem dX10_digest_224 : decode cX10_digest 224 = .ok (.lload_n 1, 1) := by decide +kernel
theorem dX10_digest_225 : decode cX10_digest 225 = .ok (.ldc2_w 183, 3) := by decide +kernel
theorem dX10_digest_228 : decode cX10_digest 228 = .ok (.lmul, 1) := by decide +kernel
theorem dX10_digest_229 : decode cX10_digest 229 = .ok (.aload_n 0, 1) := by decide +kernel
theorem dX10_digest_230 : decode cX10_digest 230 = .ok (.iload_n 3, 1) := by decide +kernel
theorem dX10_digest_231 : decode cX10_digest 231 = .ok (.iload 4, 2) := by decide +kernel
theorem dX10_digest_233 : decode cX10_digest 233 = .ok (.invokevirtual 161, 3) := by decide +kernel
theorem dX10_digest_236 : decode cX10_digest 236 = .ok (.i2l, 1) := by decide +kernel
theorem dX10_digest_237 : decode cX10_digest 237 = .ok (.ladd, 1) := by decide +kernel
theorem dX10_digest_238 : decode cX10_digest 238 = .ok (.lstore_n 1, 1) := by decide +kernel
theorem dX10_digest_239 : decode cX10_digest 239 = .ok (.iinc 4 1, 3) := by decide +kernel
theorem dX10_digest_242 : decode cX10_digest 242 = .ok (.goto (-25), 3) := by decide +kernel
theorem dX10_digest_245 : decode cX10_digest 245 = .ok (.iinc 3 1, 3) := by decide +kernel
theorem dX10_digest_248 : decode cX10_digest 248 = .ok (.goto (-42), 3) := by decide +kernel
theorem dX10_digest_251 : decode cX10_digest 251 = .ok (.lload_n 1, 1) := by decide +kernel
theorem dX10_digest_252 : decode cX10_digest 252 = .ok (.lreturn, 1) := by decide +kernel
end
section
/-! THE LAYER: one world of cells at addresses 'ad f i' (family f, index i), whose int contents are a memory M : family, index, slot to Int. -/
abbrev zM : Type := Nat → Nat → Nat → Int
abbrev iv (a : Int) : Value := .int (Int32.ofInt a)
def zup (M : zM) (f i k : Nat) (v : Int) : zM := fun f' i' k' => if f' = f ∧ i' = i ∧ k' = k then v else M f' i' k'
/-- a cell's shape: an object (class, fields: none an int of the memory, some v a constant), an int array, an array of references -/
abbrev zT : Type := (Nat × List (Option Value)) ⊕ ((ClassId × Nat) ⊕ (ClassId × Nat × (Nat → Nat)))
def zfl (g : Nat → Int) : Nat → List (Option Value) → List Value
  | _, [] => []
  | j, q :: t => q.getD (iv (g j)) :: zfl g (j + 1) t
def zcel (t : zT) (g : Nat → Int) : va_E := match t with
  | .inl (ci, l) => .inr (ci, zfl g 0 l)
  | .inr (.inl (cA, n)) => .inl (cA, n, .inl (fun k => Int32.ofInt (g k)))
  | .inr (.inr (cA, n, r)) => .inl (cA, n, .inr (.inr (.inr (.inr (fun k => some (r k))))))
def zH (D : va_G) (ad : Nat → Nat → Nat) (ok : Nat → Nat → Prop) (tm : Nat → Nat → zT) (M : zM) (H : Heap) : Prop := ∀ f i, ok f i → va_at D vwCl (ad f i, zcel (tm f i) (M f i)) H
def zI (ad : Nat → Nat → Nat) (ok : Nat → Nat → Prop) : Prop := ∀ f i f' i', ok f i → ok f' i' → ad f i = ad f' i' → f = f' ∧ i = i'
def zA (ad : Nat → Nat → Nat) (ok : Nat → Nat → Prop) (sz : Nat) : Nat → Prop := fun q => (∃ f i, ok f i ∧ q = ad f i) ∨ sz ≤ q
/-- what stands beside a frame -/
def zC (p : Program) (s : State) (m : MethodId) (args : Array Value) (c : Code) (D : va_G) (tys : List (ClassId × FieldType)) (ad : Nat → Nat → Nat) (ok : Nat → Nat → Prop) (A : Nat → Prop) (H0 : Heap) (cc : ByteArray) (nL : Nat) (own : String) : Prop :=
  (p.tables.exec = Jvm.exec ∧ c.code = cc ∧ c.maxLocals = nL ∧ s.vm.findClass own = some m.cls ∧ ∀ x ∈ zbig, x.before args s = true) ∧ va_K D vwCl tys s ∧ zI ad ok ∧ (∀ f i, ok f i → A (ad f i)) ∧ (∀ q, H0.size ≤ q → A q) ∧ ∀ w ∈ znl, va_Nw w s
def zV (p : Program) (l : Launch) (e : Env) (R : Room) (s : State) (m : MethodId) (args : Array Value) (below : List Frame) (meth : Method) (c : Code) (Q : State → Prop) (D : va_G) (ad : Nat → Nat → Nat) (ok : Nat → Nat → Prop) (tm : Nat → Nat → zT) (A : Nat → Prop) (H0 : Heap) (nL : Nat) (cells slots : Nat) (M : zM) (L : List (Nat × Value)) (pc : Nat) (St : List Value) : Prop :=
  ∀ (H : Heap) (locs : List Loc) (ls : Array Slot), zH D ad ok tm M H → va_S A H0 H locs → lv_has ls nL L → W p l e R s m args below meth c H locs cells slots Q (F0 m pc ls St)
theorem zfl_get {g : Nat → Int} {l : List (Option Value)} {k : Nat} {q : Option Value} (h : l[k]? = some q) (j : Nat) : (zfl g j l)[k]? = some (q.getD (iv (g (j + k)))) := by
  induction l generalizing j k with
  | nil => simp at h
  | cons a t ih =>
    cases k with
    | zero => simp at h; subst h; simp [zfl]
    | succ k =>
      simp only [List.getElem?_cons_succ] at h
      have := ih h (j + 1)
      simp only [zfl, List.getElem?_cons_succ]
      rw [this, show j + 1 + k = j + (k + 1) by omega]
theorem zfl_length (g : Nat → Int) (l : List (Option Value)) (j : Nat) : (zfl g j l).length = l.length := by
  induction l generalizing j with
  | nil => rfl
  | cons a t ih => simp [zfl, ih]
theorem zfl_set {g g' : Nat → Int} {l : List (Option Value)} {k : Nat} {v : Int} (h : l[k]? = some none) (j : Nat) (h1 : g' (j + k) = v) (h2 : ∀ i, i ≠ j + k → g' i = g i) : zfl g' j l = (zfl g j l).set k (iv v) := by
  induction l generalizing j k with
  | nil => simp at h
  | cons a t ih =>
    cases k with
    | zero =>
      simp at h; subst h
      simp only [zfl, List.set_cons_zero, Option.getD_none]
      rw [← h1]
      congr 1
      clear ih
      have : ∀ (t : List (Option Value)) (i : Nat), j < i → zfl g' i t = zfl g i t := by
        intro t
        induction t with
        | nil => intro i _; rfl
        | cons a t ih => intro i hi; simp only [zfl]; rw [ih (i + 1) (by omega), h2 i (by omega)]
      exact this t (j + 1) (by omega)
    | succ k =>
      simp only [List.getElem?_cons_succ] at h
      simp only [zfl, List.set_cons_succ]
      rw [ih h (j + 1) (by rw [← h1]; congr 1; omega) (fun i hi => h2 i (by omega)), h2 j (by omega)]
theorem zup_at (M : zM) (f i k : Nat) (v : Int) : zup M f i k v f i k = v := by simp [zup]
theorem zup_off {M : zM} {f i k : Nat} {v : Int} {f' i' : Nat} (h : ¬ (f' = f ∧ i' = i)) : zup M f i k v f' i' = M f' i' := by
  funext k'; simp only [zup]; rw [if_neg (fun q => h ⟨q.1, q.2.1⟩)]
/-- a cell of the world has changed, the others not -/
theorem zH.put {D : va_G} {ad : Nat → Nat → Nat} {ok : Nat → Nat → Prop} {tm : Nat → Nat → zT} {M M' : zM} {H H1 : Heap} (h : zH D ad ok tm M H) (hi : zI ad ok) {f i : Nat} (ho : ok f i) (hn : va_at D vwCl (ad f i, zcel (tm f i) (M' f i)) H1) (oq : ∀ q : Nat, q ≠ ad f i → H1[q]? = H[q]?) (hM : ∀ f' i', ¬ (f' = f ∧ i' = i) → M' f' i' = M f' i') : zH D ad ok tm M' H1 := by
  intro f' i' ho'
  by_cases hq : f' = f ∧ i' = i
  · obtain ⟨rfl, rfl⟩ := hq
    exact hn
  · rw [hM f' i' hq]
    exact (h f' i' ho').kept (oq _ (fun z => hq (hi f' i' f i ho' ho z)))
theorem zH.kept {D : va_G} {ad : Nat → Nat → Nat} {ok : Nat → Nat → Prop} {tm : Nat → Nat → zT} {M : zM} {H H1 : Heap} (h : zH D ad ok tm M H) (oq : ∀ f i, ok f i → H1[ad f i]? = H[ad f i]?) : zH D ad ok tm M H1 := fun f i ho => (h f i ho).kept (oq f i ho)
theorem zH.one {D : va_G} {ad : Nat → Nat → Nat} {ok : Nat → Nat → Prop} {tm : Nat → Nat → zT} {M : zM} {H : Heap} (h : zH D ad ok tm M H) {f i : Nat} (ho : ok f i) : va_P D vwCl [(ad f i, zcel (tm f i) (M f i))] H := by
  intro k q hk
  match k, hk with
  | 0, hk => cases hk; exact h f i ho
  | k + 1, hk => simp at hk
section ZV
variable {p : Program} {l : Launch} {e : Env} {R : Room} {s : State} {m : MethodId} {args : Array Value} {below : List Frame} {meth : Method} {c : Code} {Q : State → Prop} {D : va_G} {tys : List (ClassId × FieldType)} {ad : Nat → Nat → Nat} {ok : Nat → Nat → Prop} {tm : Nat → Nat → zT} {A : Nat → Prop} {H0 : Heap} {nL : Nat} {cells slots : Nat} {M : zM} {L : List (Nat × Value)} {pc : Nat} {St rest : List Value} {cc : ByteArray} {own : String}
theorem z_getI (hC : zC p s m args c D tys ad ok A H0 cc nL own) {index ci k : Nat} (hf : zF own index ci k) {f i : Nat} {lt : List (Option Value)} (ht : tm f i = .inl (ci, lt)) (ho : ok f i) (hq : lt[k]? = some none) {x : Int} (hxx : M f i k = x) (hdg : decode cc pc = .ok (.getfield index, 3))
    (kk : zV p l e R s m args below meth c Q D ad ok tm A H0 nL cells slots M L (pc + 3) (iv x :: rest)) : zV p l e R s m args below meth c Q D ad ok tm A H0 nL cells slots M L pc (.ref (ad f i) :: rest) := by
  intro H locs ls hw hS hl
  obtain ⟨⟨hx, hb, hml, hown, hts⟩, hK, -⟩ := hC
  obtain ⟨C, T, N, h1, h2, h3, h4⟩ := hf
  have hP := hw.one ho
  rw [ht] at hP
  subst hxx
  refine va_get hx hb hts h3 hown hK hP 0 rfl h1 k h2 (hts _ h4) (fun _ h => h) (v := iv (M f i k)) ?_ hdg (kk H locs ls hw hS hl)
  have := zfl_get (g := M f i) hq 0
  rw [this, Nat.zero_add]
  rfl
theorem z_getR (hC : zC p s m args c D tys ad ok A H0 cc nL own) {index ci k : Nat} (hf : zF own index ci k) {f i : Nat} {lt : List (Option Value)} (ht : tm f i = .inl (ci, lt)) (ho : ok f i) {v : Value} (hq : lt[k]? = some (some v)) (hdg : decode cc pc = .ok (.getfield index, 3))
    (kk : zV p l e R s m args below meth c Q D ad ok tm A H0 nL cells slots M L (pc + 3) (v :: rest)) : zV p l e R s m args below meth c Q D ad ok tm A H0 nL cells slots M L pc (.ref (ad f i) :: rest) := by
  intro H locs ls hw hS hl
  obtain ⟨⟨hx, hb, hml, hown, hts⟩, hK, -⟩ := hC
  obtain ⟨C, T, N, h1, h2, h3, h4⟩ := hf
  have hP := hw.one ho
  rw [ht] at hP
  refine va_get hx hb hts h3 hown hK hP 0 rfl h1 k h2 (hts _ h4) (fun _ h => h) (v := v) ?_ hdg (kk H locs ls hw hS hl)
  have := zfl_get (g := M f i) hq 0
  rw [this]
  rfl
theorem z_put (hC : zC p s m args c D tys ad ok A H0 cc nL own) {index ci k : Nat} (hf : zFw own index ci k) {f i : Nat} {lt : List (Option Value)} (ht : tm f i = .inl (ci, lt)) (ho : ok f i) (hq : lt[k]? = some none) {x : Int} (hdg : decode cc pc = .ok (.putfield index, 3))
    (kk : zV p l e R s m args below meth c Q D ad ok tm A H0 nL cells slots (zup M f i k x) L (pc + 3) rest) : zV p l e R s m args below meth c Q D ad ok tm A H0 nL cells slots M L pc (iv x :: .ref (ad f i) :: rest) := by
  intro H locs ls hw hS hl
  obtain ⟨⟨hx, hb, hml, hown, hts⟩, hK, hI, hA, -⟩ := hC
  obtain ⟨C, T, N, ty0, h1, h2, hin, h4, hty, hnm, hfin, hd⟩ := hf
  have hap := va_apart (own := own) hts hin ty0 hty hnm hK h1
  have hw0 := hw f i ho
  rw [ht] at hw0
  obtain ⟨r, hr1, cell, q1, q2, q3, q4⟩ := hw0
  have hr : r = (C, T, N) := Option.some.inj (hr1.symm.trans h1)
  subst hr
  obtain ⟨hSl, hfc, kC, hkC, hkind⟩ := hK.1 ci _ h1
  obtain ⟨cf, kf, fi, fd, hi, hsl⟩ := hSl k h2
  have hlay := hts _ (hin _ (u_in_lay h2))
  unfold u_lay at hlay
  rw [if_neg (by rw [hfin]; decide)] at hlay
  have hst := (u_facts hfc hkC (u_lays hts hin h2) hi).1
  have h6 := u_store (v := iv x) hfc hkC hkind hlay hi hd rfl rfl
  refine W.putK hx hb (f := fd) ⟨hown, hts _ h4, ⟨_, _, _, hi⟩, hst⟩ (by rw [q2]; exact h6) q1 q3 (by rw [hsl]; exact k2_hasslot (q4 k h2)) rfl rfl hdg fun H' e1 e2 e3 => ?_
  rw [hsl] at e1 ⊢
  have hkl : k < (zfl (M f i) 0 lt).length := by rw [zfl_length]; exact (List.getElem?_eq_some_iff.mp hq).1
  refine kk H' _ ls (hw.put hI ho ?_ e3 (fun f' i' h => zup_off h)) (hS.put e2 e3 (hA f i ho)) hl
  rw [ht]
  refine ⟨_, h1, t_OB.to (V := updV (vp_V (zfl (M f i) 0 lt)) k (iv x)) ⟨_, e1, q2, q3, t_set q4 hap h2 (iv x)⟩ (fun j _ => ?_)⟩
  show updV (vp_V (zfl (M f i) 0 lt)) k (iv x) j = vp_V (zfl (zup M f i k x f i) 0 lt) j
  rw [vp_updV_set hkl (iv x) j, zfl_set (g := M f i) (g' := zup M f i k x f i) (v := x) hq 0 (by rw [Nat.zero_add]; exact zup_at M f i k x) (fun i' h => by
    simp only [zup]
    rw [if_neg (fun q => h (by rw [Nat.zero_add]; exact q.2.2))])]
theorem z_getIN (hC : zC p s m args c D tys ad ok A H0 cc nL own) {index ci k : Nat} (hf : zFN own index ci k) {f i : Nat} {lt : List (Option Value)} (ht : tm f i = .inl (ci, lt)) (ho : ok f i) (hq : lt[k]? = some none) {x : Int} (hxx : M f i k = x) (hdg : decode cc pc = .ok (.getfield index, 3))
    (kk : zV p l e R s m args below meth c Q D ad ok tm A H0 nL cells slots M L (pc + 3) (iv x :: rest)) : zV p l e R s m args below meth c Q D ad ok tm A H0 nL cells slots M L pc (.ref (ad f i) :: rest) := by
  intro H locs ls hw hS hl
  obtain ⟨⟨hx, hb, hml, hown, hts⟩, hK, -, -, -, hN⟩ := hC
  obtain ⟨C, T, N, host, h1, h2, h3, h4⟩ := hf
  have hP := hw.one ho
  rw [ht] at hP
  subst hxx
  refine va_getN hx hb hts h3 hown hK hP 0 rfl h1 k h2 ((hN _ h4).use rfl) (fun _ h => h) (v := iv (M f i k)) ?_ hdg (kk H locs ls hw hS hl)
  have := zfl_get (g := M f i) hq 0
  rw [this, Nat.zero_add]
  rfl
theorem z_getRN (hC : zC p s m args c D tys ad ok A H0 cc nL own) {index ci k : Nat} (hf : zFN own index ci k) {f i : Nat} {lt : List (Option Value)} (ht : tm f i = .inl (ci, lt)) (ho : ok f i) {v : Value} (hq : lt[k]? = some (some v)) (hdg : decode cc pc = .ok (.getfield index, 3))
    (kk : zV p l e R s m args below meth c Q D ad ok tm A H0 nL cells slots M L (pc + 3) (v :: rest)) : zV p l e R s m args below meth c Q D ad ok tm A H0 nL cells slots M L pc (.ref (ad f i) :: rest) := by
  intro H locs ls hw hS hl
  obtain ⟨⟨hx, hb, hml, hown, hts⟩, hK, -, -, -, hN⟩ := hC
  obtain ⟨C, T, N, host, h1, h2, h3, h4⟩ := hf
  have hP := hw.one ho
  rw [ht] at hP
  refine va_getN hx hb hts h3 hown hK hP 0 rfl h1 k h2 ((hN _ h4).use rfl) (fun _ h => h) (v := v) ?_ hdg (kk H locs ls hw hS hl)
  have := zfl_get (g := M f i) hq 0
  rw [this]
  rfl
end ZV
end
section
/-! one instruction a row -/
theorem zi_lt {a b : Int} (h1 : -2147483648 ≤ a ∧ a < 2147483648) (h2 : -2147483648 ≤ b ∧ b < 2147483648) : Int32.ofInt a < Int32.ofInt b ↔ a < b := by
  rw [Int32.lt_iff_toInt_lt, Int32.toInt_ofInt_of_le (by omega) (by omega), Int32.toInt_ofInt_of_le (by omega) (by omega)]
theorem zi_le {a b : Int} (h1 : -2147483648 ≤ a ∧ a < 2147483648) (h2 : -2147483648 ≤ b ∧ b < 2147483648) : Int32.ofInt a ≤ Int32.ofInt b ↔ a ≤ b := by
  rw [Int32.le_iff_toInt_le, Int32.toInt_ofInt_of_le (by omega) (by omega), Int32.toInt_ofInt_of_le (by omega) (by omega)]
theorem zi_eq {a b : Int} (h1 : -2147483648 ≤ a ∧ a < 2147483648) (h2 : -2147483648 ≤ b ∧ b < 2147483648) : Int32.ofInt a = Int32.ofInt b ↔ a = b := by
  rw [← Int32.toInt_inj, Int32.toInt_ofInt_of_le (by omega) (by omega), Int32.toInt_ofInt_of_le (by omega) (by omega)]
theorem zi_toInt {a : Int} (h1 : -2147483648 ≤ a ∧ a < 2147483648) : (Int32.ofInt a).toInt = a := Int32.toInt_ofInt_of_le (by omega) (by omega)
theorem zi_nat {a : Int} (h1 : -2147483648 ≤ a ∧ a < 2147483648) : (Int32.ofInt a).toNatClampNeg = a.toNat := Int32.toNatClampNeg_ofInt_of_le (by omega) (by omega)
theorem zi_0 : (0 : Int32) = Int32.ofInt 0 := by decide
theorem zi_div {a b : Int} (h1 : 0 ≤ a ∧ a < 2147483648) (h2 : 0 < b ∧ b < 2147483648) : Int32.ofInt a / Int32.ofInt b = Int32.ofInt (a / b) := by
  rw [← Int32.toInt_inj, Int32.toInt_div_of_ne_right, zi_toInt (by omega), zi_toInt (by omega), Int.tdiv_eq_ediv_of_nonneg (by omega), zi_toInt]
  · have := Int.ediv_nonneg h1.1 (show 0 ≤ b by omega)
    have := Int.ediv_le_self b h1.1
    omega
  · intro h
    have := congrArg Int32.toInt h
    rw [zi_toInt (by omega)] at this
    have h3 : (-1 : Int32).toInt = -1 := by decide
    omega
theorem zi_rem {a b : Int} (h1 : 0 ≤ a ∧ a < 2147483648) (h2 : 0 < b ∧ b < 2147483648) : Int32.ofInt a - Int32.ofInt a / Int32.ofInt b * Int32.ofInt b = Int32.ofInt (a % b) := by
  rw [zi_div h1 h2, ← Int32.ofInt_mul, ← Int32.ofInt_sub, Int.emod_def, Int.mul_comm]
theorem zi_ne0 {b : Int} (h2 : 0 < b ∧ b < 2147483648) : ¬ Int32.ofInt b = 0 := by
  rw [zi_0, zi_eq (by omega) (by omega)]; omega
theorem zi_in {a : Int} {n : Nat} (h1 : 0 ≤ a ∧ a < 2147483648) (h2 : a < n) : vp_in (Int32.ofInt a) n := by
  intro h
  rw [zi_nat (by omega)] at h
  rcases h with h | h
  · rw [zi_0, zi_lt (by omega) (by omega)] at h; omega
  · omega
section ZR
variable {p : Program} {l : Launch} {e : Env} {R : Room} {s : State} {m : MethodId} {args : Array Value} {below : List Frame} {meth : Method} {c : Code} {Q : State → Prop} {D : va_G} {tys : List (ClassId × FieldType)} {ad : Nat → Nat → Nat} {ok : Nat → Nat → Prop} {tm : Nat → Nat → zT} {A : Nat → Prop} {H0 : Heap} {nL : Nat} {cells slots : Nat} {M : zM} {L : List (Nat × Value)} {pc : Nat} {St rest : List Value} {cc : ByteArray} {own : String}
theorem z_iconst (hC : zC p s m args c D tys ad ok A H0 cc nL own) {n : Int} (hdg : decode cc pc = .ok (.iconst n, 1)) (kk : zV p l e R s m args below meth c Q D ad ok tm A H0 nL cells slots M L (pc + 1) (iv n :: rest)) : zV p l e R s m args below meth c Q D ad ok tm A H0 nL cells slots M L (pc) (rest) := fun H locs ls hw hS hl => lv_iconst hC.1.1 hC.1.2.1 hdg rfl (kk H locs ls hw hS hl)
theorem z_bipush (hC : zC p s m args c D tys ad ok A H0 cc nL own) {n : Int} (hdg : decode cc pc = .ok (.bipush n, 2)) (hv : (Int8.ofInt n).toInt32 = Int32.ofInt n) (kk : zV p l e R s m args below meth c Q D ad ok tm A H0 nL cells slots M L (pc + 2) (iv n :: rest)) : zV p l e R s m args below meth c Q D ad ok tm A H0 nL cells slots M L (pc) (rest) := fun H locs ls hw hS hl => lv_bipush hC.1.1 hC.1.2.1 hdg hv (kk H locs ls hw hS hl)
theorem z_sipush (hC : zC p s m args c D tys ad ok A H0 cc nL own) {n : Int} (hdg : decode cc pc = .ok (.sipush n, 3)) (hv : (Int16.ofInt n).toInt32 = Int32.ofInt n) (kk : zV p l e R s m args below meth c Q D ad ok tm A H0 nL cells slots M L (pc + 3) (iv n :: rest)) : zV p l e R s m args below meth c Q D ad ok tm A H0 nL cells slots M L (pc) (rest) := fun H locs ls hw hS hl => lv_sipush hC.1.1 hC.1.2.1 hdg hv (kk H locs ls hw hS hl)
theorem z_iload_n (hC : zC p s m args c D tys ad ok A H0 cc nL own) {k : Fin 4} {i : Nat} {x : Int32} (j : Nat) (hj : L[j]? = some (i, .int x)) (hdg : decode cc pc = .ok (.iload_n k, 1)) (hi : (k : Nat) = i) (kk : zV p l e R s m args below meth c Q D ad ok tm A H0 nL cells slots M L (pc + 1) (.int x :: rest)) : zV p l e R s m args below meth c Q D ad ok tm A H0 nL cells slots M L (pc) (rest) := fun H locs ls hw hS hl => lv_iload_n hC.1.1 hC.1.2.1 hdg hi (lv_at hl j hj) (kk H locs ls hw hS hl)
theorem z_iload (hC : zC p s m args c D tys ad ok A H0 cc nL own) {i : Nat} {x : Int32} (j : Nat) (hj : L[j]? = some (i, .int x)) (hdg : decode cc pc = .ok (.iload i, 2))  (kk : zV p l e R s m args below meth c Q D ad ok tm A H0 nL cells slots M L (pc + 2) (.int x :: rest)) : zV p l e R s m args below meth c Q D ad ok tm A H0 nL cells slots M L (pc) (rest) := fun H locs ls hw hS hl => lv_iload hC.1.1 hC.1.2.1 hdg (lv_at hl j hj) (kk H locs ls hw hS hl)
theorem z_aload_n (hC : zC p s m args c D tys ad ok A H0 cc nL own) {k : Fin 4} {i : Nat} {x : Nat} (j : Nat) (hj : L[j]? = some (i, .ref x)) (hdg : decode cc pc = .ok (.aload_n k, 1)) (hi : (k : Nat) = i) (kk : zV p l e R s m args below meth c Q D ad ok tm A H0 nL cells slots M L (pc + 1) (.ref x :: rest)) : zV p l e R s m args below meth c Q D ad ok tm A H0 nL cells slots M L (pc) (rest) := fun H locs ls hw hS hl => lv_aload_n hC.1.1 hC.1.2.1 hdg hi (lv_at hl j hj) (kk H locs ls hw hS hl)
theorem z_aload (hC : zC p s m args c D tys ad ok A H0 cc nL own) {i : Nat} {x : Nat} (j : Nat) (hj : L[j]? = some (i, .ref x)) (hdg : decode cc pc = .ok (.aload i, 2))  (kk : zV p l e R s m args below meth c Q D ad ok tm A H0 nL cells slots M L (pc + 2) (.ref x :: rest)) : zV p l e R s m args below meth c Q D ad ok tm A H0 nL cells slots M L (pc) (rest) := fun H locs ls hw hS hl => lv_aload hC.1.1 hC.1.2.1 hdg (lv_at hl j hj) (kk H locs ls hw hS hl)
theorem z_lload_n (hC : zC p s m args c D tys ad ok A H0 cc nL own) {k : Fin 4} {i : Nat} {x : Int64} (j : Nat) (hj : L[j]? = some (i, .long x)) (hdg : decode cc pc = .ok (.lload_n k, 1)) (hi : (k : Nat) = i) (kk : zV p l e R s m args below meth c Q D ad ok tm A H0 nL cells slots M L (pc + 1) (.long x :: rest)) : zV p l e R s m args below meth c Q D ad ok tm A H0 nL cells slots M L (pc) (rest) := fun H locs ls hw hS hl => lv_lload_n hC.1.1 hC.1.2.1 hdg hi (lv_at hl j hj) (kk H locs ls hw hS hl)
theorem z_lload (hC : zC p s m args c D tys ad ok A H0 cc nL own) {i : Nat} {x : Int64} (j : Nat) (hj : L[j]? = some (i, .long x)) (hdg : decode cc pc = .ok (.lload i, 2))  (kk : zV p l e R s m args below meth c Q D ad ok tm A H0 nL cells slots M L (pc + 2) (.long x :: rest)) : zV p l e R s m args below meth c Q D ad ok tm A H0 nL cells slots M L (pc) (rest) := fun H locs ls hw hS hl => lv_lload hC.1.1 hC.1.2.1 hdg (lv_at hl j hj) (kk H locs ls hw hS hl)
theorem z_istore_n (hC : zC p s m args c D tys ad ok A H0 cc nL own) {k : Fin 4} {i : Nat} {x : Int32} (L' : List (Nat × Value)) (hdg : decode cc pc = .ok (.istore_n k, 1)) (hi : (k : Nat) = i) (hn : i < nL) (hL : (i, Value.int x) :: L.filter (fun q => !(q.1 == i) && !(q.1 + 1 == i && q.2.category == 2)) = L') (kk : zV p l e R s m args below meth c Q D ad ok tm A H0 nL cells slots M L' (pc + 1) (rest)) : zV p l e R s m args below meth c Q D ad ok tm A H0 nL cells slots M L (pc) (.int x :: rest) := fun H locs ls hw hS hl => lv_istore_n hC.1.1 hC.1.2.1 hdg hi hl hn hL (fun ls2 hl2 => kk H locs ls2 hw hS hl2)
theorem z_istore (hC : zC p s m args c D tys ad ok A H0 cc nL own) {i : Nat} {x : Int32} (L' : List (Nat × Value)) (hdg : decode cc pc = .ok (.istore i, 2))  (hn : i < nL) (hL : (i, Value.int x) :: L.filter (fun q => !(q.1 == i) && !(q.1 + 1 == i && q.2.category == 2)) = L') (kk : zV p l e R s m args below meth c Q D ad ok tm A H0 nL cells slots M L' (pc + 2) (rest)) : zV p l e R s m args below meth c Q D ad ok tm A H0 nL cells slots M L (pc) (.int x :: rest) := fun H locs ls hw hS hl => lv_istore hC.1.1 hC.1.2.1 hdg hl hn hL (fun ls2 hl2 => kk H locs ls2 hw hS hl2)
theorem z_astore_n (hC : zC p s m args c D tys ad ok A H0 cc nL own) {k : Fin 4} {i : Nat} {x : Nat} (L' : List (Nat × Value)) (hdg : decode cc pc = .ok (.astore_n k, 1)) (hi : (k : Nat) = i) (hn : i < nL) (hL : (i, Value.ref x) :: L.filter (fun q => !(q.1 == i) && !(q.1 + 1 == i && q.2.category == 2)) = L') (kk : zV p l e R s m args below meth c Q D ad ok tm A H0 nL cells slots M L' (pc + 1) (rest)) : zV p l e R s m args below meth c Q D ad ok tm A H0 nL cells slots M L (pc) (.ref x :: rest) := fun H locs ls hw hS hl => lv_astore_n hC.1.1 hC.1.2.1 hdg hi hl hn hL (fun ls2 hl2 => kk H locs ls2 hw hS hl2)
theorem z_astore (hC : zC p s m args c D tys ad ok A H0 cc nL own) {i : Nat} {x : Nat} (L' : List (Nat × Value)) (hdg : decode cc pc = .ok (.astore i, 2))  (hn : i < nL) (hL : (i, Value.ref x) :: L.filter (fun q => !(q.1 == i) && !(q.1 + 1 == i && q.2.category == 2)) = L') (kk : zV p l e R s m args below meth c Q D ad ok tm A H0 nL cells slots M L' (pc + 2) (rest)) : zV p l e R s m args below meth c Q D ad ok tm A H0 nL cells slots M L (pc) (.ref x :: rest) := fun H locs ls hw hS hl => lv_astore hC.1.1 hC.1.2.1 hdg hl hn hL (fun ls2 hl2 => kk H locs ls2 hw hS hl2)
theorem z_lstore_n (hC : zC p s m args c D tys ad ok A H0 cc nL own) {k : Fin 4} {i : Nat} {x : Int64} (L' : List (Nat × Value)) (hdg : decode cc pc = .ok (.lstore_n k, 1)) (hi : (k : Nat) = i) (hn : i + 1 < nL) (hL : (i, Value.long x) :: L.filter (fun q => !(q.1 == i) && (!(q.1 == i + 1) && !(q.1 + 1 == i && q.2.category == 2))) = L') (kk : zV p l e R s m args below meth c Q D ad ok tm A H0 nL cells slots M L' (pc + 1) (rest)) : zV p l e R s m args below meth c Q D ad ok tm A H0 nL cells slots M L (pc) (.long x :: rest) := fun H locs ls hw hS hl => lv_lstore_n hC.1.1 hC.1.2.1 hdg hi hl hn hL (fun ls2 hl2 => kk H locs ls2 hw hS hl2)
theorem z_lstore (hC : zC p s m args c D tys ad ok A H0 cc nL own) {i : Nat} {x : Int64} (L' : List (Nat × Value)) (hdg : decode cc pc = .ok (.lstore i, 2))  (hn : i + 1 < nL) (hL : (i, Value.long x) :: L.filter (fun q => !(q.1 == i) && (!(q.1 == i + 1) && !(q.1 + 1 == i && q.2.category == 2))) = L') (kk : zV p l e R s m args below meth c Q D ad ok tm A H0 nL cells slots M L' (pc + 2) (rest)) : zV p l e R s m args below meth c Q D ad ok tm A H0 nL cells slots M L (pc) (.long x :: rest) := fun H locs ls hw hS hl => lv_lstore hC.1.1 hC.1.2.1 hdg hl hn hL (fun ls2 hl2 => kk H locs ls2 hw hS hl2)
theorem z_iinc (hC : zC p s m args c D tys ad ok A H0 cc nL own) {i : Nat} {n : Int} {x : Int} (j : Nat) (L' : List (Nat × Value)) (hdg : decode cc pc = .ok (.iinc i n, 3)) (hj : L[j]? = some (i, iv x)) (hn : i < nL) (hL : (i, iv (x + n)) :: L.filter (fun q => !(q.1 == i) && !(q.1 + 1 == i && q.2.category == 2)) = L') (kk : zV p l e R s m args below meth c Q D ad ok tm A H0 nL cells slots M L' (pc + 3) (rest)) : zV p l e R s m args below meth c Q D ad ok tm A H0 nL cells slots M L (pc) (rest) := fun H locs ls hw hS hl => lv_iinc hC.1.1 hC.1.2.1 hdg hl hj (Int32.ofInt_add x n).symm hn hL (fun ls2 hl2 => kk H locs ls2 hw hS hl2)
theorem z_iadd (hC : zC p s m args c D tys ad ok A H0 cc nL own) {a b : Int} (hdg : decode cc pc = .ok (.iadd, 1)) (kk : zV p l e R s m args below meth c Q D ad ok tm A H0 nL cells slots M L (pc + 1) (iv (a + b) :: rest)) : zV p l e R s m args below meth c Q D ad ok tm A H0 nL cells slots M L (pc) (iv b :: iv a :: rest) := fun H locs ls hw hS hl => lv_iadd hC.1.1 hC.1.2.1 hdg (by rw [← Int32.ofInt_add]; exact kk H locs ls hw hS hl)
theorem z_isub (hC : zC p s m args c D tys ad ok A H0 cc nL own) {a b : Int} (hdg : decode cc pc = .ok (.isub, 1)) (kk : zV p l e R s m args below meth c Q D ad ok tm A H0 nL cells slots M L (pc + 1) (iv (a - b) :: rest)) : zV p l e R s m args below meth c Q D ad ok tm A H0 nL cells slots M L (pc) (iv b :: iv a :: rest) := fun H locs ls hw hS hl => lv_isub hC.1.1 hC.1.2.1 hdg (by rw [← Int32.ofInt_sub]; exact kk H locs ls hw hS hl)
theorem z_imul (hC : zC p s m args c D tys ad ok A H0 cc nL own) {a b : Int} (hdg : decode cc pc = .ok (.imul, 1)) (kk : zV p l e R s m args below meth c Q D ad ok tm A H0 nL cells slots M L (pc + 1) (iv (a * b) :: rest)) : zV p l e R s m args below meth c Q D ad ok tm A H0 nL cells slots M L (pc) (iv b :: iv a :: rest) := fun H locs ls hw hS hl => lv_imul hC.1.1 hC.1.2.1 hdg (by rw [← Int32.ofInt_mul]; exact kk H locs ls hw hS hl)
theorem z_ineg (hC : zC p s m args c D tys ad ok A H0 cc nL own) {a : Int} (hdg : decode cc pc = .ok (.ineg, 1)) (kk : zV p l e R s m args below meth c Q D ad ok tm A H0 nL cells slots M L (pc + 1) (iv (-a) :: rest)) : zV p l e R s m args below meth c Q D ad ok tm A H0 nL cells slots M L (pc) (iv a :: rest) := fun H locs ls hw hS hl => lv_ineg hC.1.1 hC.1.2.1 hdg (by rw [← Int32.ofInt_neg]; exact kk H locs ls hw hS hl)
theorem z_idiv (hC : zC p s m args c D tys ad ok A H0 cc nL own) {a b : Int} (hdg : decode cc pc = .ok (.idiv, 1)) (h1 : 0 ≤ a ∧ a < 2147483648) (h2 : 0 < b ∧ b < 2147483648) (kk : zV p l e R s m args below meth c Q D ad ok tm A H0 nL cells slots M L (pc + 1) (iv (a / b) :: rest)) : zV p l e R s m args below meth c Q D ad ok tm A H0 nL cells slots M L (pc) (iv b :: iv a :: rest) := fun H locs ls hw hS hl => lv_idiv hC.1.1 hC.1.2.1 hdg (zi_ne0 h2) (by rw [zi_div h1 h2]; exact kk H locs ls hw hS hl)
theorem z_irem (hC : zC p s m args c D tys ad ok A H0 cc nL own) {a b : Int} (hdg : decode cc pc = .ok (.irem, 1)) (h1 : 0 ≤ a ∧ a < 2147483648) (h2 : 0 < b ∧ b < 2147483648) (kk : zV p l e R s m args below meth c Q D ad ok tm A H0 nL cells slots M L (pc + 1) (iv (a % b) :: rest)) : zV p l e R s m args below meth c Q D ad ok tm A H0 nL cells slots M L (pc) (iv b :: iv a :: rest) := fun H locs ls hw hS hl => lv_irem hC.1.1 hC.1.2.1 hdg (zi_ne0 h2) (by rw [zi_rem h1 h2]; exact kk H locs ls hw hS hl)
theorem z_ixor (hC : zC p s m args c D tys ad ok A H0 cc nL own) {x y : Int32} (hdg : decode cc pc = .ok (.ixor, 1)) (kk : zV p l e R s m args below meth c Q D ad ok tm A H0 nL cells slots M L (pc + 1) (iv (x ^^^ y).toInt :: rest)) : zV p l e R s m args below meth c Q D ad ok tm A H0 nL cells slots M L (pc) (.int y :: .int x :: rest) := fun H locs ls hw hS hl => lv_ixor hC.1.1 hC.1.2.1 hdg (by have h := kk H locs ls hw hS hl; rw [show (iv (x ^^^ y).toInt) = .int (x ^^^ y) from congrArg Value.int (Int32.ofInt_toInt _)] at h; exact h)
theorem z_lmul (hC : zC p s m args c D tys ad ok A H0 cc nL own) {x y : Int64} (hdg : decode cc pc = .ok (.lmul, 1))  (kk : zV p l e R s m args below meth c Q D ad ok tm A H0 nL cells slots M L (pc + 1) (.long (x * y) :: rest)) : zV p l e R s m args below meth c Q D ad ok tm A H0 nL cells slots M L (pc) (.long y :: .long x :: rest) := fun H locs ls hw hS hl => lv_lmul hC.1.1 hC.1.2.1 hdg (kk H locs ls hw hS hl)
theorem z_ladd (hC : zC p s m args c D tys ad ok A H0 cc nL own) {x y : Int64} (hdg : decode cc pc = .ok (.ladd, 1))  (kk : zV p l e R s m args below meth c Q D ad ok tm A H0 nL cells slots M L (pc + 1) (.long (x + y) :: rest)) : zV p l e R s m args below meth c Q D ad ok tm A H0 nL cells slots M L (pc) (.long y :: .long x :: rest) := fun H locs ls hw hS hl => lv_ladd hC.1.1 hC.1.2.1 hdg (kk H locs ls hw hS hl)
theorem z_i2l (hC : zC p s m args c D tys ad ok A H0 cc nL own) {x : Int32} (hdg : decode cc pc = .ok (.i2l, 1))  (kk : zV p l e R s m args below meth c Q D ad ok tm A H0 nL cells slots M L (pc + 1) (.long x.toInt64 :: rest)) : zV p l e R s m args below meth c Q D ad ok tm A H0 nL cells slots M L (pc) (.int x :: rest) := fun H locs ls hw hS hl => lv_i2l hC.1.1 hC.1.2.1 hdg rfl (kk H locs ls hw hS hl)
theorem z_dup (hC : zC p s m args c D tys ad ok A H0 cc nL own) {v : Value} (hdg : decode cc pc = .ok (.dup, 1)) (hv : v.category = 1) (kk : zV p l e R s m args below meth c Q D ad ok tm A H0 nL cells slots M L (pc + 1) (v :: v :: rest)) : zV p l e R s m args below meth c Q D ad ok tm A H0 nL cells slots M L (pc) (v :: rest) := fun H locs ls hw hS hl => lv_dup hC.1.1 hC.1.2.1 hdg hv (kk H locs ls hw hS hl)
theorem z_dup2 (hC : zC p s m args c D tys ad ok A H0 cc nL own) {v w : Value} (hdg : decode cc pc = .ok (.dup2, 1)) (hv : v.category = 1) (hw2 : w.category = 1) (kk : zV p l e R s m args below meth c Q D ad ok tm A H0 nL cells slots M L (pc + 1) (v :: w :: v :: w :: rest)) : zV p l e R s m args below meth c Q D ad ok tm A H0 nL cells slots M L (pc) (v :: w :: rest) := fun H locs ls hw hS hl => lv_dup2_11 hC.1.1 hC.1.2.1 hdg hv hw2 (kk H locs ls hw hS hl)
theorem z_pop (hC : zC p s m args c D tys ad ok A H0 cc nL own) {v : Value} (hdg : decode cc pc = .ok (.pop, 1)) (hv : v.category = 1) (kk : zV p l e R s m args below meth c Q D ad ok tm A H0 nL cells slots M L (pc + 1) (rest)) : zV p l e R s m args below meth c Q D ad ok tm A H0 nL cells slots M L (pc) (v :: rest) := fun H locs ls hw hS hl => lv_pop hC.1.1 hC.1.2.1 hdg hv (kk H locs ls hw hS hl)
theorem z_ldc2 (hC : zC p s m args c D tys ad ok A H0 cc nL own) {index : Nat} {v : Int64} (hdg : decode cc pc = .ok (.ldc2_w index, 3)) (hk : Cond.constantLong own index v ∈ zbig) (kk : zV p l e R s m args below meth c Q D ad ok tm A H0 nL cells slots M L (pc + 3) (.long v :: rest)) : zV p l e R s m args below meth c Q D ad ok tm A H0 nL cells slots M L (pc) (rest) := fun H locs ls hw hS hl => lv_ldc2 hC.1.1 hC.1.2.1 hC.1.2.2.2.1 (hC.1.2.2.2.2 _ hk) hdg (kk H locs ls hw hS hl)
theorem zi_r0 : -2147483648 ≤ (0 : Int) ∧ (0 : Int) < 2147483648 := by decide
theorem z_icmp_eq (hC : zC p s m args c D tys ad ok A H0 cc nL own) {a b : Int} {off : Int} (tgt : Nat) (hdg : decode cc pc = .ok (.if_icmp .eq off, 3)) (ht : (pc : Int) + off = (tgt : Int)) (h1 : -2147483648 ≤ a ∧ a < 2147483648) (h2 : -2147483648 ≤ b ∧ b < 2147483648) (kt : a = b → zV p l e R s m args below meth c Q D ad ok tm A H0 nL cells slots M L (tgt) (rest)) (kf : a ≠ b → zV p l e R s m args below meth c Q D ad ok tm A H0 nL cells slots M L (pc + 3) (rest)) : zV p l e R s m args below meth c Q D ad ok tm A H0 nL cells slots M L (pc) (iv b :: iv a :: rest) := fun H locs ls hw hS hl => lv_icmp_eq hC.1.1 hC.1.2.1 hdg ht (fun h => kt ((zi_eq h1 h2).mp h) H locs ls hw hS hl) (fun h => kf (fun q => h ((zi_eq h1 h2).mpr q)) H locs ls hw hS hl)
theorem z_if_eq (hC : zC p s m args c D tys ad ok A H0 cc nL own) {a : Int} {off : Int} (tgt : Nat) (hdg : decode cc pc = .ok (.ifCond .eq off, 3)) (ht : (pc : Int) + off = (tgt : Int)) (h1 : -2147483648 ≤ a ∧ a < 2147483648) (kt : a = 0 → zV p l e R s m args below meth c Q D ad ok tm A H0 nL cells slots M L (tgt) (rest)) (kf : a ≠ 0 → zV p l e R s m args below meth c Q D ad ok tm A H0 nL cells slots M L (pc + 3) (rest)) : zV p l e R s m args below meth c Q D ad ok tm A H0 nL cells slots M L (pc) (iv a :: rest) := fun H locs ls hw hS hl => lv_if_eq hC.1.1 hC.1.2.1 hdg ht (fun h => kt ((zi_eq h1 zi_r0).mp h) H locs ls hw hS hl) (fun h => kf (fun q => h ((zi_eq h1 zi_r0).mpr q)) H locs ls hw hS hl)
theorem z_icmp_ne (hC : zC p s m args c D tys ad ok A H0 cc nL own) {a b : Int} {off : Int} (tgt : Nat) (hdg : decode cc pc = .ok (.if_icmp .ne off, 3)) (ht : (pc : Int) + off = (tgt : Int)) (h1 : -2147483648 ≤ a ∧ a < 2147483648) (h2 : -2147483648 ≤ b ∧ b < 2147483648) (kt : a ≠ b → zV p l e R s m args below meth c Q D ad ok tm A H0 nL cells slots M L (tgt) (rest)) (kf : a = b → zV p l e R s m args below meth c Q D ad ok tm A H0 nL cells slots M L (pc + 3) (rest)) : zV p l e R s m args below meth c Q D ad ok tm A H0 nL cells slots M L (pc) (iv b :: iv a :: rest) := fun H locs ls hw hS hl => lv_icmp_ne hC.1.1 hC.1.2.1 hdg ht (fun h => kt (fun q => h ((zi_eq h1 h2).mpr q)) H locs ls hw hS hl) (fun h => kf ((zi_eq h1 h2).mp h) H locs ls hw hS hl)
theorem z_if_ne (hC : zC p s m args c D tys ad ok A H0 cc nL own) {a : Int} {off : Int} (tgt : Nat) (hdg : decode cc pc = .ok (.ifCond .ne off, 3)) (ht : (pc : Int) + off = (tgt : Int)) (h1 : -2147483648 ≤ a ∧ a < 2147483648) (kt : a ≠ 0 → zV p l e R s m args below meth c Q D ad ok tm A H0 nL cells slots M L (tgt) (rest)) (kf : a = 0 → zV p l e R s m args below meth c Q D ad ok tm A H0 nL cells slots M L (pc + 3) (rest)) : zV p l e R s m args below meth c Q D ad ok tm A H0 nL cells slots M L (pc) (iv a :: rest) := fun H locs ls hw hS hl => lv_if_ne hC.1.1 hC.1.2.1 hdg ht (fun h => kt (fun q => h ((zi_eq h1 zi_r0).mpr q)) H locs ls hw hS hl) (fun h => kf ((zi_eq h1 zi_r0).mp h) H locs ls hw hS hl)
theorem z_icmp_lt (hC : zC p s m args c D tys ad ok A H0 cc nL own) {a b : Int} {off : Int} (tgt : Nat) (hdg : decode cc pc = .ok (.if_icmp .lt off, 3)) (ht : (pc : Int) + off = (tgt : Int)) (h1 : -2147483648 ≤ a ∧ a < 2147483648) (h2 : -2147483648 ≤ b ∧ b < 2147483648) (kt : a < b → zV p l e R s m args below meth c Q D ad ok tm A H0 nL cells slots M L (tgt) (rest)) (kf : b ≤ a → zV p l e R s m args below meth c Q D ad ok tm A H0 nL cells slots M L (pc + 3) (rest)) : zV p l e R s m args below meth c Q D ad ok tm A H0 nL cells slots M L (pc) (iv b :: iv a :: rest) := fun H locs ls hw hS hl => lv_icmp_lt hC.1.1 hC.1.2.1 hdg ht (fun h => kt ((zi_lt h1 h2).mp h) H locs ls hw hS hl) (fun h => kf (Int.not_lt.mp fun q => h ((zi_lt h1 h2).mpr q)) H locs ls hw hS hl)
theorem z_if_lt (hC : zC p s m args c D tys ad ok A H0 cc nL own) {a : Int} {off : Int} (tgt : Nat) (hdg : decode cc pc = .ok (.ifCond .lt off, 3)) (ht : (pc : Int) + off = (tgt : Int)) (h1 : -2147483648 ≤ a ∧ a < 2147483648) (kt : a < 0 → zV p l e R s m args below meth c Q D ad ok tm A H0 nL cells slots M L (tgt) (rest)) (kf : 0 ≤ a → zV p l e R s m args below meth c Q D ad ok tm A H0 nL cells slots M L (pc + 3) (rest)) : zV p l e R s m args below meth c Q D ad ok tm A H0 nL cells slots M L (pc) (iv a :: rest) := fun H locs ls hw hS hl => lv_if_lt hC.1.1 hC.1.2.1 hdg ht (fun h => kt ((zi_lt h1 zi_r0).mp h) H locs ls hw hS hl) (fun h => kf (Int.not_lt.mp fun q => h ((zi_lt h1 zi_r0).mpr q)) H locs ls hw hS hl)
theorem z_icmp_ge (hC : zC p s m args c D tys ad ok A H0 cc nL own) {a b : Int} {off : Int} (tgt : Nat) (hdg : decode cc pc = .ok (.if_icmp .ge off, 3)) (ht : (pc : Int) + off = (tgt : Int)) (h1 : -2147483648 ≤ a ∧ a < 2147483648) (h2 : -2147483648 ≤ b ∧ b < 2147483648) (kt : b ≤ a → zV p l e R s m args below meth c Q D ad ok tm A H0 nL cells slots M L (tgt) (rest)) (kf : a < b → zV p l e R s m args below meth c Q D ad ok tm A H0 nL cells slots M L (pc + 3) (rest)) : zV p l e R s m args below meth c Q D ad ok tm A H0 nL cells slots M L (pc) (iv b :: iv a :: rest) := fun H locs ls hw hS hl => lv_icmp_ge hC.1.1 hC.1.2.1 hdg ht (fun h => kt ((zi_le h2 h1).mp h) H locs ls hw hS hl) (fun h => kf (Int.not_le.mp fun q => h ((zi_le h2 h1).mpr q)) H locs ls hw hS hl)
theorem z_if_ge (hC : zC p s m args c D tys ad ok A H0 cc nL own) {a : Int} {off : Int} (tgt : Nat) (hdg : decode cc pc = .ok (.ifCond .ge off, 3)) (ht : (pc : Int) + off = (tgt : Int)) (h1 : -2147483648 ≤ a ∧ a < 2147483648) (kt : 0 ≤ a → zV p l e R s m args below meth c Q D ad ok tm A H0 nL cells slots M L (tgt) (rest)) (kf : a < 0 → zV p l e R s m args below meth c Q D ad ok tm A H0 nL cells slots M L (pc + 3) (rest)) : zV p l e R s m args below meth c Q D ad ok tm A H0 nL cells slots M L (pc) (iv a :: rest) := fun H locs ls hw hS hl => lv_if_ge hC.1.1 hC.1.2.1 hdg ht (fun h => kt ((zi_le zi_r0 h1).mp h) H locs ls hw hS hl) (fun h => kf (Int.not_le.mp fun q => h ((zi_le zi_r0 h1).mpr q)) H locs ls hw hS hl)
theorem z_icmp_gt (hC : zC p s m args c D tys ad ok A H0 cc nL own) {a b : Int} {off : Int} (tgt : Nat) (hdg : decode cc pc = .ok (.if_icmp .gt off, 3)) (ht : (pc : Int) + off = (tgt : Int)) (h1 : -2147483648 ≤ a ∧ a < 2147483648) (h2 : -2147483648 ≤ b ∧ b < 2147483648) (kt : b < a → zV p l e R s m args below meth c Q D ad ok tm A H0 nL cells slots M L (tgt) (rest)) (kf : a ≤ b → zV p l e R s m args below meth c Q D ad ok tm A H0 nL cells slots M L (pc + 3) (rest)) : zV p l e R s m args below meth c Q D ad ok tm A H0 nL cells slots M L (pc) (iv b :: iv a :: rest) := fun H locs ls hw hS hl => lv_icmp_gt hC.1.1 hC.1.2.1 hdg ht (fun h => kt ((zi_lt h2 h1).mp h) H locs ls hw hS hl) (fun h => kf (Int.not_lt.mp fun q => h ((zi_lt h2 h1).mpr q)) H locs ls hw hS hl)
theorem z_if_gt (hC : zC p s m args c D tys ad ok A H0 cc nL own) {a : Int} {off : Int} (tgt : Nat) (hdg : decode cc pc = .ok (.ifCond .gt off, 3)) (ht : (pc : Int) + off = (tgt : Int)) (h1 : -2147483648 ≤ a ∧ a < 2147483648) (kt : 0 < a → zV p l e R s m args below meth c Q D ad ok tm A H0 nL cells slots M L (tgt) (rest)) (kf : a ≤ 0 → zV p l e R s m args below meth c Q D ad ok tm A H0 nL cells slots M L (pc + 3) (rest)) : zV p l e R s m args below meth c Q D ad ok tm A H0 nL cells slots M L (pc) (iv a :: rest) := fun H locs ls hw hS hl => lv_if_gt hC.1.1 hC.1.2.1 hdg ht (fun h => kt ((zi_lt zi_r0 h1).mp h) H locs ls hw hS hl) (fun h => kf (Int.not_lt.mp fun q => h ((zi_lt zi_r0 h1).mpr q)) H locs ls hw hS hl)
theorem z_icmp_le (hC : zC p s m args c D tys ad ok A H0 cc nL own) {a b : Int} {off : Int} (tgt : Nat) (hdg : decode cc pc = .ok (.if_icmp .le off, 3)) (ht : (pc : Int) + off = (tgt : Int)) (h1 : -2147483648 ≤ a ∧ a < 2147483648) (h2 : -2147483648 ≤ b ∧ b < 2147483648) (kt : a ≤ b → zV p l e R s m args below meth c Q D ad ok tm A H0 nL cells slots M L (tgt) (rest)) (kf : b < a → zV p l e R s m args below meth c Q D ad ok tm A H0 nL cells slots M L (pc + 3) (rest)) : zV p l e R s m args below meth c Q D ad ok tm A H0 nL cells slots M L (pc) (iv b :: iv a :: rest) := fun H locs ls hw hS hl => lv_icmp_le hC.1.1 hC.1.2.1 hdg ht (fun h => kt ((zi_le h1 h2).mp h) H locs ls hw hS hl) (fun h => kf (Int.not_le.mp fun q => h ((zi_le h1 h2).mpr q)) H locs ls hw hS hl)
theorem z_if_le (hC : zC p s m args c D tys ad ok A H0 cc nL own) {a : Int} {off : Int} (tgt : Nat) (hdg : decode cc pc = .ok (.ifCond .le off, 3)) (ht : (pc : Int) + off = (tgt : Int)) (h1 : -2147483648 ≤ a ∧ a < 2147483648) (kt : a ≤ 0 → zV p l e R s m args below meth c Q D ad ok tm A H0 nL cells slots M L (tgt) (rest)) (kf : 0 < a → zV p l e R s m args below meth c Q D ad ok tm A H0 nL cells slots M L (pc + 3) (rest)) : zV p l e R s m args below meth c Q D ad ok tm A H0 nL cells slots M L (pc) (iv a :: rest) := fun H locs ls hw hS hl => lv_if_le hC.1.1 hC.1.2.1 hdg ht (fun h => kt ((zi_le h1 zi_r0).mp h) H locs ls hw hS hl) (fun h => kf (Int.not_le.mp fun q => h ((zi_le h1 zi_r0).mpr q)) H locs ls hw hS hl)
theorem z_if_ne_b (hC : zC p s m args c D tys ad ok A H0 cc nL own) {P : Prop} [Decidable P] {off : Int} (tgt : Nat) (hdg : decode cc pc = .ok (.ifCond .ne off, 3)) (ht : (pc : Int) + off = (tgt : Int)) (kt : P → zV p l e R s m args below meth c Q D ad ok tm A H0 nL cells slots M L (tgt) (rest)) (kf : ¬ P → zV p l e R s m args below meth c Q D ad ok tm A H0 nL cells slots M L (pc + 3) (rest)) : zV p l e R s m args below meth c Q D ad ok tm A H0 nL cells slots M L (pc) (iv (if P then 1 else 0) :: rest) := z_if_ne hC tgt hdg ht (by split <;> decide) (fun h => kt (Classical.byContradiction fun q => h (if_neg q))) (fun h => kf (fun q => by rw [if_pos q] at h; exact absurd h (by decide)))
theorem z_if_eq_b (hC : zC p s m args c D tys ad ok A H0 cc nL own) {P : Prop} [Decidable P] {off : Int} (tgt : Nat) (hdg : decode cc pc = .ok (.ifCond .eq off, 3)) (ht : (pc : Int) + off = (tgt : Int)) (kt : ¬ P → zV p l e R s m args below meth c Q D ad ok tm A H0 nL cells slots M L (tgt) (rest)) (kf : P → zV p l e R s m args below meth c Q D ad ok tm A H0 nL cells slots M L (pc + 3) (rest)) : zV p l e R s m args below meth c Q D ad ok tm A H0 nL cells slots M L (pc) (iv (if P then 1 else 0) :: rest) := z_if_eq hC tgt hdg ht (by split <;> decide) (fun h => kt (fun q => by rw [if_pos q] at h; exact absurd h (by decide))) (fun h => kf (Classical.byContradiction fun q => h (if_neg q)))
theorem z_goto (hC : zC p s m args c D tys ad ok A H0 cc nL own) {off : Int} (tgt : Nat) (hdg : decode cc pc = .ok (.goto off, 3)) (ht : (pc : Int) + off = (tgt : Int)) (kk : zV p l e R s m args below meth c Q D ad ok tm A H0 nL cells slots M L (tgt) (rest)) : zV p l e R s m args below meth c Q D ad ok tm A H0 nL cells slots M L (pc) (rest) := fun H locs ls hw hS hl => lv_goto hC.1.1 hC.1.2.1 hdg ht (kk H locs ls hw hS hl)
theorem z_tableIn (hC : zC p s m args c D tys ad ok A H0 cc nL own) {dflt lo hi : Int} {offs : Array Int} {len : Nat} {a off : Int} (tgt : Nat) (hdg : decode cc pc = .ok (.tableswitch dflt lo hi offs, len)) (h1 : -2147483648 ≤ a ∧ a < 2147483648) (h2 : lo ≤ a) (h3 : a ≤ hi) (ho : offs[(a - lo).toNat]? = some off) (ht : (pc : Int) + off = (tgt : Int)) (kk : zV p l e R s m args below meth c Q D ad ok tm A H0 nL cells slots M L (tgt) (rest)) : zV p l e R s m args below meth c Q D ad ok tm A H0 nL cells slots M L (pc) (iv a :: rest) := fun H locs ls hw hS hl => lv_tableIn hC.1.1 hC.1.2.1 hdg (by rw [zi_toInt h1]; omega) (by rw [zi_toInt h1]; omega) (by rw [zi_toInt h1]; exact ho) ht (kk H locs ls hw hS hl)
theorem z_tableOut (hC : zC p s m args c D tys ad ok A H0 cc nL own) {dflt lo hi : Int} {offs : Array Int} {len : Nat} {a : Int} (tgt : Nat) (hdg : decode cc pc = .ok (.tableswitch dflt lo hi offs, len)) (h1 : -2147483648 ≤ a ∧ a < 2147483648) (h2 : a < lo ∨ hi < a) (ht : (pc : Int) + dflt = (tgt : Int)) (kk : zV p l e R s m args below meth c Q D ad ok tm A H0 nL cells slots M L (tgt) (rest)) : zV p l e R s m args below meth c Q D ad ok tm A H0 nL cells slots M L (pc) (iv a :: rest) := fun H locs ls hw hS hl => lv_tableOut hC.1.1 hC.1.2.1 hdg (by rw [zi_toInt h1]; exact h2) ht (kk H locs ls hw hS hl)
theorem z_perm {L' : List (Nat × Value)} (ks : List Nat) (h : lv_pick L ks = L') (kk : zV p l e R s m args below meth c Q D ad ok tm A H0 nL cells slots M L' (pc) (rest)) : zV p l e R s m args below meth c Q D ad ok tm A H0 nL cells slots M L (pc) (rest) := fun H locs ls hw hS hl => kk H locs ls hw hS (lv_sub hl ks h)
theorem z_mem {M2 : zM} (h : M = M2) (kk : zV p l e R s m args below meth c Q D ad ok tm A H0 nL cells slots M2 L (pc) (rest)) : zV p l e R s m args below meth c Q D ad ok tm A H0 nL cells slots M L (pc) (rest) := by subst h; exact kk
theorem z_conv {M2 : zM} {L2 : List (Nat × Value)} {St2 : List Value} (kk : zV p l e R s m args below meth c Q D ad ok tm A H0 nL cells slots M2 L2 pc St2) (hM : M = M2) (hL : L = L2) (hSt : St = St2) : zV p l e R s m args below meth c Q D ad ok tm A H0 nL cells slots M L (pc) (St) := by subst hM; subst hL; subst hSt; exact kk
theorem z_widen {k n : Nat} (h1 : cells ≤ k) (h2 : slots ≤ n) (kk : zV p l e R s m args below meth c Q D ad ok tm A H0 nL k n M L (pc) (rest)) : zV p l e R s m args below meth c Q D ad ok tm A H0 nL cells slots M L (pc) (rest) := fun H locs ls hw hS hl => W.widen h1 h2 (kk H locs ls hw hS hl)
theorem z_iaload (hC : zC p s m args c D tys ad ok A H0 cc nL own) {f i : Nat} {a : Int} {cA : ClassId} {n : Nat} (t0 : Nat) (k : Nat) (ht : tm f i = .inr (.inl (cA, n))) (hty : tys[t0]? = some (cA, .int)) (ho : ok f i) (hk : a = (k : Int)) (h1 : k < n) (hn : n < 2147483648) {x : Int} (hx : M f i k = x) (hdg : decode cc pc = .ok (.iaload, 1)) (kk : zV p l e R s m args below meth c Q D ad ok tm A H0 nL cells slots M L (pc + 1) (iv x :: rest)) : zV p l e R s m args below meth c Q D ad ok tm A H0 nL cells slots M L (pc) (iv a :: .ref (ad f i) :: rest) := by
  subst hx
  intro H locs ls hw hS hl
  have hP := hw.one ho
  rw [ht] at hP
  refine va_iald hC.1.1 hC.1.2.1 hC.2.1 hP 0 t0 rfl hty (zi_in (n := n) (by omega) (by omega)) hdg ?_
  rw [zi_nat (by omega), show a.toNat = k by omega]
  exact kk H locs ls hw hS hl
theorem z_aaload (hC : zC p s m args c D tys ad ok A H0 cc nL own) {f i : Nat} {a : Int} {cA : ClassId} {n : Nat} {r : Nat → Nat} {Cn : String} (t0 : Nat) (k : Nat) (q : Nat) (ht : tm f i = .inr (.inr (cA, n, r))) (hty : tys[t0]? = some (cA, .object Cn)) (ho : ok f i) (hk : a = (k : Int)) (h1 : k < n) (hn : n < 2147483648) (hq : r k = q) (hdg : decode cc pc = .ok (.aaload, 1)) (kk : zV p l e R s m args below meth c Q D ad ok tm A H0 nL cells slots M L (pc + 1) (.ref q :: rest)) : zV p l e R s m args below meth c Q D ad ok tm A H0 nL cells slots M L (pc) (iv a :: .ref (ad f i) :: rest) := by
  intro H locs ls hw hS hl
  have hP := hw.one ho
  rw [ht] at hP
  refine va_aldq hC.1.1 hC.1.2.1 hC.2.1 hP 0 t0 rfl hty (zi_in (n := n) (by omega) (by omega)) hdg ?_
  rw [zi_nat (by omega), show a.toNat = k by omega, hq]
  exact kk H locs ls hw hS hl
theorem z_iastore (hC : zC p s m args c D tys ad ok A H0 cc nL own) {f i : Nat} {a x : Int} {cA : ClassId} {n : Nat} (t0 : Nat) (k : Nat) (ht : tm f i = .inr (.inl (cA, n))) (hty : tys[t0]? = some (cA, .int)) (ho : ok f i) (hk : a = (k : Int)) (h1 : k < n) (hn : n < 2147483648) (hdg : decode cc pc = .ok (.iastore, 1)) (kk : zV p l e R s m args below meth c Q D ad ok tm A H0 nL cells slots (zup M f i k x) L (pc + 1) (rest)) : zV p l e R s m args below meth c Q D ad ok tm A H0 nL cells slots M L (pc) (iv x :: iv a :: .ref (ad f i) :: rest) := by
  intro H locs ls hw hS hl
  subst hk
  have hw0 := hw f i ho
  rw [ht] at hw0
  have hin := zi_in (a := (k : Int)) (n := n) (by omega) (by omega)
  refine W.iast hC.1.1 hC.1.2.1 hw0 ((hC.2.1.2 t0 _ hty).1 n (fun j => .int (Int32.ofInt (M f i j)))) (fun q => by cases q) (by show ¬ (Int32.ofInt (k : Int) < 0 ∨ (arrV _ _ _).slots.size ≤ _); rw [arrV_size]; exact hin) rfl rfl hdg fun H1 e z oq => ?_
  refine kk H1 _ ls (hw.put hC.2.2.1 ho ?_ oq (fun f' i' h => zup_off h)) (hS.put z oq (hC.2.2.2.1 f i ho)) hl
  rw [ht]
  show H1[ad f i]? = some (vp_cell _ _)
  rw [e]
  rw [vp_cell_i, vp_cell_i, arrV_store]
  congr 2
  funext q
  rw [zi_nat (by omega), Int.toNat_natCast]
  by_cases hq : q = k
  · subst hq
    simp [updV, zup]
  · simp [updV, zup, hq]
theorem z_alen (hC : zC p s m args c D tys ad ok A H0 cc nL own) {f i : Nat} {cA : ClassId} {n : Nat} (t0 : Nat) (ht : tm f i = .inr (.inl (cA, n))) (hty : tys[t0]? = some (cA, .int)) (ho : ok f i) (hdg : decode cc pc = .ok (.arraylength, 1)) (kk : zV p l e R s m args below meth c Q D ad ok tm A H0 nL cells slots M L (pc + 1) (iv (n : Int) :: rest)) : zV p l e R s m args below meth c Q D ad ok tm A H0 nL cells slots M L (pc) (.ref (ad f i) :: rest) := by
  intro H locs ls hw hS hl
  have hP := hw.one ho
  rw [ht] at hP
  exact va_alen hC.1.1 hC.1.2.1 hC.2.1 hP 0 t0 rfl hty (v := Int32.ofInt n) Int32.ofInt_eq_ofNat.symm hdg (kk H locs ls hw hS hl)
end ZR
end
section
/-! contracts over the layer, calls, ends -/
abbrev zws (y : MethodName) (bytes : ByteArray) (maxL : Nat) (ret : Option FieldType) : List Cond := .code y bytes maxL ret :: zbig
abbrev zrm (d mc ms : Nat) : Room := { frames := d, cells := mc, slots := ms, locals := 40 * d }
abbrev zPre (D : va_G) (tys : List (ClassId × FieldType)) (ad : Nat → Nat → Nat) (ok : Nat → Nat → Prop) (tm : Nat → Nat → zT) (av : List Value) (M : zM) (sz : Nat) : Array Value → State → Prop := va_Pc av (fun U => U.heap.size = sz ∧ zH D ad ok tm M U.heap ∧ va_K D vwCl tys U ∧ ∀ w ∈ znl, va_Nw w U)
abbrev zQi (D : va_G) (ad : Nat → Nat → Nat) (ok : Nat → Nat → Prop) (tm : Nat → Nat → zT) (r : Int) (M' : zM) (A : Nat → Prop) : Array Value → State → Outcome → State → Prop := va_Qi (fun (x : Int32) (_ : Unit) => x = Int32.ofInt r) (fun _ t => zH D ad ok tm M' t.heap) A
abbrev zQl (D : va_G) (ad : Nat → Nat → Nat) (ok : Nat → Nat → Prop) (tm : Nat → Nat → zT) (r : Int64) (M' : zM) (A : Nat → Prop) : Array Value → State → Outcome → State → Prop := va_Ql (fun (x : Int64) (_ : Unit) => x = r) (fun _ t => zH D ad ok tm M' t.heap) A
abbrev zQd (D : va_G) (ad : Nat → Nat → Nat) (ok : Nat → Nat → Prop) (tm : Nat → Nat → zT) (r : UInt64) (M' : zM) (A : Nat → Prop) : Array Value → State → Outcome → State → Prop := va_Qd (fun (x : UInt64) (_ : Unit) => x = r) (fun _ t => zH D ad ok tm M' t.heap) A
abbrev zQv (D : va_G) (ad : Nat → Nat → Nat) (ok : Nat → Nat → Prop) (tm : Nat → Nat → zT) (M' : zM) (A : Nat → Prop) : Array Value → State → Outcome → State → Prop := va_Qv (fun (_ : Unit) => True) (fun _ t => zH D ad ok tm M' t.heap) A
/-- from the memory M the method answers r and leaves M' -/
def zMi (l : Launch) (y : MethodName) (bytes : ByteArray) (maxL : Nat) (ret : Option FieldType) (d : Nat) (D : va_G) (tys : List (ClassId × FieldType)) (ad : Nat → Nat → Nat) (ok : Nat → Nat → Prop) (tm : Nat → Nat → zT) (av : List Value) (M : zM) (r : Int) (M' : zM) (mc ms : Nat) : Prop :=
  ∀ sz : Nat, Met l y (zws y bytes maxL ret) (zrm d mc ms) (zPre D tys ad ok tm av M sz) (zQi D ad ok tm r M' (zA ad ok sz)) mc ms (zA ad ok sz)
def zMl (l : Launch) (y : MethodName) (bytes : ByteArray) (maxL : Nat) (ret : Option FieldType) (d : Nat) (D : va_G) (tys : List (ClassId × FieldType)) (ad : Nat → Nat → Nat) (ok : Nat → Nat → Prop) (tm : Nat → Nat → zT) (av : List Value) (M : zM) (r : Int64) (M' : zM) (mc ms : Nat) : Prop :=
  ∀ sz : Nat, Met l y (zws y bytes maxL ret) (zrm d mc ms) (zPre D tys ad ok tm av M sz) (zQl D ad ok tm r M' (zA ad ok sz)) mc ms (zA ad ok sz)
def zMd (l : Launch) (y : MethodName) (bytes : ByteArray) (maxL : Nat) (ret : Option FieldType) (d : Nat) (D : va_G) (tys : List (ClassId × FieldType)) (ad : Nat → Nat → Nat) (ok : Nat → Nat → Prop) (tm : Nat → Nat → zT) (av : List Value) (M : zM) (r : UInt64) (M' : zM) (mc ms : Nat) : Prop :=
  ∀ sz : Nat, Met l y (zws y bytes maxL ret) (zrm d mc ms) (zPre D tys ad ok tm av M sz) (zQd D ad ok tm r M' (zA ad ok sz)) mc ms (zA ad ok sz)
def zMv (l : Launch) (y : MethodName) (bytes : ByteArray) (maxL : Nat) (ret : Option FieldType) (d : Nat) (D : va_G) (tys : List (ClassId × FieldType)) (ad : Nat → Nat → Nat) (ok : Nat → Nat → Prop) (tm : Nat → Nat → zT) (av : List Value) (M : zM) (M' : zM) (mc ms : Nat) : Prop :=
  ∀ sz : Nat, Met l y (zws y bytes maxL ret) (zrm d mc ms) (zPre D tys ad ok tm av M sz) (zQv D ad ok tm M' (zA ad ok sz)) mc ms (zA ad ok sz)
theorem zPre_blind {D : va_G} {tys : List (ClassId × FieldType)} {ad : Nat → Nat → Nat} {ok : Nat → Nat → Prop} {tm : Nat → Nat → zT} {av : List Value} {M : zM} {sz : Nat} : FrameBlind (zPre D tys ad ok tm av M sz) := fun a U g mk q => by
  obtain ⟨q0, q1, qP, qK, qN⟩ := q
  exact ⟨q0, q1, qP, va_K.moved (u := U) (U := U.calling g mk a) (Vm.Alike.refl U.vm) qK, znl_same (u := U) (U := U.calling g mk a) rfl qN⟩
theorem z_ofW {l : Launch} {y : MethodName} {ws ws' : List Cond} {rm : Room} {Pc : Array Value → State → Prop} {Qc : Array Value → State → Outcome → State → Prop} {mc ms : Nat} {free : Addr → Prop} {cc : ByteArray} {maxL : Nat} {ret : Option FieldType}
    (hy : plainFor y = true) (hw : ws = Cond.code y cc maxL ret :: ws')
    (body : ∀ p e s m args below meth c s₁, BodyLoose p l y (headSpec ws rm) cc maxL ret e s m args below meth c s₁ → c.maxLocals = maxL → Pc args s →
      W p l e (headSpec ws rm).room s m args below meth c s.heap [] 0 0 (MQ below Qc args s mc ms free) (entryFrame m args maxL)) : Met l y ws rm Pc Qc mc ms free := by
  refine MetFree.of_bodySF (code := cc) (maxLocals := maxL) (ret := ret) hy ?_ ?_
  · intro args s m h hn
    obtain ⟨meth, c, h1, h2, h3, h4, h5, h6, -, -⟩ := Cond.code_spec hn (atoms_spec (ws := ws) h _ (by rw [hw]; exact List.mem_cons_self))
    exact ⟨meth, c, h1, h2, h3, h4, h5, h6⟩
  · intro p e s m args below meth c s₁ B hml hP _
    have hh0 : s₁.heap = s.heap := by rw [B.state]; rfl
    obtain ⟨t, a1, o, b1, b2, b3⟩ := body p e s m args below meth c s₁ B hml hP s₁ hh0 (Stand.of_body B)
    exact ⟨t, o, a1, b1, b2, ⟨b3.1, b3.2⟩⟩
section ZMET
variable {l : Launch} {y : MethodName} {bytes : ByteArray} {maxL : Nat} {ret : Option FieldType} {d : Nat} {D : va_G} {tys : List (ClassId × FieldType)} {ad : Nat → Nat → Nat} {ok : Nat → Nat → Prop} {tm : Nat → Nat → zT} {av : List Value} {M : zM} {M' : zM} {mc ms : Nat}
theorem z_met {Qc : Nat → Array Value → State → Outcome → State → Prop} (hI : zI ad ok) (hy : plainFor y = true) (hav : (lg_sl av).length ≤ maxL)
    (body : ∀ (p : Program) (e : Env) (s : State) (m : MethodId) (args : Array Value) (below : List Frame) (meth : Method) (c : Code), zC p s m args c D tys ad ok (zA ad ok s.heap.size) s.heap bytes maxL y.cls → meth.sig.returnType = ret → meth.locks = false →
      zV p l e (zrm d mc ms) s m args below meth c (MQ below (Qc s.heap.size) args s mc ms (zA ad ok s.heap.size)) D ad ok tm (zA ad ok s.heap.size) s.heap maxL 0 0 M (lv_args 0 av) 0 []) (sz : Nat) : Met l y (zws y bytes maxL ret) (zrm d mc ms) (zPre D tys ad ok tm av M sz) (Qc sz) mc ms (zA ad ok sz) := by
  refine z_ofW (cc := bytes) (maxL := maxL) (ret := ret) hy rfl ?_
  intro p e s m args below meth c s₁ B hml hv
  obtain ⟨rfl, hsz, hP, hK, hN⟩ := hv
  subst hsz
  have hts := atoms_spec (ws := zws y bytes maxL ret) B.pre
  have hown : s.vm.findClass y.cls = some m.cls := findClass_of_methodNamed B.named
  rw [lg_entry_eq]
  refine body p e s m av.toArray below meth c ⟨⟨B.exec, B.bytes, hml, hown, fun x h => hts x (List.mem_cons_of_mem _ h)⟩, hK, hI, fun f i h => Or.inl ⟨f, i, h, rfl⟩, fun q h => Or.inr h, hN⟩ B.returns B.notSynchronized s.heap [] _ hP va_S.rf (lv_entry av hav)
end ZMET
section ZCALL
variable {p : Program} {l : Launch} {e : Env} {R : Room} {s : State} {m : MethodId} {args : Array Value} {below : List Frame} {meth : Method} {c : Code} {Q : State → Prop} {D : va_G} {tys : List (ClassId × FieldType)} {ad : Nat → Nat → Nat} {ok : Nat → Nat → Prop} {tm : Nat → Nat → zT} {A : Nat → Prop} {H0 : Heap} {nL : Nat} {cells slots : Nat} {M M' : zM} {L : List (Nat × Value)} {pc : Nat} {St rest : List Value} {cc : ByteArray} {own : String}
variable {y : MethodName} {bytes : ByteArray} {maxL index n d mc ms : Nat} {ret : Option FieldType} {As : List Value}
theorem z_callB (hC : zC p s m args c D tys ad ok A H0 cc nL own) (h : ∀ w ∈ ([.methodLink own index y, .initialized y.cls, .code y bytes maxL ret] : List Cond), w ∈ zbig) (hd : y.cls ≠ "java/lang/invoke/MethodHandle" ∧ y.cls ≠ "java/lang/invoke/VarHandle" ∧ (parseMethodDescriptor y.desc).map (fun d => d.parameters.length) = some n) (hR : d + 1 ≤ R.frames ∧ 8 + (maxL + 11) + 40 * d ≤ R.locals) : CallB R s args own index y bytes maxL ret (zws y bytes maxL ret) (zrm d mc ms) mc ms n := by
  have hts := hC.1.2.2.2.2
  refine callB_of n hts (zbig_good ?_) rfl rfl rfl (hts _ (h _ (by simp))) (hts _ (h _ (by simp))) hd hR
  intro w hw
  rcases List.mem_cons.mp hw with rfl | hw
  · exact h _ (by simp)
  · exact hw
theorem z_free (hC : zC p s m args c D tys ad ok A H0 cc nL own) {H : Heap} {locs : List Loc} (hS : va_S A H0 H locs) : ∀ q, zA ad ok H.size q → A q := by
  intro q h
  rcases h with ⟨f, i, h, rfl⟩ | h
  · exact hC.2.2.2.1 f i h
  · exact hC.2.2.2.2.1 q (Nat.le_trans hS.1 h)
theorem z_recv (hC : zC p s m args c D tys ad ok A H0 cc nL own) {H : Heap} (hw : zH D ad ok tm M H) {f0 i0 ci : Nat} {lt : List (Option Value)} {Cn : String} {T : u_T} {N : Nat} (ht : tm f0 i0 = .inl (ci, lt)) (hci : vwCl[ci]? = some (Cn, T, N)) (ho : ok f0 i0) : ∃ cell : Cell, H[ad f0 i0]? = some cell ∧ cell.vm.isStatics = false ∧ s.vm.findClass Cn = some cell.cls := by
  have hP := hw.one ho
  rw [ht] at hP
  exact va_recv (q0 := 0) hC.2.1 hP hci rfl
theorem z_runV (hC : zC p s m args c D tys ad ok A H0 cc nL own) (hL : zLV own index y bytes maxL ret n) {f0 i0 ci : Nat} {lt : List (Option Value)} {T : u_T} {N : Nat} {Qc : Array Value → State → Outcome → State → Prop} {H : Heap} {locs : List Loc} {ls : Array Slot} (hM : Met l y (zws y bytes maxL ret) (zrm d mc ms) (zPre D tys ad ok tm (.ref (ad f0 i0) :: As) M H.size) Qc mc ms (zA ad ok H.size)) (ht : tm f0 i0 = .inl (ci, lt)) (hci : vwCl[ci]? = some (y.cls, T, N)) (ho : ok f0 i0) (hn : As.length = n) (hW : (rest.map fun v => v.category).sum ≤ 8) (hR : d + 1 ≤ R.frames ∧ 8 + (maxL + 11) + 40 * d ≤ R.locals) (hf : cells + mc ≤ R.cells ∧ slots + ms ≤ R.slots) (hdg : decode cc pc = .ok (.invokevirtual index, 3)) (hw : zH D ad ok tm M H) (hl : ls.size = nL) :
    va_Run p l e R s m args below meth c H locs cells slots mc ms (F0 m pc ls (As.reverse ++ .ref (ad f0 i0) :: rest)) rest (Qc (Value.ref (ad f0 i0) :: As).toArray) (zA ad ok H.size) := by
  have hts := hC.1.2.2.2.2
  have cw : CallW R s args own y.cls index y bytes maxL ret (zws y bytes maxL ret) (zrm d mc ms) mc ms n := ⟨z_callB hC (fun w h => hL.1 w (by simp only [List.mem_cons, List.not_mem_nil, or_false] at h ⊢; rcases h with h | h | h <;> simp [h])) hL.2 hR, hts _ (hL.1 _ (by simp)), hts _ (hL.1 _ (by simp))⟩
  exact va_runV (As := As) (rest := rest) hC.1 hM cw ⟨zPre_blind, z_recv hC hw ht hci ho, fun U hU hW2 => ⟨rfl, by rw [hU], by rw [hU]; exact hw, va_K.moved hW2.alike hC.2.1, znl_moved hW2 hC.2.2.2.2.2⟩⟩ rfl hn hl rfl (lv_room hW) hdg hf
theorem z_runS (hC : zC p s m args c D tys ad ok A H0 cc nL own) (hL : zLS own index y bytes maxL ret n) {Qc : Array Value → State → Outcome → State → Prop} {H : Heap} {locs : List Loc} {ls : Array Slot} (hM : Met l y (zws y bytes maxL ret) (zrm d mc ms) (zPre D tys ad ok tm As M H.size) Qc mc ms (zA ad ok H.size)) (hn : As.length = n) (hW : (rest.map fun v => v.category).sum ≤ 8) (hR : d + 1 ≤ R.frames ∧ 8 + (maxL + 11) + 40 * d ≤ R.locals) (hf : cells + mc ≤ R.cells ∧ slots + ms ≤ R.slots) (hdg : decode cc pc = .ok (.invokestatic index, 3)) (hw : zH D ad ok tm M H) (hl : ls.size = nL) :
    va_Run p l e R s m args below meth c H locs cells slots mc ms (F0 m pc ls (As.reverse ++ rest)) rest (Qc As.toArray) (zA ad ok H.size) := by
  have hts := hC.1.2.2.2.2
  have cw : CallB R s args own index y bytes maxL ret (zws y bytes maxL ret) (zrm d mc ms) mc ms n ∧ (Cond.static y).before args s = true := ⟨z_callB hC (fun w h => hL.1 w (by simp only [List.mem_cons, List.not_mem_nil, or_false] at h ⊢; rcases h with h | h | h <;> simp [h])) hL.2 hR, hts _ (hL.1 _ (by simp))⟩
  exact va_runS (As := As) (rest := rest) hC.1 hM cw ⟨zPre_blind, fun U hU hW2 => ⟨rfl, by rw [hU], by rw [hU]; exact hw, va_K.moved hW2.alike hC.2.1, znl_moved hW2 hC.2.2.2.2.2⟩⟩ rfl hn hl rfl (lv_room hW) hdg hf
theorem z_gw (h : Cond.code y bytes maxL ret ∈ zbig) : GoodIn zbig (zws y bytes maxL ret) := zbig_good (fun w hw => (List.mem_cons.mp hw).elim (fun e => e ▸ h) id)
theorem z_runVN (hC : zC p s m args c D tys ad ok A H0 cc nL own) (hL : zLVN own index y bytes maxL ret n) {f0 i0 ci : Nat} {lt : List (Option Value)} {T : u_T} {N : Nat} {Qc : Array Value → State → Outcome → State → Prop} {H : Heap} {locs : List Loc} {ls : Array Slot} (hM : Met l y (zws y bytes maxL ret) (zrm d mc ms) (zPre D tys ad ok tm (.ref (ad f0 i0) :: As) M H.size) Qc mc ms (zA ad ok H.size)) (ht : tm f0 i0 = .inl (ci, lt)) (hci : vwCl[ci]? = some (y.cls, T, N)) (ho : ok f0 i0) (hn : As.length = n) (hW : (rest.map fun v => v.category).sum ≤ 8) (hR : d + 1 ≤ R.frames ∧ 8 + (maxL + 11) + 40 * d ≤ R.locals) (hf : cells + mc ≤ R.cells ∧ slots + ms ≤ R.slots) (hdg : decode cc pc = .ok (.invokevirtual index, 3)) (hw : zH D ad ok tm M H) (hl : ls.size = nL) :
    va_Run p l e R s m args below meth c H locs cells slots mc ms (F0 m pc ls (As.reverse ++ .ref (ad f0 i0) :: rest)) rest (Qc (Value.ref (ad f0 i0) :: As).toArray) (zA ad ok H.size) := by
  have hts := hC.1.2.2.2.2
  have cw : va_CN R s args own index y hL.1.choose bytes maxL ret (zws y bytes maxL ret) (zrm d mc ms) mc ms n ∧ (Cond.instanceMethod y).before args s = true ∧ (Cond.selects y.cls y y).before args s = true := ⟨va_cnB n hts (z_gw (hL.2.1 _ (by simp))) rfl rfl rfl (hC.2.2.2.2.2 _ hL.1.choose_spec) (hts _ (hL.2.1 _ (by simp))) hL.2.2 hR, hts _ (hL.2.1 _ (by simp)), hts _ (hL.2.1 _ (by simp))⟩
  exact va_runVN (As := As) (rest := rest) hC.1 hM cw ⟨zPre_blind, z_recv hC hw ht hci ho, fun U hU hW2 => ⟨rfl, by rw [hU], by rw [hU]; exact hw, va_K.moved hW2.alike hC.2.1, znl_moved hW2 hC.2.2.2.2.2⟩⟩ rfl hn hl rfl (lv_room hW) hdg hf
theorem z_runSN (hC : zC p s m args c D tys ad ok A H0 cc nL own) (hL : zLSN own index y bytes maxL ret n) {Qc : Array Value → State → Outcome → State → Prop} {H : Heap} {locs : List Loc} {ls : Array Slot} (hM : Met l y (zws y bytes maxL ret) (zrm d mc ms) (zPre D tys ad ok tm As M H.size) Qc mc ms (zA ad ok H.size)) (hn : As.length = n) (hW : (rest.map fun v => v.category).sum ≤ 8) (hR : d + 1 ≤ R.frames ∧ 8 + (maxL + 11) + 40 * d ≤ R.locals) (hf : cells + mc ≤ R.cells ∧ slots + ms ≤ R.slots) (hdg : decode cc pc = .ok (.invokestatic index, 3)) (hw : zH D ad ok tm M H) (hl : ls.size = nL) :
    va_Run p l e R s m args below meth c H locs cells slots mc ms (F0 m pc ls (As.reverse ++ rest)) rest (Qc As.toArray) (zA ad ok H.size) := by
  have hts := hC.1.2.2.2.2
  have cw : va_CN R s args own index y hL.1.choose bytes maxL ret (zws y bytes maxL ret) (zrm d mc ms) mc ms n ∧ (Cond.static y).before args s = true ∧ True := ⟨va_cnB n hts (z_gw (hL.2.1 _ (by simp))) rfl rfl rfl (hC.2.2.2.2.2 _ hL.1.choose_spec) (hts _ (hL.2.1 _ (by simp))) hL.2.2 hR, hts _ (hL.2.1 _ (by simp)), trivial⟩
  exact va_runSN (As := As) (rest := rest) hC.1 hM cw ⟨zPre_blind, fun U hU hW2 => ⟨rfl, by rw [hU], by rw [hU]; exact hw, va_K.moved hW2.alike hC.2.1, znl_moved hW2 hC.2.2.2.2.2⟩⟩ rfl hn hl rfl (lv_room hW) hdg hf
theorem z_callVi (hC : zC p s m args c D tys ad ok A H0 cc nL own) (hL : zLV own index y bytes maxL ret n) {f0 i0 ci : Nat} {lt : List (Option Value)} {T : u_T} {N : Nat} {r : Int} (hM : zMi l y bytes maxL ret d D tys ad ok tm (.ref (ad f0 i0) :: As) M r M' mc ms) (ht : tm f0 i0 = .inl (ci, lt)) (hci : vwCl[ci]? = some (y.cls, T, N)) (ho : ok f0 i0) (hst : St = As.reverse ++ .ref (ad f0 i0) :: rest) (hn : As.length = n) (hW : (rest.map fun v => v.category).sum ≤ 8) (hR : d + 1 ≤ R.frames ∧ 8 + (maxL + 11) + 40 * d ≤ R.locals) (hf : cells + mc ≤ R.cells ∧ slots + ms ≤ R.slots) (hdg : decode cc pc = .ok (.invokevirtual index, 3)) (kk : zV p l e R s m args below meth c Q D ad ok tm A H0 nL (cells + mc) (slots + ms) M' L (pc + 3) (iv r :: rest)) : zV p l e R s m args below meth c Q D ad ok tm A H0 nL cells slots M L pc St := by
  intro H locs ls hw hS hl
  subst hst
  refine va_calli (z_runV hC hL (hM H.size) ht hci ho hn hW hR hf hdg hw hl.1) hS (fun q _ h => z_free hC hS q h) (z_free hC hS) (fun r2 u t H1 locs1 ht1 hvm hr hB hz1 hk1 hS1 => ?_)
  subst hr
  rw [ht1] at hB
  exact kk H1 locs1 ls hB hS1 hl
theorem z_callViN (hC : zC p s m args c D tys ad ok A H0 cc nL own) (hL : zLVN own index y bytes maxL ret n) {f0 i0 ci : Nat} {lt : List (Option Value)} {T : u_T} {N : Nat} {r : Int} (hM : zMi l y bytes maxL ret d D tys ad ok tm (.ref (ad f0 i0) :: As) M r M' mc ms) (ht : tm f0 i0 = .inl (ci, lt)) (hci : vwCl[ci]? = some (y.cls, T, N)) (ho : ok f0 i0) (hst : St = As.reverse ++ .ref (ad f0 i0) :: rest) (hn : As.length = n) (hW : (rest.map fun v => v.category).sum ≤ 8) (hR : d + 1 ≤ R.frames ∧ 8 + (maxL + 11) + 40 * d ≤ R.locals) (hf : cells + mc ≤ R.cells ∧ slots + ms ≤ R.slots) (hdg : decode cc pc = .ok (.invokevirtual index, 3)) (kk : zV p l e R s m args below meth c Q D ad ok tm A H0 nL (cells + mc) (slots + ms) M' L (pc + 3) (iv r :: rest)) : zV p l e R s m args below meth c Q D ad ok tm A H0 nL cells slots M L pc St := by
  intro H locs ls hw hS hl
  subst hst
  refine va_calli (z_runVN hC hL (hM H.size) ht hci ho hn hW hR hf hdg hw hl.1) hS (fun q _ h => z_free hC hS q h) (z_free hC hS) (fun r2 u t H1 locs1 ht1 hvm hr hB hz1 hk1 hS1 => ?_)
  subst hr
  rw [ht1] at hB
  exact kk H1 locs1 ls hB hS1 hl
theorem z_callVl (hC : zC p s m args c D tys ad ok A H0 cc nL own) (hL : zLV own index y bytes maxL ret n) {f0 i0 ci : Nat} {lt : List (Option Value)} {T : u_T} {N : Nat} {r : Int64} (hM : zMl l y bytes maxL ret d D tys ad ok tm (.ref (ad f0 i0) :: As) M r M' mc ms) (ht : tm f0 i0 = .inl (ci, lt)) (hci : vwCl[ci]? = some (y.cls, T, N)) (ho : ok f0 i0) (hst : St = As.reverse ++ .ref (ad f0 i0) :: rest) (hn : As.length = n) (hW : (rest.map fun v => v.category).sum ≤ 8) (hR : d + 1 ≤ R.frames ∧ 8 + (maxL + 11) + 40 * d ≤ R.locals) (hf : cells + mc ≤ R.cells ∧ slots + ms ≤ R.slots) (hdg : decode cc pc = .ok (.invokevirtual index, 3)) (kk : zV p l e R s m args below meth c Q D ad ok tm A H0 nL (cells + mc) (slots + ms) M' L (pc + 3) (.long r :: rest)) : zV p l e R s m args below meth c Q D ad ok tm A H0 nL cells slots M L pc St := by
  intro H locs ls hw hS hl
  subst hst
  refine va_calll (z_runV hC hL (hM H.size) ht hci ho hn hW hR hf hdg hw hl.1) hS (fun q _ h => z_free hC hS q h) (z_free hC hS) (fun r2 u t H1 locs1 ht1 hvm hr hB hz1 hk1 hS1 => ?_)
  subst hr
  rw [ht1] at hB
  exact kk H1 locs1 ls hB hS1 hl
theorem z_callVlN (hC : zC p s m args c D tys ad ok A H0 cc nL own) (hL : zLVN own index y bytes maxL ret n) {f0 i0 ci : Nat} {lt : List (Option Value)} {T : u_T} {N : Nat} {r : Int64} (hM : zMl l y bytes maxL ret d D tys ad ok tm (.ref (ad f0 i0) :: As) M r M' mc ms) (ht : tm f0 i0 = .inl (ci, lt)) (hci : vwCl[ci]? = some (y.cls, T, N)) (ho : ok f0 i0) (hst : St = As.reverse ++ .ref (ad f0 i0) :: rest) (hn : As.length = n) (hW : (rest.map fun v => v.category).sum ≤ 8) (hR : d + 1 ≤ R.frames ∧ 8 + (maxL + 11) + 40 * d ≤ R.locals) (hf : cells + mc ≤ R.cells ∧ slots + ms ≤ R.slots) (hdg : decode cc pc = .ok (.invokevirtual index, 3)) (kk : zV p l e R s m args below meth c Q D ad ok tm A H0 nL (cells + mc) (slots + ms) M' L (pc + 3) (.long r :: rest)) : zV p l e R s m args below meth c Q D ad ok tm A H0 nL cells slots M L pc St := by
  intro H locs ls hw hS hl
  subst hst
  refine va_calll (z_runVN hC hL (hM H.size) ht hci ho hn hW hR hf hdg hw hl.1) hS (fun q _ h => z_free hC hS q h) (z_free hC hS) (fun r2 u t H1 locs1 ht1 hvm hr hB hz1 hk1 hS1 => ?_)
  subst hr
  rw [ht1] at hB
  exact kk H1 locs1 ls hB hS1 hl
theorem z_callVv (hC : zC p s m args c D tys ad ok A H0 cc nL own) (hL : zLV own index y bytes maxL ret n) {f0 i0 ci : Nat} {lt : List (Option Value)} {T : u_T} {N : Nat} (hM : zMv l y bytes maxL ret d D tys ad ok tm (.ref (ad f0 i0) :: As) M M' mc ms) (ht : tm f0 i0 = .inl (ci, lt)) (hci : vwCl[ci]? = some (y.cls, T, N)) (ho : ok f0 i0) (hst : St = As.reverse ++ .ref (ad f0 i0) :: rest) (hn : As.length = n) (hW : (rest.map fun v => v.category).sum ≤ 8) (hR : d + 1 ≤ R.frames ∧ 8 + (maxL + 11) + 40 * d ≤ R.locals) (hf : cells + mc ≤ R.cells ∧ slots + ms ≤ R.slots) (hdg : decode cc pc = .ok (.invokevirtual index, 3)) (kk : zV p l e R s m args below meth c Q D ad ok tm A H0 nL (cells + mc) (slots + ms) M' L (pc + 3) rest) : zV p l e R s m args below meth c Q D ad ok tm A H0 nL cells slots M L pc St := by
  intro H locs ls hw hS hl
  subst hst
  refine va_callv (z_runV hC hL (hM H.size) ht hci ho hn hW hR hf hdg hw hl.1) hS (fun q _ h => z_free hC hS q h) (z_free hC hS) (fun u t H1 locs1 ht1 hvm hr hB hz1 hk1 hS1 => ?_)
  rw [ht1] at hB
  exact kk H1 locs1 ls hB hS1 hl
theorem z_callVvN (hC : zC p s m args c D tys ad ok A H0 cc nL own) (hL : zLVN own index y bytes maxL ret n) {f0 i0 ci : Nat} {lt : List (Option Value)} {T : u_T} {N : Nat} (hM : zMv l y bytes maxL ret d D tys ad ok tm (.ref (ad f0 i0) :: As) M M' mc ms) (ht : tm f0 i0 = .inl (ci, lt)) (hci : vwCl[ci]? = some (y.cls, T, N)) (ho : ok f0 i0) (hst : St = As.reverse ++ .ref (ad f0 i0) :: rest) (hn : As.length = n) (hW : (rest.map fun v => v.category).sum ≤ 8) (hR : d + 1 ≤ R.frames ∧ 8 + (maxL + 11) + 40 * d ≤ R.locals) (hf : cells + mc ≤ R.cells ∧ slots + ms ≤ R.slots) (hdg : decode cc pc = .ok (.invokevirtual index, 3)) (kk : zV p l e R s m args below meth c Q D ad ok tm A H0 nL (cells + mc) (slots + ms) M' L (pc + 3) rest) : zV p l e R s m args below meth c Q D ad ok tm A H0 nL cells slots M L pc St := by
  intro H locs ls hw hS hl
  subst hst
  refine va_callv (z_runVN hC hL (hM H.size) ht hci ho hn hW hR hf hdg hw hl.1) hS (fun q _ h => z_free hC hS q h) (z_free hC hS) (fun u t H1 locs1 ht1 hvm hr hB hz1 hk1 hS1 => ?_)
  rw [ht1] at hB
  exact kk H1 locs1 ls hB hS1 hl
theorem z_callSi (hC : zC p s m args c D tys ad ok A H0 cc nL own) (hL : zLS own index y bytes maxL ret n) {r : Int} (hM : zMi l y bytes maxL ret d D tys ad ok tm As M r M' mc ms) (hst : St = As.reverse ++ rest) (hn : As.length = n) (hW : (rest.map fun v => v.category).sum ≤ 8) (hR : d + 1 ≤ R.frames ∧ 8 + (maxL + 11) + 40 * d ≤ R.locals) (hf : cells + mc ≤ R.cells ∧ slots + ms ≤ R.slots) (hdg : decode cc pc = .ok (.invokestatic index, 3)) (kk : zV p l e R s m args below meth c Q D ad ok tm A H0 nL (cells + mc) (slots + ms) M' L (pc + 3) (iv r :: rest)) : zV p l e R s m args below meth c Q D ad ok tm A H0 nL cells slots M L pc St := by
  intro H locs ls hw hS hl
  subst hst
  refine va_calli (z_runS hC hL (hM H.size) hn hW hR hf hdg hw hl.1) hS (fun q _ h => z_free hC hS q h) (z_free hC hS) (fun r2 u t H1 locs1 ht1 hvm hr hB hz1 hk1 hS1 => ?_)
  subst hr
  rw [ht1] at hB
  exact kk H1 locs1 ls hB hS1 hl
theorem z_callSiN (hC : zC p s m args c D tys ad ok A H0 cc nL own) (hL : zLSN own index y bytes maxL ret n) {r : Int} (hM : zMi l y bytes maxL ret d D tys ad ok tm As M r M' mc ms) (hst : St = As.reverse ++ rest) (hn : As.length = n) (hW : (rest.map fun v => v.category).sum ≤ 8) (hR : d + 1 ≤ R.frames ∧ 8 + (maxL + 11) + 40 * d ≤ R.locals) (hf : cells + mc ≤ R.cells ∧ slots + ms ≤ R.slots) (hdg : decode cc pc = .ok (.invokestatic index, 3)) (kk : zV p l e R s m args below meth c Q D ad ok tm A H0 nL (cells + mc) (slots + ms) M' L (pc + 3) (iv r :: rest)) : zV p l e R s m args below meth c Q D ad ok tm A H0 nL cells slots M L pc St := by
  intro H locs ls hw hS hl
  subst hst
  refine va_calli (z_runSN hC hL (hM H.size) hn hW hR hf hdg hw hl.1) hS (fun q _ h => z_free hC hS q h) (z_free hC hS) (fun r2 u t H1 locs1 ht1 hvm hr hB hz1 hk1 hS1 => ?_)
  subst hr
  rw [ht1] at hB
  exact kk H1 locs1 ls hB hS1 hl
/-! ends -/
theorem z_iret (hC : zC p s m args c D tys ad ok A s.heap cc nL own) {r r' : Int} {ty : FieldType} (hr : meth.sig.returnType = some ty) (hlocks : meth.locks = false) (hn : narrow ty (iv r') = iv r') (hrr : r' = r) (hMM : M = M') (hdg : decode cc pc = .ok (.ireturn, 1)) : zV p l e R s m args below meth c (MQ below (zQi D ad ok tm r M' A) args s cells slots A) D ad ok tm A s.heap nL cells slots M L pc [iv r'] := by
  intro H locs ls hw hS hl
  subst hrr; subst hMM
  exact W.zret hC.1.1 hC.1.2.1 hr hn (fun t ht hW => ⟨⟨_, (), rfl, rfl, by show zH D ad ok tm M t.heap; rw [ht]; exact hw⟩, hS.F ht⟩) hS.2.2 hdg hlocks
theorem z_lret (hC : zC p s m args c D tys ad ok A s.heap cc nL own) {r r' : Int64} (hr : meth.sig.returnType = some .long) (hlocks : meth.locks = false) (hrr : r' = r) (hMM : M = M') (hdg : decode cc pc = .ok (.lreturn, 1)) : zV p l e R s m args below meth c (MQ below (zQl D ad ok tm r M' A) args s cells slots A) D ad ok tm A s.heap nL cells slots M L pc [.long r'] := by
  intro H locs ls hw hS hl
  subst hrr; subst hMM
  exact W.lret hC.1.1 hC.1.2.1 hr (fun t ht hW => ⟨⟨_, (), rfl, rfl, by show zH D ad ok tm M t.heap; rw [ht]; exact hw⟩, hS.F ht⟩) hS.2.2 hdg hlocks
theorem z_dret (hC : zC p s m args c D tys ad ok A s.heap cc nL own) {r r' : UInt64} (hr : meth.sig.returnType = some .double) (hlocks : meth.locks = false) (hrr : r' = r) (hMM : M = M') (hdg : decode cc pc = .ok (.dreturn, 1)) : zV p l e R s m args below meth c (MQ below (zQd D ad ok tm r M' A) args s cells slots A) D ad ok tm A s.heap nL cells slots M L pc [.double r'] := by
  intro H locs ls hw hS hl
  subst hrr; subst hMM
  exact W.dret hC.1.1 hC.1.2.1 hr (fun t ht hW => ⟨⟨_, (), rfl, rfl, by show zH D ad ok tm M t.heap; rw [ht]; exact hw⟩, hS.F ht⟩) hS.2.2 hdg hlocks
theorem z_vret (hC : zC p s m args c D tys ad ok A s.heap cc nL own) (hr : meth.sig.returnType = none) (hlocks : meth.locks = false) (hMM : M = M') (hdg : decode cc pc = .ok (.return_, 1)) : zV p l e R s m args below meth c (MQ below (zQv D ad ok tm M' A) args s cells slots A) D ad ok tm A s.heap nL cells slots M L pc [] := by
  intro H locs ls hw hS hl
  subst hMM
  exact W.vret hC.1.1 hC.1.2.1 hr (fun t ht hW => ⟨⟨(), rfl, trivial, by show zH D ad ok tm M t.heap; rw [ht]; exact hw⟩, hS.F ht⟩) hS.2.2 hdg hlocks
end ZCALL
end
section
/-! the world C: families of cells -/
def szC : Nat → Nat := fun f => match f with
  | 0 => 1
  | 1 => 1
  | 2 => 1
  | 3 => 1
  | 4 => 1
  | 5 => 1
  | 6 => 8
  | 7 => 12
  | 8 => 12
  | 9 => 13
  | 10 => 13
  | 11 => 13
  | 12 => 2
  | 13 => 2
  | 14 => 2
  | 15 => 2
  | 16 => 24
  | 17 => 24
  | 18 => 24
  | 19 => 24
  | _ => 0
def okC (f i : Nat) : Prop := i < szC f
def tmC (ad : Nat → Nat → Nat) (tc : Nat → ClassId) : Nat → Nat → zT := fun f i => match f with
  | 0 => .inl (8, [some (.ref (ad 1 (0))), some (.ref (ad 12 (0))), some (.ref (ad 12 (1))), some (.ref (ad 9 (12)))])
  | 1 => .inl (0, [some (.ref (ad 2 (0))), some (.ref (ad 3 (0))), some (.ref (ad 4 (0))), some (.ref (ad 5 (0))), none, none, none])
  | 2 => .inr (.inr (tc 1, 8, fun k => ad 6 (k)))
  | 3 => .inr (.inr (tc 2, 12, fun k => ad 7 (k)))
  | 4 => .inr (.inr (tc 3, 12, fun k => ad 8 (k)))
  | 5 => .inr (.inl (tc 0, 12))
  | 6 => .inl (2, [none, none, none])
  | 7 => .inl (1, [none, none, none, none, none])
  | 8 => .inl (3, [some (.ref (ad 9 (i))), none, none, none])
  | 9 => .inl (4, [some (.ref (ad 10 (i))), some (.ref (ad 11 (i)))])
  | 10 => .inr (.inl (tc 0, 8))
  | 11 => .inr (.inl (tc 0, 8))
  | 12 => .inl (5, [some (.ref (ad 1 (0))), some (.ref (ad 13 (i))), some (.ref (ad 14 (i))), some (.ref (ad 15 (i))), none, none])
  | 13 => .inr (.inr (tc 4, 12, fun k => ad 16 (12 * i + k)))
  | 14 => .inr (.inr (tc 5, 12, fun k => ad 17 (12 * i + k)))
  | 15 => .inr (.inl (tc 0, 12))
  | 16 => .inl (6, [none, none, none, none, none, none])
  | 17 => .inl (7, [none, none, some (.ref (ad 18 (i))), some (.ref (ad 19 (i))), none, none])
  | 18 => .inr (.inl (tc 0, 3))
  | 19 => .inr (.inl (tc 0, 3))
  | _ => .inl (0, [])
def tysC (tc : Nat → ClassId) : List (ClassId × FieldType) := [(tc 0, .int), (tc 1, .object "ZipCanopy$Platform"), (tc 2, .object "ZipCanopy$Line"), (tc 3, .object "ZipCanopy$Rider"), (tc 4, .object "ZipCanopy$Trip"), (tc 5, .object "ZipCanopy$Trolleys")]
theorem tmC_0 (ad : Nat → Nat → Nat) (tc : Nat → ClassId) (i : Nat) : tmC ad tc 0 i = .inl (8, [some (.ref (ad 1 (0))), some (.ref (ad 12 (0))), some (.ref (ad 12 (1))), some (.ref (ad 9 (12)))]) := rfl
theorem okC_0 {i : Nat} (h : i < 1) : okC 0 i := h
theorem tmC_1 (ad : Nat → Nat → Nat) (tc : Nat → ClassId) (i : Nat) : tmC ad tc 1 i = .inl (0, [some (.ref (ad 2 (0))), some (.ref (ad 3 (0))), some (.ref (ad 4 (0))), some (.ref (ad 5 (0))), none, none, none]) := rfl
theorem okC_1 {i : Nat} (h : i < 1) : okC 1 i := h
theorem tmC_2 (ad : Nat → Nat → Nat) (tc : Nat → ClassId) (i : Nat) : tmC ad tc 2 i = .inr (.inr (tc 1, 8, fun k => ad 6 (k))) := rfl
theorem okC_2 {i : Nat} (h : i < 1) : okC 2 i := h
theorem tmC_3 (ad : Nat → Nat → Nat) (tc : Nat → ClassId) (i : Nat) : tmC ad tc 3 i = .inr (.inr (tc 2, 12, fun k => ad 7 (k))) := rfl
theorem okC_3 {i : Nat} (h : i < 1) : okC 3 i := h
theorem tmC_4 (ad : Nat → Nat → Nat) (tc : Nat → ClassId) (i : Nat) : tmC ad tc 4 i = .inr (.inr (tc 3, 12, fun k => ad 8 (k))) := rfl
theorem okC_4 {i : Nat} (h : i < 1) : okC 4 i := h
theorem tmC_5 (ad : Nat → Nat → Nat) (tc : Nat → ClassId) (i : Nat) : tmC ad tc 5 i = .inr (.inl (tc 0, 12)) := rfl
theorem okC_5 {i : Nat} (h : i < 1) : okC 5 i := h
theorem tmC_6 (ad : Nat → Nat → Nat) (tc : Nat → ClassId) (i : Nat) : tmC ad tc 6 i = .inl (2, [none, none, none]) := rfl
theorem okC_6 {i : Nat} (h : i < 8) : okC 6 i := h
theorem tmC_7 (ad : Nat → Nat → Nat) (tc : Nat → ClassId) (i : Nat) : tmC ad tc 7 i = .inl (1, [none, none, none, none, none]) := rfl
theorem okC_7 {i : Nat} (h : i < 12) : okC 7 i := h
theorem tmC_8 (ad : Nat → Nat → Nat) (tc : Nat → ClassId) (i : Nat) : tmC ad tc 8 i = .inl (3, [some (.ref (ad 9 (i))), none, none, none]) := rfl
theorem okC_8 {i : Nat} (h : i < 12) : okC 8 i := h
theorem tmC_9 (ad : Nat → Nat → Nat) (tc : Nat → ClassId) (i : Nat) : tmC ad tc 9 i = .inl (4, [some (.ref (ad 10 (i))), some (.ref (ad 11 (i)))]) := rfl
theorem okC_9 {i : Nat} (h : i < 13) : okC 9 i := h
theorem tmC_10 (ad : Nat → Nat → Nat) (tc : Nat → ClassId) (i : Nat) : tmC ad tc 10 i = .inr (.inl (tc 0, 8)) := rfl
theorem okC_10 {i : Nat} (h : i < 13) : okC 10 i := h
theorem tmC_11 (ad : Nat → Nat → Nat) (tc : Nat → ClassId) (i : Nat) : tmC ad tc 11 i = .inr (.inl (tc 0, 8)) := rfl
theorem okC_11 {i : Nat} (h : i < 13) : okC 11 i := h
theorem tmC_12 (ad : Nat → Nat → Nat) (tc : Nat → ClassId) (i : Nat) : tmC ad tc 12 i = .inl (5, [some (.ref (ad 1 (0))), some (.ref (ad 13 (i))), some (.ref (ad 14 (i))), some (.ref (ad 15 (i))), none, none]) := rfl
theorem okC_12 {i : Nat} (h : i < 2) : okC 12 i := h
theorem tmC_13 (ad : Nat → Nat → Nat) (tc : Nat → ClassId) (i : Nat) : tmC ad tc 13 i = .inr (.inr (tc 4, 12, fun k => ad 16 (12 * i + k))) := rfl
theorem okC_13 {i : Nat} (h : i < 2) : okC 13 i := h
theorem tmC_14 (ad : Nat → Nat → Nat) (tc : Nat → ClassId) (i : Nat) : tmC ad tc 14 i = .inr (.inr (tc 5, 12, fun k => ad 17 (12 * i + k))) := rfl
theorem okC_14 {i : Nat} (h : i < 2) : okC 14 i := h
theorem tmC_15 (ad : Nat → Nat → Nat) (tc : Nat → ClassId) (i : Nat) : tmC ad tc 15 i = .inr (.inl (tc 0, 12)) := rfl
theorem okC_15 {i : Nat} (h : i < 2) : okC 15 i := h
theorem tmC_16 (ad : Nat → Nat → Nat) (tc : Nat → ClassId) (i : Nat) : tmC ad tc 16 i = .inl (6, [none, none, none, none, none, none]) := rfl
theorem okC_16 {i : Nat} (h : i < 24) : okC 16 i := h
theorem tmC_17 (ad : Nat → Nat → Nat) (tc : Nat → ClassId) (i : Nat) : tmC ad tc 17 i = .inl (7, [none, none, some (.ref (ad 18 (i))), some (.ref (ad 19 (i))), none, none]) := rfl
theorem okC_17 {i : Nat} (h : i < 24) : okC 17 i := h
theorem tmC_18 (ad : Nat → Nat → Nat) (tc : Nat → ClassId) (i : Nat) : tmC ad tc 18 i = .inr (.inl (tc 0, 3)) := rfl
theorem okC_18 {i : Nat} (h : i < 24) : okC 18 i := h
theorem tmC_19 (ad : Nat → Nat → Nat) (tc : Nat → ClassId) (i : Nat) : tmC ad tc 19 i = .inr (.inl (tc 0, 3)) := rfl
theorem okC_19 {i : Nat} (h : i < 24) : okC 19 i := h
theorem tysC_0 (tc : Nat → ClassId) : (tysC tc)[0]? = some (tc 0, .int) := rfl
theorem tysC_1 (tc : Nat → ClassId) : (tysC tc)[1]? = some (tc 1, .object "ZipCanopy$Platform") := rfl
theorem tysC_2 (tc : Nat → ClassId) : (tysC tc)[2]? = some (tc 2, .object "ZipCanopy$Line") := rfl
theorem tysC_3 (tc : Nat → ClassId) : (tysC tc)[3]? = some (tc 3, .object "ZipCanopy$Rider") := rfl
theorem tysC_4 (tc : Nat → ClassId) : (tysC tc)[4]? = some (tc 4, .object "ZipCanopy$Trip") := rfl
theorem tysC_5 (tc : Nat → ClassId) : (tysC tc)[5]? = some (tc 5, .object "ZipCanopy$Trolleys") := rfl
/-! the world M: families of cells -/
def szM : Nat → Nat := fun f => match f with
  | 0 => 1
  | 1 => 1
  | 2 => 1
  | 3 => 1
  | 4 => 1
  | 5 => 1
  | 6 => 1
  | 7 => 1
  | 8 => 1
  | 9 => 1
  | 10 => 1
  | 11 => 2
  | 12 => 2
  | 13 => 2
  | 14 => 2
  | 15 => 2
  | 16 => 2
  | 17 => 2
  | 18 => 2
  | 19 => 2
  | 20 => 2
  | 21 => 2
  | 22 => 2
  | 23 => 2
  | 24 => 2
  | _ => 0
def okM (f i : Nat) : Prop := i < szM f
def tmM (ad : Nat → Nat → Nat) (tc : Nat → ClassId) : Nat → Nat → zT := fun f i => match f with
  | 0 => .inl (10, [none, none, some (.ref (ad 1 (0))), some (.ref (ad 2 (0))), some (.ref (ad 3 (0))), none, some (.ref (ad 4 (0))), some (.ref (ad 5 (0))), some (.ref (ad 6 (0))), some (.ref (ad 7 (0))), none, some (.ref (ad 8 (0))), some (.ref (ad 9 (0))), some (.ref (ad 10 (0))), some (.ref (ad 11 (0))), some (.ref (ad 11 (1)))])
  | 1 => .inr (.inl (tc 0, 8))
  | 2 => .inr (.inl (tc 0, 8))
  | 3 => .inr (.inl (tc 0, 8))
  | 4 => .inr (.inl (tc 0, 12))
  | 5 => .inr (.inl (tc 0, 12))
  | 6 => .inr (.inl (tc 0, 12))
  | 7 => .inr (.inl (tc 0, 12))
  | 8 => .inr (.inl (tc 0, 12))
  | 9 => .inr (.inl (tc 0, 12))
  | 10 => .inr (.inl (tc 0, 12))
  | 11 => .inl (9, [none, some (.ref (ad 12 (i))), some (.ref (ad 13 (i))), some (.ref (ad 14 (i))), some (.ref (ad 15 (i))), some (.ref (ad 16 (i))), some (.ref (ad 17 (i))), some (.ref (ad 18 (i))), some (.ref (ad 19 (i))), some (.ref (ad 20 (i))), some (.ref (ad 21 (i))), some (.ref (ad 22 (i))), some (.ref (ad 23 (i))), some (.ref (ad 24 (i))), some (.ref (ad 0 (0)))])
  | 12 => .inr (.inl (tc 0, 12))
  | 13 => .inr (.inl (tc 0, 12))
  | 14 => .inr (.inl (tc 0, 36))
  | 15 => .inr (.inl (tc 0, 36))
  | 16 => .inr (.inl (tc 0, 12))
  | 17 => .inr (.inl (tc 0, 12))
  | 18 => .inr (.inl (tc 0, 8))
  | 19 => .inr (.inl (tc 0, 96))
  | 20 => .inr (.inl (tc 0, 12))
  | 21 => .inr (.inl (tc 0, 12))
  | 22 => .inr (.inl (tc 0, 12))
  | 23 => .inr (.inl (tc 0, 12))
  | 24 => .inr (.inl (tc 0, 12))
  | _ => .inl (0, [])
def tysM (tc : Nat → ClassId) : List (ClassId × FieldType) := [(tc 0, .int)]
theorem tmM_0 (ad : Nat → Nat → Nat) (tc : Nat → ClassId) (i : Nat) : tmM ad tc 0 i = .inl (10, [none, none, some (.ref (ad 1 (0))), some (.ref (ad 2 (0))), some (.ref (ad 3 (0))), none, some (.ref (ad 4 (0))), some (.ref (ad 5 (0))), some (.ref (ad 6 (0))), some (.ref (ad 7 (0))), none, some (.ref (ad 8 (0))), some (.ref (ad 9 (0))), some (.ref (ad 10 (0))), some (.ref (ad 11 (0))), some (.ref (ad 11 (1)))]) := rfl
theorem okM_0 {i : Nat} (h : i < 1) : okM 0 i := h
theorem tmM_1 (ad : Nat → Nat → Nat) (tc : Nat → ClassId) (i : Nat) : tmM ad tc 1 i = .inr (.inl (tc 0, 8)) := rfl
theorem okM_1 {i : Nat} (h : i < 1) : okM 1 i := h
theorem tmM_2 (ad : Nat → Nat → Nat) (tc : Nat → ClassId) (i : Nat) : tmM ad tc 2 i = .inr (.inl (tc 0, 8)) := rfl
theorem okM_2 {i : Nat} (h : i < 1) : okM 2 i := h
theorem tmM_3 (ad : Nat → Nat → Nat) (tc : Nat → ClassId) (i : Nat) : tmM ad tc 3 i = .inr (.inl (tc 0, 8)) := rfl
theorem okM_3 {i : Nat} (h : i < 1) : okM 3 i := h
theorem tmM_4 (ad : Nat → Nat → Nat) (tc : Nat → ClassId) (i : Nat) : tmM ad tc 4 i = .inr (.inl (tc 0, 12)) := rfl
theorem okM_4 {i : Nat} (h : i < 1) : okM 4 i := h
theorem tmM_5 (ad : Nat → Nat → Nat) (tc : Nat → ClassId) (i : Nat) : tmM ad tc 5 i = .inr (.inl (tc 0, 12)) := rfl
theorem okM_5 {i : Nat} (h : i < 1) : okM 5 i := h
theorem tmM_6 (ad : Nat → Nat → Nat) (tc : Nat → ClassId) (i : Nat) : tmM ad tc 6 i = .inr (.inl (tc 0, 12)) := rfl
theorem okM_6 {i : Nat} (h : i < 1) : okM 6 i := h
theorem tmM_7 (ad : Nat → Nat → Nat) (tc : Nat → ClassId) (i : Nat) : tmM ad tc 7 i = .inr (.inl (tc 0, 12)) := rfl
theorem okM_7 {i : Nat} (h : i < 1) : okM 7 i := h
theorem tmM_8 (ad : Nat → Nat → Nat) (tc : Nat → ClassId) (i : Nat) : tmM ad tc 8 i = .inr (.inl (tc 0, 12)) := rfl
theorem okM_8 {i : Nat} (h : i < 1) : okM 8 i := h
theorem tmM_9 (ad : Nat → Nat → Nat) (tc : Nat → ClassId) (i : Nat) : tmM ad tc 9 i = .inr (.inl (tc 0, 12)) := rfl
theorem okM_9 {i : Nat} (h : i < 1) : okM 9 i := h
theorem tmM_10 (ad : Nat → Nat → Nat) (tc : Nat → ClassId) (i : Nat) : tmM ad tc 10 i = .inr (.inl (tc 0, 12)) := rfl
theorem okM_10 {i : Nat} (h : i < 1) : okM 10 i := h
theorem tmM_11 (ad : Nat → Nat → Nat) (tc : Nat → ClassId) (i : Nat) : tmM ad tc 11 i = .inl (9, [none, some (.ref (ad 12 (i))), some (.ref (ad 13 (i))), some (.ref (ad 14 (i))), some (.ref (ad 15 (i))), some (.ref (ad 16 (i))), some (.ref (ad 17 (i))), some (.ref (ad 18 (i))), some (.ref (ad 19 (i))), some (.ref (ad 20 (i))), some (.ref (ad 21 (i))), some (.ref (ad 22 (i))), some (.ref (ad 23 (i))), some (.ref (ad 24 (i))), some (.ref (ad 0 (0)))]) := rfl
theorem okM_11 {i : Nat} (h : i < 2) : okM 11 i := h
theorem tmM_12 (ad : Nat → Nat → Nat) (tc : Nat → ClassId) (i : Nat) : tmM ad tc 12 i = .inr (.inl (tc 0, 12)) := rfl
theorem okM_12 {i : Nat} (h : i < 2) : okM 12 i := h
theorem tmM_13 (ad : Nat → Nat → Nat) (tc : Nat → ClassId) (i : Nat) : tmM ad tc 13 i = .inr (.inl (tc 0, 12)) := rfl
theorem okM_13 {i : Nat} (h : i < 2) : okM 13 i := h
theorem tmM_14 (ad : Nat → Nat → Nat) (tc : Nat → ClassId) (i : Nat) : tmM ad tc 14 i = .inr (.inl (tc 0, 36)) := rfl
theorem okM_14 {i : Nat} (h : i < 2) : okM 14 i := h
theorem tmM_15 (ad : Nat → Nat → Nat) (tc : Nat → ClassId) (i : Nat) : tmM ad tc 15 i = .inr (.inl (tc 0, 36)) := rfl
theorem okM_15 {i : Nat} (h : i < 2) : okM 15 i := h
theorem tmM_16 (ad : Nat → Nat → Nat) (tc : Nat → ClassId) (i : Nat) : tmM ad tc 16 i = .inr (.inl (tc 0, 12)) := rfl
theorem okM_16 {i : Nat} (h : i < 2) : okM 16 i := h
theorem tmM_17 (ad : Nat → Nat → Nat) (tc : Nat → ClassId) (i : Nat) : tmM ad tc 17 i = .inr (.inl (tc 0, 12)) := rfl
theorem okM_17 {i : Nat} (h : i < 2) : okM 17 i := h
theorem tmM_18 (ad : Nat → Nat → Nat) (tc : Nat → ClassId) (i : Nat) : tmM ad tc 18 i = .inr (.inl (tc 0, 8)) := rfl
theorem okM_18 {i : Nat} (h : i < 2) : okM 18 i := h
theorem tmM_19 (ad : Nat → Nat → Nat) (tc : Nat → ClassId) (i : Nat) : tmM ad tc 19 i = .inr (.inl (tc 0, 96)) := rfl
theorem okM_19 {i : Nat} (h : i < 2) : okM 19 i := h
theorem tmM_20 (ad : Nat → Nat → Nat) (tc : Nat → ClassId) (i : Nat) : tmM ad tc 20 i = .inr (.inl (tc 0, 12)) := rfl
theorem okM_20 {i : Nat} (h : i < 2) : okM 20 i := h
theorem tmM_21 (ad : Nat → Nat → Nat) (tc : Nat → ClassId) (i : Nat) : tmM ad tc 21 i = .inr (.inl (tc 0, 12)) := rfl
theorem okM_21 {i : Nat} (h : i < 2) : okM 21 i := h
theorem tmM_22 (ad : Nat → Nat → Nat) (tc : Nat → ClassId) (i : Nat) : tmM ad tc 22 i = .inr (.inl (tc 0, 12)) := rfl
theorem okM_22 {i : Nat} (h : i < 2) : okM 22 i := h
theorem tmM_23 (ad : Nat → Nat → Nat) (tc : Nat → ClassId) (i : Nat) : tmM ad tc 23 i = .inr (.inl (tc 0, 12)) := rfl
theorem okM_23 {i : Nat} (h : i < 2) : okM 23 i := h
theorem tmM_24 (ad : Nat → Nat → Nat) (tc : Nat → ClassId) (i : Nat) : tmM ad tc 24 i = .inr (.inl (tc 0, 12)) := rfl
theorem okM_24 {i : Nat} (h : i < 2) : okM 24 i := h
theorem tysM_0 (tc : Nat → ClassId) : (tysM tc)[0]? = some (tc 0, .int) := rfl
end
section
/-! functions on the memory: what the leaf methods do -/
def zit {α : Type} (f : Nat → α → α) : Nat → α → α
  | 0, a => a
  | n + 1, a => f n (zit f n a)
theorem zit_fr {f : Nat → zM → zM} {g : Nat} (h : ∀ j M, f j M g = M g) (n : Nat) (M : zM) : zit f n M g = M g := by
  induction n with
  | zero => rfl
  | succ n ih => rw [zit, h, ih]
theorem zup_fr {M : zM} {f i k : Nat} {v : Int} {g : Nat} (h : g ≠ f) : zup M f i k v g = M g := by
  funext i' k'; simp [zup, h]
/-- how many j below n -/
def zcnt (P : Nat → Prop) [DecidablePred P] : Nat → Int
  | 0 => 0
  | n + 1 => zcnt P n + (if P n then 1 else 0)
theorem zcnt_le (P : Nat → Prop) [DecidablePred P] (n : Nat) : 0 ≤ zcnt P n ∧ zcnt P n ≤ n := by
  induction n with
  | zero => exact ⟨Int.le_refl _, Int.le_refl _⟩
  | succ n ih => simp only [zcnt]; split <;> omega
def rideC (len drop w : Int) : Int := if drop + w / 10 ≤ 0 then 0 else if w * drop < 10 * len then 2 * ((2 * len + (drop + w / 10) - 1) / (drop + w / 10)) else (2 * len + (drop + w / 10) - 1) / (drop + w / 10)
theorem zi_xor {a b : Int} (ha : 0 ≤ a ∧ a < 2147483648) (hb : 0 ≤ b ∧ b < 2147483648) : 0 ≤ (Int32.ofInt a ^^^ Int32.ofInt b).toInt ∧ (Int32.ofInt a ^^^ Int32.ofInt b).toInt < 2147483648 := by
  refine ⟨?_, Int32.toInt_lt _⟩
  have h1 : ¬ (Int32.ofInt a).toBitVec.toInt < 0 := by show ¬ (Int32.ofInt a).toInt < 0; rw [zi_toInt (by omega)]; omega
  have h2 : ¬ (Int32.ofInt b).toBitVec.toInt < 0 := by show ¬ (Int32.ofInt b).toInt < 0; rw [zi_toInt (by omega)]; omega
  have m1 := BitVec.msb_eq_toInt (x := (Int32.ofInt a).toBitVec)
  have m2 := BitVec.msb_eq_toInt (x := (Int32.ofInt b).toBitVec)
  have m3 := BitVec.msb_eq_toInt (x := (Int32.ofInt a).toBitVec ^^^ (Int32.ofInt b).toBitVec)
  rw [BitVec.msb_xor, m1, m2, decide_eq_false h1, decide_eq_false h2] at m3
  have h3 := of_decide_eq_false m3.symm
  show 0 ≤ ((Int32.ofInt a).toBitVec ^^^ (Int32.ofInt b).toBitVec).toInt
  omega
def absC (a : Int) : Int := if 0 ≤ a then a else -a
def tcpStep (i o : Nat) (j : Nat) (M : zM) : zM := zup (zup M 18 i j (M 18 o j)) 19 i j (M 19 o j)
def tcpN (M : zM) (i o n : Nat) : zM := zit (tcpStep i o) n M
theorem tcpN_fr {M : zM} {i o n f : Nat} (h : ¬ (f = 18 ∨ f = 19)) : tcpN M i o n f = M f := zit_fr (fun j M => by rw [tcpStep, zup_fr (by omega), zup_fr (by omega)]) n M
def tcp (M : zM) (i o : Nat) : zM := zup (zup (tcpN (zup (zup M 17 i 0 (M 17 o 0)) 17 i 1 (M 17 o 1)) i o (M 17 o 1).toNat) 17 i 4 (M 17 o 4)) 17 i 5 (M 17 o 5)
def dropS (i : Nat) (j : Nat) (p : zM × Nat) : zM × Nat := if p.1 19 i j ≤ 0 then p else (zup (zup p.1 18 i p.2 (p.1 18 i j)) 19 i p.2 (p.1 19 i j), p.2 + 1)
def dropN (M : zM) (i n : Nat) : zM × Nat := zit (dropS i) n (M, 0)
theorem dropN_le (M : zM) (i n : Nat) : (dropN M i n).2 ≤ n := by
  induction n with
  | zero => exact Nat.le_refl _
  | succ n ih => simp only [dropN, zit, dropS] at ih ⊢; split <;> omega
theorem dropN_fr {M : zM} {i n f : Nat} (h : ¬ (f = 18 ∨ f = 19)) : (dropN M i n).1 f = M f := by
  induction n with
  | zero => rfl
  | succ n ih =>
    simp only [dropN, zit, dropS] at ih ⊢
    split
    · exact ih
    · simp only []
      rw [zup_fr (by omega), zup_fr (by omega), ih]
theorem dropN_bd {M : zM} {i : Nat} {lo hi : Int} (h : ∀ k, lo ≤ M 19 i k ∧ M 19 i k ≤ hi) (n : Nat) : ∀ k, lo ≤ (dropN M i n).1 19 i k ∧ (dropN M i n).1 19 i k ≤ hi := by
  induction n with
  | zero => exact h
  | succ n ih =>
    intro k
    simp only [dropN, zit, dropS] at ih ⊢
    split
    · exact ih k
    · simp only [zup]
      split
      · have := ih n
        simp at *
        exact this
      · have := ih k
        simp at *
        exact this
def dropC (M : zM) (i : Nat) : zM := zup (zup (dropN M i (M 17 i 1).toNat).1 17 i 0 (M 17 i 0 + (M 17 i 1 - (dropN M i (M 17 i 1).toNat).2))) 17 i 1 (dropN M i (M 17 i 1).toNat).2
def tripCp (M : zM) (i o : Nat) : zM := zup (zup (zup (zup (zup (zup M 16 i 0 (M 16 o 0)) 16 i 1 (M 16 o 1)) 16 i 2 (M 16 o 2)) 16 i 3 (M 16 o 3)) 16 i 4 (M 16 o 4)) 16 i 5 (M 16 o 5)
theorem tripCp_fr {M : zM} {i o f : Nat} (h : ¬ (f = 16)) : tripCp M i o f = M f := by
  simp only [tripCp]; repeat rw [zup_fr h]
set_option maxHeartbeats 4000000 in
set_option maxRecDepth 100000 in
theorem k_J9_abs_0f7a4 (l : Launch) (D : va_G) (tc : Nat → ClassId) (ad : Nat → Nat → Nat) (hI : zI ad okC) (M : zM) (a : Int) (ha : -2147483648 ≤ a ∧ a < 2147483648) : zMi l yJ9_abs_0f7a4 cJ9_abs_0f7a4 1 (some .int) 0 D (tysC tc) ad okC (tmC ad tc) [iv a] M (absC a) M 0 0 := by
  refine z_met hI (by decide +kernel) (Nat.le_of_ble_eq_true rfl) ?_
  intro p e s m args below meth c hC hret hlk
  refine z_conv (L2 := [(0, iv a)]) ?_ rfl rfl rfl
  refine z_iload_n hC 0 rfl dJ9_abs_0f7a4_0 rfl ?_
  refine z_if_ge hC 9 dJ9_abs_0f7a4_1 (by decide) (by omega) (fun c1 => ?_) (fun c1 => ?_)
  · skip
    refine z_iload_n hC 0 rfl dJ9_abs_0f7a4_9 rfl ?_
    exact z_iret hC hret hlk rfl (by simp only [absC]; split <;> omega) (by rfl) dJ9_abs_0f7a4_10
  · skip
    refine z_iload_n hC 0 rfl dJ9_abs_0f7a4_4 rfl ?_
    refine z_ineg hC dJ9_abs_0f7a4_5 ?_
    refine z_goto hC 10 dJ9_abs_0f7a4_6 (by decide) ?_
    exact z_iret hC hret hlk rfl (by simp only [absC]; split <;> omega) (by rfl) dJ9_abs_0f7a4_10
set_option maxHeartbeats 4000000 in
set_option maxRecDepth 100000 in
theorem k_J9_max_7cf53 (l : Launch) (D : va_G) (tc : Nat → ClassId) (ad : Nat → Nat → Nat) (hI : zI ad okC) (M : zM) (a b : Int) (ha : -2147483648 ≤ a ∧ a < 2147483648) (hb : -2147483648 ≤ b ∧ b < 2147483648) : zMi l yJ9_max_7cf53 cJ9_max_7cf53 2 (some .int) 0 D (tysC tc) ad okC (tmC ad tc) [iv a, iv b] M (if a < b then b else a) M 0 0 := by
  refine z_met hI (by decide +kernel) (Nat.le_of_ble_eq_true rfl) ?_
  intro p e s m args below meth c hC hret hlk
  refine z_conv (L2 := [(0, iv a), (1, iv b)]) ?_ rfl rfl rfl
  refine z_iload_n hC 0 rfl dJ9_max_7cf53_0 rfl ?_
  refine z_iload_n hC 1 rfl dJ9_max_7cf53_1 rfl ?_
  refine z_icmp_lt hC 9 dJ9_max_7cf53_2 (by decide) (by omega) (by omega) (fun c2 => ?_) (fun c2 => ?_)
  · skip
    refine z_iload_n hC 1 rfl dJ9_max_7cf53_9 rfl ?_
    exact z_iret hC hret hlk rfl (by first | rw [if_pos (by omega)] | rw [if_neg (by omega)]) (by rfl) dJ9_max_7cf53_10
  · skip
    refine z_iload_n hC 0 rfl dJ9_max_7cf53_5 rfl ?_
    refine z_goto hC 10 dJ9_max_7cf53_6 (by decide) ?_
    exact z_iret hC hret hlk rfl (by first | rw [if_pos (by omega)] | rw [if_neg (by omega)]) (by rfl) dJ9_max_7cf53_10
set_option maxHeartbeats 4000000 in
set_option maxRecDepth 100000 in
theorem k_J9_floorMod_7cf53 (l : Launch) (D : va_G) (tc : Nat → ClassId) (ad : Nat → Nat → Nat) (hI : zI ad okC) (M : zM) (a b : Int) (ha : 0 ≤ a ∧ a < 2147483648) (hb : 0 < b ∧ b < 2147483648) : zMi l yJ9_floorMod_7cf53 cJ9_floorMod_7cf53 3 (some .int) 0 D (tysC tc) ad okC (tmC ad tc) [iv a, iv b] M (a % b) M 0 0 := by
  have hx := zi_xor ha (show 0 ≤ b ∧ b < 2147483648 by omega)
  have hm1 := Int.emod_nonneg a (show b ≠ 0 by omega)
  have hm2 := Int.emod_lt_of_pos a hb.1
  refine z_met hI (by decide +kernel) (Nat.le_of_ble_eq_true rfl) ?_
  intro p e s m args below meth c hC hret hlk
  refine z_conv (L2 := [(0, iv a), (1, iv b)]) ?_ rfl rfl rfl
  refine z_iload_n hC 0 rfl dJ9_floorMod_7cf53_0 rfl ?_
  refine z_iload_n hC 1 rfl dJ9_floorMod_7cf53_1 rfl ?_
  refine z_irem hC dJ9_floorMod_7cf53_2 (by omega) (by omega) ?_
  refine z_istore_n hC (L' := [(2, iv (a % b)), (0, iv a), (1, iv b)]) dJ9_floorMod_7cf53_3 rfl (by decide) rfl ?_
  refine z_iload_n hC 1 rfl dJ9_floorMod_7cf53_4 rfl ?_
  refine z_iload_n hC 2 rfl dJ9_floorMod_7cf53_5 rfl ?_
  refine z_ixor hC dJ9_floorMod_7cf53_6 ?_
  refine z_if_ge hC 18 dJ9_floorMod_7cf53_7 (by decide) (by omega) (fun c7 => ?_) (fun c7 => ?_)
  · skip
    refine z_iload_n hC 0 rfl dJ9_floorMod_7cf53_18 rfl ?_
    exact z_iret hC hret hlk rfl (by rfl) (by rfl) dJ9_floorMod_7cf53_19
  · skip
    exfalso; omega
set_option maxHeartbeats 4000000 in
set_option maxRecDepth 100000 in
theorem k_X1_carries (l : Launch) (D : va_G) (tc : Nat → ClassId) (ad : Nat → Nat → Nat) (hI : zI ad okC) (M : zM) (i : Nat) (w : Int) (hi : i < 12) (hw : -2147483648 ≤ w ∧ w < 2147483648) (hm : -2147483648 ≤ M 7 i 2 ∧ M 7 i 2 < 2147483648) : zMi l yX1_carries cX1_carries 2 (some .boolean) 0 D (tysC tc) ad okC (tmC ad tc) [.ref (ad 7 i), iv w] M (if w ≤ M 7 i 2 then 1 else 0) M 0 0 := by
  refine z_met hI (plainFor_of_name (by decide)) (Nat.le_of_ble_eq_true rfl) ?_
  intro p e s m args below meth c hC hret hlk
  refine z_conv (L2 := [(0, .ref (ad 7 i)), (1, iv w)]) ?_ rfl rfl rfl
  refine z_iload_n hC 1 rfl dX1_carries_0 rfl ?_
  refine z_aload_n hC 0 rfl dX1_carries_1 rfl ?_
  refine z_getI hC zfX1_7 (tmC_7 ad tc _) (okC_7 (by omega)) rfl (x := M 7 i 2) (rfl) dX1_carries_2 ?_
  refine z_icmp_gt hC 12 dX1_carries_5 (by decide) (by omega) (by omega) (fun c5 => ?_) (fun c5 => ?_)
  · skip
    refine z_iconst hC dX1_carries_12 ?_
    exact z_iret hC hret hlk (by decide) (by first | rw [if_pos (by omega)] | rw [if_neg (by omega)]) (by rfl) dX1_carries_13
  · skip
    refine z_iconst hC dX1_carries_8 ?_
    refine z_goto hC 13 dX1_carries_9 (by decide) ?_
    exact z_iret hC hret hlk (by decide) (by first | rw [if_pos (by omega)] | rw [if_neg (by omega)]) (by rfl) dX1_carries_13
set_option maxHeartbeats 4000000 in
set_option maxRecDepth 100000 in
theorem k_X1_getsStuck (l : Launch) (D : va_G) (tc : Nat → ClassId) (ad : Nat → Nat → Nat) (hI : zI ad okC) (M : zM) (i : Nat) (w : Int) (hi : i < 12) (hw : 0 ≤ w ∧ w ≤ 150) (hd : 0 ≤ M 7 i 4 ∧ M 7 i 4 ≤ 60) (hl : 0 ≤ M 7 i 3 ∧ M 7 i 3 ≤ 80) : zMi l yX1_getsStuck cX1_getsStuck 2 (some .boolean) 0 D (tysC tc) ad okC (tmC ad tc) [.ref (ad 7 i), iv w] M (if w * M 7 i 4 < 10 * M 7 i 3 then 1 else 0) M 0 0 := by
  have hp1 := Int.mul_nonneg hw.1 hd.1
  have hp2 : w * M 7 i 4 ≤ 150 * 60 := Int.mul_le_mul hw.2 hd.2 hd.1 (by decide)
  refine z_met hI (plainFor_of_name (by decide)) (Nat.le_of_ble_eq_true rfl) ?_
  intro p e s m args below meth c hC hret hlk
  refine z_conv (L2 := [(0, .ref (ad 7 i)), (1, iv w)]) ?_ rfl rfl rfl
  refine z_iload_n hC 1 rfl dX1_getsStuck_0 rfl ?_
  refine z_aload_n hC 0 rfl dX1_getsStuck_1 rfl ?_
  refine z_getI hC zfX1_13 (tmC_7 ad tc _) (okC_7 (by omega)) rfl (x := M 7 i 4) (rfl) dX1_getsStuck_2 ?_
  refine z_imul hC dX1_getsStuck_5 ?_
  refine z_bipush hC dX1_getsStuck_6 (by decide) ?_
  refine z_aload_n hC 0 rfl dX1_getsStuck_8 rfl ?_
  refine z_getI hC zfX1_16 (tmC_7 ad tc _) (okC_7 (by omega)) rfl (x := M 7 i 3) (rfl) dX1_getsStuck_9 ?_
  refine z_imul hC dX1_getsStuck_12 ?_
  refine z_icmp_ge hC 20 dX1_getsStuck_13 (by decide) (by omega) (by omega) (fun c13 => ?_) (fun c13 => ?_)
  · skip
    refine z_iconst hC dX1_getsStuck_20 ?_
    exact z_iret hC hret hlk (by decide) (by first | rw [if_pos (by omega)] | rw [if_neg (by omega)]) (by rfl) dX1_getsStuck_21
  · skip
    refine z_iconst hC dX1_getsStuck_16 ?_
    refine z_goto hC 21 dX1_getsStuck_17 (by decide) ?_
    exact z_iret hC hret hlk (by decide) (by first | rw [if_pos (by omega)] | rw [if_neg (by omega)]) (by rfl) dX1_getsStuck_21
set_option maxHeartbeats 4000000 in
set_option maxRecDepth 100000 in
theorem k_X1_pullMinutes (l : Launch) (D : va_G) (tc : Nat → ClassId) (ad : Nat → Nat → Nat) (hI : zI ad okC) (M : zM) (i : Nat) (hi : i < 12) (hl : 0 ≤ M 7 i 3 ∧ M 7 i 3 ≤ 80) : zMi l yX1_pullMinutes cX1_pullMinutes 1 (some .int) 0 D (tysC tc) ad okC (tmC ad tc) [.ref (ad 7 i)] M ((M 7 i 3 + 9) / 10) M 0 0 := by
  refine z_met hI (plainFor_of_name (by decide)) (Nat.le_of_ble_eq_true rfl) ?_
  intro p e s m args below meth c hC hret hlk
  refine z_conv (L2 := [(0, .ref (ad 7 i))]) ?_ rfl rfl rfl
  refine z_aload_n hC 0 rfl dX1_pullMinutes_0 rfl ?_
  refine z_getI hC zfX1_16 (tmC_7 ad tc _) (okC_7 (by omega)) rfl (x := M 7 i 3) (rfl) dX1_pullMinutes_1 ?_
  refine z_bipush hC dX1_pullMinutes_4 (by decide) ?_
  refine z_iadd hC dX1_pullMinutes_6 ?_
  refine z_bipush hC dX1_pullMinutes_7 (by decide) ?_
  refine z_idiv hC dX1_pullMinutes_9 (by omega) (by omega) ?_
  exact z_iret hC hret hlk rfl (by rfl) (by rfl) dX1_pullMinutes_10
set_option maxHeartbeats 4000000 in
set_option maxRecDepth 100000 in
theorem k_X1_rideMinutes (l : Launch) (D : va_G) (tc : Nat → ClassId) (ad : Nat → Nat → Nat) (hI : zI ad okC) (M : zM) (i : Nat) (w : Int) (hi : i < 12) (hw : 0 ≤ w ∧ w ≤ 150) (hd : 0 ≤ M 7 i 4 ∧ M 7 i 4 ≤ 60) (hl : 0 ≤ M 7 i 3 ∧ M 7 i 3 ≤ 80) : zMi l yX1_rideMinutes cX1_rideMinutes 4 (some .int) 1 D (tysC tc) ad okC (tmC ad tc) [.ref (ad 7 i), iv w] M (rideC (M 7 i 3) (M 7 i 4) w) M 0 0 := by
  have hp1 := Int.mul_nonneg hw.1 hd.1
  have hp2 : w * M 7 i 4 ≤ 150 * 60 := Int.mul_le_mul hw.2 hd.2 hd.1 (by decide)
  refine z_met hI (plainFor_of_name (by decide)) (Nat.le_of_ble_eq_true rfl) ?_
  intro p e s m args below meth c hC hret hlk
  refine z_conv (L2 := [(0, .ref (ad 7 i)), (1, iv w)]) ?_ rfl rfl rfl
  refine z_aload_n hC 0 rfl dX1_rideMinutes_0 rfl ?_
  refine z_getI hC zfX1_13 (tmC_7 ad tc _) (okC_7 (by omega)) rfl (x := M 7 i 4) (rfl) dX1_rideMinutes_1 ?_
  refine z_iload_n hC 1 rfl dX1_rideMinutes_4 rfl ?_
  refine z_bipush hC dX1_rideMinutes_5 (by decide) ?_
  refine z_idiv hC dX1_rideMinutes_7 (by omega) (by omega) ?_
  refine z_iadd hC dX1_rideMinutes_8 ?_
  refine z_istore_n hC (L' := [(2, iv ((M 7 i 4) + (w / 10))), (0, .ref (ad 7 i)), (1, iv w)]) dX1_rideMinutes_9 rfl (by decide) rfl ?_
  refine z_iload_n hC 0 rfl dX1_rideMinutes_10 rfl ?_
  refine z_if_gt hC 16 dX1_rideMinutes_11 (by decide) (by omega) (fun c11 => ?_) (fun c11 => ?_)
  · skip
    refine z_iconst hC dX1_rideMinutes_16 ?_
    refine z_aload_n hC 1 rfl dX1_rideMinutes_17 rfl ?_
    refine z_getI hC zfX1_16 (tmC_7 ad tc _) (okC_7 (by omega)) rfl (x := M 7 i 3) (rfl) dX1_rideMinutes_18 ?_
    refine z_imul hC dX1_rideMinutes_21 ?_
    refine z_iload_n hC 0 rfl dX1_rideMinutes_22 rfl ?_
    refine z_iadd hC dX1_rideMinutes_23 ?_
    refine z_iconst hC dX1_rideMinutes_24 ?_
    refine z_isub hC dX1_rideMinutes_25 ?_
    refine z_iload_n hC 0 rfl dX1_rideMinutes_26 rfl ?_
    refine z_idiv hC dX1_rideMinutes_27 (by omega) (by omega) ?_
    refine z_istore_n hC (L' := [(3, iv ((((2 * (M 7 i 3)) + ((M 7 i 4) + (w / 10))) - 1) / ((M 7 i 4) + (w / 10)))), (2, iv ((M 7 i 4) + (w / 10))), (0, .ref (ad 7 i)), (1, iv w)]) dX1_rideMinutes_28 rfl (by decide) rfl ?_
    refine z_aload_n hC 2 rfl dX1_rideMinutes_29 rfl ?_
    refine z_iload_n hC 3 rfl dX1_rideMinutes_30 rfl ?_
    refine z_callVi hC zlX1_19 (k_X1_getsStuck l D tc ad hI M i w (by omega) (by omega) (by omega) (by omega)) (tmC_7 ad tc _) rfl (okC_7 (by omega)) rfl rfl (Nat.le_of_ble_eq_true rfl) ⟨by decide, by decide⟩ ⟨by decide, by decide⟩ dX1_rideMinutes_31 ?_
    refine z_if_eq_b hC 43 dX1_rideMinutes_34 (by decide) (fun c34 => ?_) (fun c34 => ?_)
    · skip
      refine z_iload_n hC 0 rfl dX1_rideMinutes_43 rfl ?_
      exact z_iret hC hret hlk rfl (by simp only [rideC]; first | rw [if_pos (by omega)] | (rw [if_neg (by omega)]; first | rw [if_pos (by assumption)] | rw [if_neg (by assumption)])) (by rfl) dX1_rideMinutes_44
    · skip
      refine z_iconst hC dX1_rideMinutes_37 ?_
      refine z_iload_n hC 0 rfl dX1_rideMinutes_38 rfl ?_
      refine z_imul hC dX1_rideMinutes_39 ?_
      refine z_goto hC 44 dX1_rideMinutes_40 (by decide) ?_
      exact z_iret hC hret hlk rfl (by simp only [rideC]; first | rw [if_pos (by omega)] | (rw [if_neg (by omega)]; first | rw [if_pos (by assumption)] | rw [if_neg (by assumption)])) (by rfl) dX1_rideMinutes_44
  · skip
    refine z_iconst hC dX1_rideMinutes_14 ?_
    exact z_iret hC hret hlk rfl (by simp only [rideC]; first | rw [if_pos (by omega)] | (rw [if_neg (by omega)]; first | rw [if_pos (by assumption)] | rw [if_neg (by assumption)])) (by rfl) dX1_rideMinutes_15
set_option maxHeartbeats 4000000 in
set_option maxRecDepth 100000 in
theorem k_X2_distanceTo (l : Launch) (D : va_G) (tc : Nat → ClassId) (ad : Nat → Nat → Nat) (hI : zI ad okC) (M : zM) (i : Nat) (o : Nat) (hi : i < 8) (ho : o < 8) (h1 : 0 ≤ M 6 i 0 ∧ M 6 i 0 ≤ 60) (h2 : 0 ≤ M 6 i 1 ∧ M 6 i 1 ≤ 60) (h3 : 0 ≤ M 6 o 0 ∧ M 6 o 0 ≤ 60) (h4 : 0 ≤ M 6 o 1 ∧ M 6 o 1 ≤ 60) : zMi l yX2_distanceTo cX2_distanceTo 2 (some .int) 1 D (tysC tc) ad okC (tmC ad tc) [.ref (ad 6 i), .ref (ad 6 o)] M (absC (M 6 i 0 - M 6 o 0) + absC (M 6 i 1 - M 6 o 1)) M 0 0 := by
  refine z_met hI (plainFor_of_name (by decide)) (Nat.le_of_ble_eq_true rfl) ?_
  intro p e s m args below meth c hC hret hlk
  refine z_conv (L2 := [(0, .ref (ad 6 i)), (1, .ref (ad 6 o))]) ?_ rfl rfl rfl
  refine z_aload_n hC 0 rfl dX2_distanceTo_0 rfl ?_
  refine z_getI hC zfX2_7 (tmC_6 ad tc _) (okC_6 (by omega)) rfl (x := M 6 i 0) (rfl) dX2_distanceTo_1 ?_
  refine z_aload_n hC 1 rfl dX2_distanceTo_4 rfl ?_
  refine z_getI hC zfX2_7 (tmC_6 ad tc _) (okC_6 (by omega)) rfl (x := M 6 o 0) (rfl) dX2_distanceTo_5 ?_
  refine z_isub hC dX2_distanceTo_8 ?_
  refine z_callSi hC zlX2_13 (k_J9_abs_0f7a4 l D tc ad hI M ((M 6 i 0) - (M 6 o 0)) (by omega)) rfl rfl (Nat.le_of_ble_eq_true rfl) ⟨by decide, by decide⟩ ⟨by decide, by decide⟩ dX2_distanceTo_9 ?_
  refine z_aload_n hC 0 rfl dX2_distanceTo_12 rfl ?_
  refine z_getI hC zfX2_19 (tmC_6 ad tc _) (okC_6 (by omega)) rfl (x := M 6 i 1) (rfl) dX2_distanceTo_13 ?_
  refine z_aload_n hC 1 rfl dX2_distanceTo_16 rfl ?_
  refine z_getI hC zfX2_19 (tmC_6 ad tc _) (okC_6 (by omega)) rfl (x := M 6 o 1) (rfl) dX2_distanceTo_17 ?_
  refine z_isub hC dX2_distanceTo_20 ?_
  refine z_callSi hC zlX2_13 (k_J9_abs_0f7a4 l D tc ad hI M ((M 6 i 1) - (M 6 o 1)) (by omega)) rfl rfl (Nat.le_of_ble_eq_true rfl) ⟨by decide, by decide⟩ ⟨by decide, by decide⟩ dX2_distanceTo_21 ?_
  refine z_iadd hC dX2_distanceTo_24 ?_
  exact z_iret hC hret hlk rfl (by rfl) (by rfl) dX2_distanceTo_25
set_option maxHeartbeats 4000000 in
set_option maxRecDepth 100000 in
theorem k_X6_copyFrom (l : Launch) (D : va_G) (tc : Nat → ClassId) (ad : Nat → Nat → Nat) (hI : zI ad okC) (M : zM) (i : Nat) (o : Nat) (hi : i < 24) (ho : o < 24) : zMv l yX6_copyFrom cX6_copyFrom 2 none 0 D (tysC tc) ad okC (tmC ad tc) [.ref (ad 16 i), .ref (ad 16 o)] M (tripCp M i o) 0 0 := by
  refine z_met hI (plainFor_of_name (by decide)) (Nat.le_of_ble_eq_true rfl) ?_
  intro p e s m args below meth c hC hret hlk
  refine z_conv (L2 := [(0, .ref (ad 16 i)), (1, .ref (ad 16 o))]) ?_ rfl rfl rfl
  refine z_aload_n hC 0 rfl dX6_copyFrom_0 rfl ?_
  refine z_aload_n hC 1 rfl dX6_copyFrom_1 rfl ?_
  refine z_getI hC zfX6_15 (tmC_16 ad tc _) (okC_16 (by omega)) rfl (x := M 16 o 0) (rfl) dX6_copyFrom_2 ?_
  refine z_put hC zgX6_15 (tmC_16 ad tc _) (okC_16 (by omega)) rfl dX6_copyFrom_5 ?_
  refine z_aload_n hC 0 rfl dX6_copyFrom_8 rfl ?_
  refine z_aload_n hC 1 rfl dX6_copyFrom_9 rfl ?_
  refine z_getI hC zfX6_18 (tmC_16 ad tc _) (okC_16 (by omega)) rfl (x := M 16 o 1) (by simp [zup]) dX6_copyFrom_10 ?_
  refine z_put hC zgX6_18 (tmC_16 ad tc _) (okC_16 (by omega)) rfl dX6_copyFrom_13 ?_
  refine z_aload_n hC 0 rfl dX6_copyFrom_16 rfl ?_
  refine z_aload_n hC 1 rfl dX6_copyFrom_17 rfl ?_
  refine z_getI hC zfX6_21 (tmC_16 ad tc _) (okC_16 (by omega)) rfl (x := M 16 o 2) (by simp [zup]) dX6_copyFrom_18 ?_
  refine z_put hC zgX6_21 (tmC_16 ad tc _) (okC_16 (by omega)) rfl dX6_copyFrom_21 ?_
  refine z_aload_n hC 0 rfl dX6_copyFrom_24 rfl ?_
  refine z_aload_n hC 1 rfl dX6_copyFrom_25 rfl ?_
  refine z_getI hC zfX6_24 (tmC_16 ad tc _) (okC_16 (by omega)) rfl (x := M 16 o 3) (by simp [zup]) dX6_copyFrom_26 ?_
  refine z_put hC zgX6_24 (tmC_16 ad tc _) (okC_16 (by omega)) rfl dX6_copyFrom_29 ?_
  refine z_aload_n hC 0 rfl dX6_copyFrom_32 rfl ?_
  refine z_aload_n hC 1 rfl dX6_copyFrom_33 rfl ?_
  refine z_getI hC zfX6_27 (tmC_16 ad tc _) (okC_16 (by omega)) rfl (x := M 16 o 4) (by simp [zup]) dX6_copyFrom_34 ?_
  refine z_put hC zgX6_27 (tmC_16 ad tc _) (okC_16 (by omega)) rfl dX6_copyFrom_37 ?_
  refine z_aload_n hC 0 rfl dX6_copyFrom_40 rfl ?_
  refine z_aload_n hC 1 rfl dX6_copyFrom_41 rfl ?_
  refine z_getI hC zfX6_9 (tmC_16 ad tc _) (okC_16 (by omega)) rfl (x := M 16 o 5) (by simp [zup]) dX6_copyFrom_42 ?_
  refine z_put hC zgX6_9 (tmC_16 ad tc _) (okC_16 (by omega)) rfl dX6_copyFrom_45 ?_
  exact z_vret hC hret hlk (by rfl) dX6_copyFrom_48
set_option maxHeartbeats 4000000 in
set_option maxRecDepth 100000 in
theorem k_X6_isUnderWay (l : Launch) (D : va_G) (tc : Nat → ClassId) (ad : Nat → Nat → Nat) (hI : zI ad okC) (M : zM) (i : Nat) (hi : i < 24) (h : 0 ≤ M 16 i 0 ∧ M 16 i 0 ≤ 3) : zMi l yX6_isUnderWay cX6_isUnderWay 1 (some .boolean) 0 D (tysC tc) ad okC (tmC ad tc) [.ref (ad 16 i)] M (if M 16 i 0 = 0 ∨ M 16 i 0 = 1 then 1 else 0) M 0 0 := by
  refine z_met hI (plainFor_of_name (by decide)) (Nat.le_of_ble_eq_true rfl) ?_
  intro p e s m args below meth c hC hret hlk
  refine z_conv (L2 := [(0, .ref (ad 16 i))]) ?_ rfl rfl rfl
  refine z_aload_n hC 0 rfl dX6_isUnderWay_0 rfl ?_
  refine z_getI hC zfX6_15 (tmC_16 ad tc _) (okC_16 (by omega)) rfl (x := M 16 i 0) (rfl) dX6_isUnderWay_1 ?_
  refine z_if_eq hC 15 dX6_isUnderWay_4 (by decide) (by omega) (fun c4 => ?_) (fun c4 => ?_)
  · skip
    refine z_iconst hC dX6_isUnderWay_15 ?_
    refine z_goto hC 20 dX6_isUnderWay_16 (by decide) ?_
    exact z_iret hC hret hlk (by decide) (by first | rw [if_pos (by omega)] | rw [if_neg (by omega)]) (by rfl) dX6_isUnderWay_20
  · skip
    refine z_aload_n hC 0 rfl dX6_isUnderWay_7 rfl ?_
    refine z_getI hC zfX6_15 (tmC_16 ad tc _) (okC_16 (by omega)) rfl (x := M 16 i 0) (rfl) dX6_isUnderWay_8 ?_
    refine z_iconst hC dX6_isUnderWay_11 ?_
    refine z_icmp_ne hC 19 dX6_isUnderWay_12 (by decide) (by omega) (by omega) (fun c12 => ?_) (fun c12 => ?_)
    · skip
      refine z_iconst hC dX6_isUnderWay_19 ?_
      exact z_iret hC hret hlk (by decide) (by first | rw [if_pos (by omega)] | rw [if_neg (by omega)]) (by rfl) dX6_isUnderWay_20
    · skip
      refine z_iconst hC dX6_isUnderWay_15 ?_
      refine z_goto hC 20 dX6_isUnderWay_16 (by decide) ?_
      exact z_iret hC hret hlk (by decide) (by first | rw [if_pos (by omega)] | rw [if_neg (by omega)]) (by rfl) dX6_isUnderWay_20
set_option maxHeartbeats 4000000 in
set_option maxRecDepth 100000 in
theorem k_X6_beginWait (l : Launch) (D : va_G) (tc : Nat → ClassId) (ad : Nat → Nat → Nat) (hI : zI ad okC) (M : zM) (i : Nat) (pf : Int) (hi : i < 24) : zMv l yX6_beginWait cX6_beginWait 2 none 0 D (tysC tc) ad okC (tmC ad tc) [.ref (ad 16 i), iv pf] M (zup (zup (zup (zup M 16 i 0 0) 16 i 1 pf) 16 i 2 (-1)) 16 i 3 0) 0 0 := by
  refine z_met hI (plainFor_of_name (by decide)) (Nat.le_of_ble_eq_true rfl) ?_
  intro p e s m args below meth c hC hret hlk
  refine z_conv (L2 := [(0, .ref (ad 16 i)), (1, iv pf)]) ?_ rfl rfl rfl
  refine z_aload_n hC 0 rfl dX6_beginWait_0 rfl ?_
  refine z_iconst hC dX6_beginWait_1 ?_
  refine z_put hC zgX6_15 (tmC_16 ad tc _) (okC_16 (by omega)) rfl dX6_beginWait_2 ?_
  refine z_aload_n hC 0 rfl dX6_beginWait_5 rfl ?_
  refine z_iload_n hC 1 rfl dX6_beginWait_6 rfl ?_
  refine z_put hC zgX6_18 (tmC_16 ad tc _) (okC_16 (by omega)) rfl dX6_beginWait_7 ?_
  refine z_aload_n hC 0 rfl dX6_beginWait_10 rfl ?_
  refine z_iconst hC dX6_beginWait_11 ?_
  refine z_put hC zgX6_21 (tmC_16 ad tc _) (okC_16 (by omega)) rfl dX6_beginWait_12 ?_
  refine z_aload_n hC 0 rfl dX6_beginWait_15 rfl ?_
  refine z_iconst hC dX6_beginWait_16 ?_
  refine z_put hC zgX6_24 (tmC_16 ad tc _) (okC_16 (by omega)) rfl dX6_beginWait_17 ?_
  exact z_vret hC hret hlk (by rfl) dX6_beginWait_20
set_option maxHeartbeats 4000000 in
set_option maxRecDepth 100000 in
theorem k_X6_beginRide (l : Launch) (D : va_G) (tc : Nat → ClassId) (ad : Nat → Nat → Nat) (hI : zI ad okC) (M : zM) (i : Nat) (on mi : Int) (hi : i < 24) : zMv l yX6_beginRide cX6_beginRide 3 none 0 D (tysC tc) ad okC (tmC ad tc) [.ref (ad 16 i), iv on, iv mi] M (zup (zup (zup (zup (zup M 16 i 0 1) 16 i 1 (-1)) 16 i 2 on) 16 i 3 mi) 16 i 4 (M 16 i 4 + 1)) 0 0 := by
  refine z_met hI (plainFor_of_name (by decide)) (Nat.le_of_ble_eq_true rfl) ?_
  intro p e s m args below meth c hC hret hlk
  refine z_conv (L2 := [(0, .ref (ad 16 i)), (1, iv on), (2, iv mi)]) ?_ rfl rfl rfl
  refine z_aload_n hC 0 rfl dX6_beginRide_0 rfl ?_
  refine z_iconst hC dX6_beginRide_1 ?_
  refine z_put hC zgX6_15 (tmC_16 ad tc _) (okC_16 (by omega)) rfl dX6_beginRide_2 ?_
  refine z_aload_n hC 0 rfl dX6_beginRide_5 rfl ?_
  refine z_iconst hC dX6_beginRide_6 ?_
  refine z_put hC zgX6_18 (tmC_16 ad tc _) (okC_16 (by omega)) rfl dX6_beginRide_7 ?_
  refine z_aload_n hC 0 rfl dX6_beginRide_10 rfl ?_
  refine z_iload_n hC 1 rfl dX6_beginRide_11 rfl ?_
  refine z_put hC zgX6_21 (tmC_16 ad tc _) (okC_16 (by omega)) rfl dX6_beginRide_12 ?_
  refine z_aload_n hC 0 rfl dX6_beginRide_15 rfl ?_
  refine z_iload_n hC 2 rfl dX6_beginRide_16 rfl ?_
  refine z_put hC zgX6_24 (tmC_16 ad tc _) (okC_16 (by omega)) rfl dX6_beginRide_17 ?_
  refine z_aload_n hC 0 rfl dX6_beginRide_20 rfl ?_
  refine z_dup hC dX6_beginRide_21 rfl ?_
  refine z_getI hC zfX6_27 (tmC_16 ad tc _) (okC_16 (by omega)) rfl (x := M 16 i 4) (by simp [zup]) dX6_beginRide_22 ?_
  refine z_iconst hC dX6_beginRide_25 ?_
  refine z_iadd hC dX6_beginRide_26 ?_
  refine z_put hC zgX6_27 (tmC_16 ad tc _) (okC_16 (by omega)) rfl dX6_beginRide_27 ?_
  exact z_vret hC hret hlk (by rfl) dX6_beginRide_30
set_option maxHeartbeats 4000000 in
set_option maxRecDepth 100000 in
theorem k_X6_arrive (l : Launch) (D : va_G) (tc : Nat → ClassId) (ad : Nat → Nat → Nat) (hI : zI ad okC) (M : zM) (i : Nat) (pf mi : Int) (hi : i < 24) : zMv l yX6_arrive cX6_arrive 3 none 0 D (tysC tc) ad okC (tmC ad tc) [.ref (ad 16 i), iv pf, iv mi] M (zup (zup (zup (zup (zup M 16 i 0 2) 16 i 1 pf) 16 i 2 (-1)) 16 i 3 0) 16 i 5 mi) 0 0 := by
  refine z_met hI (plainFor_of_name (by decide)) (Nat.le_of_ble_eq_true rfl) ?_
  intro p e s m args below meth c hC hret hlk
  refine z_conv (L2 := [(0, .ref (ad 16 i)), (1, iv pf), (2, iv mi)]) ?_ rfl rfl rfl
  refine z_aload_n hC 0 rfl dX6_arrive_0 rfl ?_
  refine z_iconst hC dX6_arrive_1 ?_
  refine z_put hC zgX6_15 (tmC_16 ad tc _) (okC_16 (by omega)) rfl dX6_arrive_2 ?_
  refine z_aload_n hC 0 rfl dX6_arrive_5 rfl ?_
  refine z_iload_n hC 1 rfl dX6_arrive_6 rfl ?_
  refine z_put hC zgX6_18 (tmC_16 ad tc _) (okC_16 (by omega)) rfl dX6_arrive_7 ?_
  refine z_aload_n hC 0 rfl dX6_arrive_10 rfl ?_
  refine z_iconst hC dX6_arrive_11 ?_
  refine z_put hC zgX6_21 (tmC_16 ad tc _) (okC_16 (by omega)) rfl dX6_arrive_12 ?_
  refine z_aload_n hC 0 rfl dX6_arrive_15 rfl ?_
  refine z_iconst hC dX6_arrive_16 ?_
  refine z_put hC zgX6_24 (tmC_16 ad tc _) (okC_16 (by omega)) rfl dX6_arrive_17 ?_
  refine z_aload_n hC 0 rfl dX6_arrive_20 rfl ?_
  refine z_iload_n hC 2 rfl dX6_arrive_21 rfl ?_
  refine z_put hC zgX6_9 (tmC_16 ad tc _) (okC_16 (by omega)) rfl dX6_arrive_22 ?_
  exact z_vret hC hret hlk (by rfl) dX6_arrive_25
set_option maxHeartbeats 4000000 in
set_option maxRecDepth 100000 in
theorem k_X6_giveUp (l : Launch) (D : va_G) (tc : Nat → ClassId) (ad : Nat → Nat → Nat) (hI : zI ad okC) (M : zM) (i : Nat) (hi : i < 24) : zMv l yX6_giveUp cX6_giveUp 1 none 0 D (tysC tc) ad okC (tmC ad tc) [.ref (ad 16 i)] M (zup (zup (zup M 16 i 0 3) 16 i 1 (-1)) 16 i 3 0) 0 0 := by
  refine z_met hI (plainFor_of_name (by decide)) (Nat.le_of_ble_eq_true rfl) ?_
  intro p e s m args below meth c hC hret hlk
  refine z_conv (L2 := [(0, .ref (ad 16 i))]) ?_ rfl rfl rfl
  refine z_aload_n hC 0 rfl dX6_giveUp_0 rfl ?_
  refine z_iconst hC dX6_giveUp_1 ?_
  refine z_put hC zgX6_15 (tmC_16 ad tc _) (okC_16 (by omega)) rfl dX6_giveUp_2 ?_
  refine z_aload_n hC 0 rfl dX6_giveUp_5 rfl ?_
  refine z_iconst hC dX6_giveUp_6 ?_
  refine z_put hC zgX6_18 (tmC_16 ad tc _) (okC_16 (by omega)) rfl dX6_giveUp_7 ?_
  refine z_aload_n hC 0 rfl dX6_giveUp_10 rfl ?_
  refine z_iconst hC dX6_giveUp_11 ?_
  refine z_put hC zgX6_24 (tmC_16 ad tc _) (okC_16 (by omega)) rfl dX6_giveUp_12 ?_
  exact z_vret hC hret hlk (by rfl) dX6_giveUp_15
set_option maxHeartbeats 4000000 in
set_option maxRecDepth 100000 in
theorem k_X7_inAll (l : Launch) (D : va_G) (tc : Nat → ClassId) (ad : Nat → Nat → Nat) (hI : zI ad okC) (M : zM) (i : Nat) (hi : i < 24) : zMi l yX7_inAll cX7_inAll 1 (some .int) 0 D (tysC tc) ad okC (tmC ad tc) [.ref (ad 17 i)] M (M 17 i 0 + M 17 i 1) M 0 0 := by
  refine z_met hI (plainFor_of_name (by decide)) (Nat.le_of_ble_eq_true rfl) ?_
  intro p e s m args below meth c hC hret hlk
  refine z_conv (L2 := [(0, .ref (ad 17 i))]) ?_ rfl rfl rfl
  refine z_aload_n hC 0 rfl dX7_inAll_0 rfl ?_
  refine z_getI hC zfX7_18 (tmC_17 ad tc _) (okC_17 (by omega)) rfl (x := M 17 i 0) (rfl) dX7_inAll_1 ?_
  refine z_aload_n hC 0 rfl dX7_inAll_4 rfl ?_
  refine z_getI hC zfX7_22 (tmC_17 ad tc _) (okC_17 (by omega)) rfl (x := M 17 i 1) (rfl) dX7_inAll_5 ?_
  refine z_iadd hC dX7_inAll_8 ?_
  exact z_iret hC hret hlk rfl (by rfl) (by rfl) dX7_inAll_9
set_option maxHeartbeats 4000000 in
set_option maxRecDepth 100000 in
theorem k_X7_canLeaveTop (l : Launch) (D : va_G) (tc : Nat → ClassId) (ad : Nat → Nat → Nat) (hI : zI ad okC) (M : zM) (i : Nat) (hi : i < 24) (haw : 0 ≤ M 17 i 1 ∧ M 17 i 1 ≤ 3) (hat : 0 ≤ M 17 i 0 ∧ M 17 i 0 ≤ 3) : zMi l yX7_canLeaveTop cX7_canLeaveTop 1 (some .boolean) 0 D (tysC tc) ad okC (tmC ad tc) [.ref (ad 17 i)] M (if 0 < M 17 i 0 ∧ M 17 i 1 < 3 then 1 else 0) M 0 0 := by
  refine z_met hI (plainFor_of_name (by decide)) (Nat.le_of_ble_eq_true rfl) ?_
  intro p e s m args below meth c hC hret hlk
  refine z_conv (L2 := [(0, .ref (ad 17 i))]) ?_ rfl rfl rfl
  refine z_aload_n hC 0 rfl dX7_canLeaveTop_0 rfl ?_
  refine z_getI hC zfX7_18 (tmC_17 ad tc _) (okC_17 (by omega)) rfl (x := M 17 i 0) (rfl) dX7_canLeaveTop_1 ?_
  refine z_if_le hC 19 dX7_canLeaveTop_4 (by decide) (by omega) (fun c4 => ?_) (fun c4 => ?_)
  · skip
    refine z_iconst hC dX7_canLeaveTop_19 ?_
    exact z_iret hC hret hlk (by decide) (by first | rw [if_pos (by omega)] | rw [if_neg (by omega)]) (by rfl) dX7_canLeaveTop_20
  · skip
    refine z_aload_n hC 0 rfl dX7_canLeaveTop_7 rfl ?_
    refine z_getI hC zfX7_22 (tmC_17 ad tc _) (okC_17 (by omega)) rfl (x := M 17 i 1) (rfl) dX7_canLeaveTop_8 ?_
    refine z_iconst hC dX7_canLeaveTop_11 ?_
    refine z_icmp_ge hC 19 dX7_canLeaveTop_12 (by decide) (by omega) (by omega) (fun c12 => ?_) (fun c12 => ?_)
    · skip
      refine z_iconst hC dX7_canLeaveTop_19 ?_
      exact z_iret hC hret hlk (by decide) (by first | rw [if_pos (by omega)] | rw [if_neg (by omega)]) (by rfl) dX7_canLeaveTop_20
    · skip
      refine z_iconst hC dX7_canLeaveTop_15 ?_
      refine z_goto hC 20 dX7_canLeaveTop_16 (by decide) ?_
      exact z_iret hC hret hlk (by decide) (by first | rw [if_pos (by omega)] | rw [if_neg (by omega)]) (by rfl) dX7_canLeaveTop_20
set_option maxHeartbeats 4000000 in
set_option maxRecDepth 100000 in
theorem k_X7_beginPull (l : Launch) (D : va_G) (tc : Nat → ClassId) (ad : Nat → Nat → Nat) (hI : zI ad okC) (M : zM) (i : Nat) (j : Nat) (mi : Int) (hi : i < 24) (hj : j < 3) : zMv l yX7_beginPull cX7_beginPull 3 none 0 D (tysC tc) ad okC (tmC ad tc) [.ref (ad 17 i), iv ((j : Nat) : Int), iv mi] M (zup (zup M 18 i j (-1)) 19 i j mi) 0 0 := by
  refine z_met hI (plainFor_of_name (by decide)) (Nat.le_of_ble_eq_true rfl) ?_
  intro p e s m args below meth c hC hret hlk
  refine z_conv (L2 := [(0, .ref (ad 17 i)), (1, iv ((j : Nat) : Int)), (2, iv mi)]) ?_ rfl rfl rfl
  refine z_aload_n hC 0 rfl dX7_beginPull_0 rfl ?_
  refine z_getR hC zfX7_9 (tmC_17 ad tc _) (okC_17 (by omega)) rfl dX7_beginPull_1 ?_
  refine z_iload_n hC 1 rfl dX7_beginPull_4 rfl ?_
  refine z_iconst hC dX7_beginPull_5 ?_
  refine z_iastore hC 0 (j) (tmC_18 ad tc _) (tysC_0 tc) (okC_18 (by omega)) (rfl) (by omega) (by decide) dX7_beginPull_6 ?_
  refine z_aload_n hC 0 rfl dX7_beginPull_7 rfl ?_
  refine z_getR hC zfX7_15 (tmC_17 ad tc _) (okC_17 (by omega)) rfl dX7_beginPull_8 ?_
  refine z_iload_n hC 1 rfl dX7_beginPull_11 rfl ?_
  refine z_iload_n hC 2 rfl dX7_beginPull_12 rfl ?_
  refine z_iastore hC 0 (j) (tmC_19 ad tc _) (tysC_0 tc) (okC_19 (by omega)) (rfl) (by omega) (by decide) dX7_beginPull_13 ?_
  exact z_vret hC hret hlk (by rfl) dX7_beginPull_14
set_option maxHeartbeats 4000000 in
set_option maxRecDepth 100000 in
theorem k_X7_leaveTop (l : Launch) (D : va_G) (tc : Nat → ClassId) (ad : Nat → Nat → Nat) (hI : zI ad okC) (M : zM) (i : Nat) (r mi : Int) (hi : i < 24) (haw : 0 ≤ M 17 i 1 ∧ M 17 i 1 < 3) : zMv l yX7_leaveTop cX7_leaveTop 3 none 0 D (tysC tc) ad okC (tmC ad tc) [.ref (ad 17 i), iv r, iv mi] M (zup (zup (zup (zup (zup M 18 i (M 17 i 1).toNat r) 19 i (M 17 i 1).toNat mi) 17 i 1 (M 17 i 1 + 1)) 17 i 0 (M 17 i 0 - 1)) 17 i 4 (M 17 i 4 + 1)) 0 0 := by
  refine z_met hI (plainFor_of_name (by decide)) (Nat.le_of_ble_eq_true rfl) ?_
  intro p e s m args below meth c hC hret hlk
  refine z_conv (L2 := [(0, .ref (ad 17 i)), (1, iv r), (2, iv mi)]) ?_ rfl rfl rfl
  refine z_aload_n hC 0 rfl dX7_leaveTop_0 rfl ?_
  refine z_getR hC zfX7_9 (tmC_17 ad tc _) (okC_17 (by omega)) rfl dX7_leaveTop_1 ?_
  refine z_aload_n hC 0 rfl dX7_leaveTop_4 rfl ?_
  refine z_getI hC zfX7_22 (tmC_17 ad tc _) (okC_17 (by omega)) rfl (x := M 17 i 1) (rfl) dX7_leaveTop_5 ?_
  refine z_iload_n hC 1 rfl dX7_leaveTop_8 rfl ?_
  refine z_iastore hC 0 ((M 17 i 1).toNat) (tmC_18 ad tc _) (tysC_0 tc) (okC_18 (by omega)) (by omega) (by omega) (by decide) dX7_leaveTop_9 ?_
  refine z_aload_n hC 0 rfl dX7_leaveTop_10 rfl ?_
  refine z_getR hC zfX7_15 (tmC_17 ad tc _) (okC_17 (by omega)) rfl dX7_leaveTop_11 ?_
  refine z_aload_n hC 0 rfl dX7_leaveTop_14 rfl ?_
  refine z_getI hC zfX7_22 (tmC_17 ad tc _) (okC_17 (by omega)) rfl (x := M 17 i 1) (by simp [zup]) dX7_leaveTop_15 ?_
  refine z_iload_n hC 2 rfl dX7_leaveTop_18 rfl ?_
  refine z_iastore hC 0 ((M 17 i 1).toNat) (tmC_19 ad tc _) (tysC_0 tc) (okC_19 (by omega)) (by omega) (by omega) (by decide) dX7_leaveTop_19 ?_
  refine z_aload_n hC 0 rfl dX7_leaveTop_20 rfl ?_
  refine z_dup hC dX7_leaveTop_21 rfl ?_
  refine z_getI hC zfX7_22 (tmC_17 ad tc _) (okC_17 (by omega)) rfl (x := M 17 i 1) (by simp [zup]) dX7_leaveTop_22 ?_
  refine z_iconst hC dX7_leaveTop_25 ?_
  refine z_iadd hC dX7_leaveTop_26 ?_
  refine z_put hC zgX7_22 (tmC_17 ad tc _) (okC_17 (by omega)) rfl dX7_leaveTop_27 ?_
  refine z_aload_n hC 0 rfl dX7_leaveTop_30 rfl ?_
  refine z_dup hC dX7_leaveTop_31 rfl ?_
  refine z_getI hC zfX7_18 (tmC_17 ad tc _) (okC_17 (by omega)) rfl (x := M 17 i 0) (by simp [zup]) dX7_leaveTop_32 ?_
  refine z_iconst hC dX7_leaveTop_35 ?_
  refine z_isub hC dX7_leaveTop_36 ?_
  refine z_put hC zgX7_18 (tmC_17 ad tc _) (okC_17 (by omega)) rfl dX7_leaveTop_37 ?_
  refine z_aload_n hC 0 rfl dX7_leaveTop_40 rfl ?_
  refine z_dup hC dX7_leaveTop_41 rfl ?_
  refine z_getI hC zfX7_25 (tmC_17 ad tc _) (okC_17 (by omega)) rfl (x := M 17 i 4) (by simp [zup]) dX7_leaveTop_42 ?_
  refine z_iconst hC dX7_leaveTop_45 ?_
  refine z_iadd hC dX7_leaveTop_46 ?_
  refine z_put hC zgX7_25 (tmC_17 ad tc _) (okC_17 (by omega)) rfl dX7_leaveTop_47 ?_
  exact z_vret hC hret hlk (by rfl) dX7_leaveTop_50
set_option maxHeartbeats 4000000 in
set_option maxRecDepth 100000 in
theorem k_X7_ridden (l : Launch) (D : va_G) (tc : Nat → ClassId) (ad : Nat → Nat → Nat) (hI : zI ad okC) (M : zM) (i : Nat) (hi : i < 24) (haw : 0 ≤ M 17 i 1 ∧ M 17 i 1 ≤ 3) (hri : ∀ k, -1 ≤ M 18 i k ∧ M 18 i k ≤ 11) : zMi l yX7_ridden cX7_ridden 3 (some .int) 0 D (tysC tc) ad okC (tmC ad tc) [.ref (ad 17 i)] M (zcnt (fun j => M 18 i j ≠ -1) (M 17 i 1).toNat) M 0 0 := by
  refine z_met hI (plainFor_of_name (by decide)) (Nat.le_of_ble_eq_true rfl) ?_
  intro p e s m args below meth c hC hret hlk
  refine z_conv (L2 := [(0, .ref (ad 17 i))]) ?_ rfl rfl rfl
  have hc4 : ∀ (d4 : Nat) (j : Nat) (hj : j ≤ (M 17 i 1).toNat), (M 17 i 1).toNat - j = d4 → zV p l e (zrm 0 0 0) s m args below meth c (MQ below (zQi D ad okC (tmC ad tc) (zcnt (fun j => M 18 i j ≠ -1) (M 17 i 1).toNat) M (zA ad okC s.heap.size)) args s 0 0 (zA ad okC s.heap.size)) D ad okC (tmC ad tc) (zA ad okC s.heap.size) s.heap 3 0 0 M [(0, .ref (ad 17 i)), (1, iv (zcnt (fun j => M 18 i j ≠ -1) j)), (2, iv ((j : Nat) : Int))] 4 [] := by
    intro d4
    induction d4 using Nat.strongRecOn with
    | _ d4 ih4 =>
      intro j hj hd4
      have hrj := hri j
      have hcj := zcnt_le (fun j => M 18 i j ≠ -1) j
      refine z_iload_n hC 2 rfl dX7_ridden_4 rfl ?_
      refine z_aload_n hC 0 rfl dX7_ridden_5 rfl ?_
      refine z_getI hC zfX7_22 (tmC_17 ad tc _) (okC_17 (by omega)) rfl (x := M 17 i 1) (rfl) dX7_ridden_6 ?_
      refine z_icmp_ge hC 31 dX7_ridden_9 (by decide) (by omega) (by omega) (fun c9 => ?_) (fun c9 => ?_)
      · skip
        have he : j = (M 17 i 1).toNat := by omega
        subst he
        refine z_iload_n hC 1 rfl dX7_ridden_31 rfl ?_
        exact z_iret hC hret hlk rfl (by rfl) (by rfl) dX7_ridden_32
      · skip
        refine z_aload_n hC 0 rfl dX7_ridden_12 rfl ?_
        refine z_getR hC zfX7_9 (tmC_17 ad tc _) (okC_17 (by omega)) rfl dX7_ridden_13 ?_
        refine z_iload_n hC 2 rfl dX7_ridden_16 rfl ?_
        refine z_iaload hC 0 (j) (tmC_18 ad tc _) (tysC_0 tc) (okC_18 (by omega)) (rfl) (by omega) (by decide) (x := M 18 i j) (rfl) dX7_ridden_17 ?_
        refine z_iconst hC dX7_ridden_18 ?_
        refine z_icmp_eq hC 25 dX7_ridden_19 (by decide) (by omega) (by omega) (fun c19 => ?_) (fun c19 => ?_)
        · skip
          refine z_iinc hC 2 (L' := [(2, iv (((j : Nat) : Int) + 1)), (0, .ref (ad 17 i)), (1, iv (zcnt (fun j => M 18 i j ≠ -1) j))]) dX7_ridden_25 rfl (by decide) rfl ?_
          refine z_goto hC 4 dX7_ridden_28 (by decide) ?_
          refine z_perm [1, 2, 0] (L' := [(0, .ref (ad 17 i)), (1, iv (zcnt (fun j => M 18 i j ≠ -1) j)), (2, iv (((j : Nat) : Int) + 1))]) rfl ?_
          exact z_conv (ih4 _ (by omega) (j + 1) (by omega) rfl) (by rfl) (by simp only [zcnt]; simp [*]) (by rfl)
        · skip
          refine z_iinc hC 1 (L' := [(1, iv (zcnt (fun j => M 18 i j ≠ -1) j + 1)), (0, .ref (ad 17 i)), (2, iv ((j : Nat) : Int))]) dX7_ridden_22 rfl (by decide) rfl ?_
          refine z_iinc hC 2 (L' := [(2, iv (((j : Nat) : Int) + 1)), (1, iv (zcnt (fun j => M 18 i j ≠ -1) j + 1)), (0, .ref (ad 17 i))]) dX7_ridden_25 rfl (by decide) rfl ?_
          refine z_goto hC 4 dX7_ridden_28 (by decide) ?_
          refine z_perm [2, 1, 0] (L' := [(0, .ref (ad 17 i)), (1, iv (zcnt (fun j => M 18 i j ≠ -1) j + 1)), (2, iv (((j : Nat) : Int) + 1))]) rfl ?_
          exact z_conv (ih4 _ (by omega) (j + 1) (by omega) rfl) (by rfl) (by simp only [zcnt]; simp [*]) (by rfl)
  refine z_iconst hC dX7_ridden_0 ?_
  refine z_istore_n hC (L' := [(1, iv 0), (0, .ref (ad 17 i))]) dX7_ridden_1 rfl (by decide) rfl ?_
  refine z_iconst hC dX7_ridden_2 ?_
  refine z_istore_n hC (L' := [(2, iv 0), (1, iv 0), (0, .ref (ad 17 i))]) dX7_ridden_3 rfl (by decide) rfl ?_
  refine z_perm [2, 1, 0] (L' := [(0, .ref (ad 17 i)), (1, iv 0), (2, iv 0)]) rfl ?_
  exact z_conv (hc4 _ 0 (by omega) rfl) (by rfl) (by rfl) (by rfl)
set_option maxHeartbeats 4000000 in
set_option maxRecDepth 100000 in
theorem k_X7_copyFrom (l : Launch) (D : va_G) (tc : Nat → ClassId) (ad : Nat → Nat → Nat) (hI : zI ad okC) (M : zM) (i : Nat) (o : Nat) (hi : i < 24) (ho : o < 24) (haw : 0 ≤ M 17 o 1 ∧ M 17 o 1 ≤ 3) : zMv l yX7_copyFrom cX7_copyFrom 3 none 0 D (tysC tc) ad okC (tmC ad tc) [.ref (ad 17 i), .ref (ad 17 o)] M (tcp M i o) 0 0 := by
  refine z_met hI (plainFor_of_name (by decide)) (Nat.le_of_ble_eq_true rfl) ?_
  intro p e s m args below meth c hC hret hlk
  refine z_conv (L2 := [(0, .ref (ad 17 i)), (1, .ref (ad 17 o))]) ?_ rfl rfl rfl
  have hc18 : ∀ (d18 : Nat) (j : Nat) (hj : j ≤ (M 17 o 1).toNat), (M 17 o 1).toNat - j = d18 → zV p l e (zrm 0 0 0) s m args below meth c (MQ below (zQv D ad okC (tmC ad tc) (tcp M i o) (zA ad okC s.heap.size)) args s 0 0 (zA ad okC s.heap.size)) D ad okC (tmC ad tc) (zA ad okC s.heap.size) s.heap 3 0 0 (tcpN (zup (zup M 17 i 0 (M 17 o 0)) 17 i 1 (M 17 o 1)) i o j) [(0, .ref (ad 17 i)), (1, .ref (ad 17 o)), (2, iv ((j : Nat) : Int))] 18 [] := by
    intro d18
    induction d18 using Nat.strongRecOn with
    | _ d18 ih18 =>
      intro j hj hd18
      refine z_iload_n hC 2 rfl dX7_copyFrom_18 rfl ?_
      refine z_aload_n hC 0 rfl dX7_copyFrom_19 rfl ?_
      refine z_getI hC zfX7_22 (tmC_17 ad tc _) (okC_17 (by omega)) rfl (x := M 17 o 1) (by simp [zup, tcpN_fr (f := 17) (by decide)]) dX7_copyFrom_20 ?_
      refine z_icmp_ge hC 56 dX7_copyFrom_23 (by decide) (by omega) (by omega) (fun c23 => ?_) (fun c23 => ?_)
      · skip
        have he : j = (M 17 o 1).toNat := by omega
        subst he
        refine z_aload_n hC 0 rfl dX7_copyFrom_56 rfl ?_
        refine z_aload_n hC 1 rfl dX7_copyFrom_57 rfl ?_
        refine z_getI hC zfX7_25 (tmC_17 ad tc _) (okC_17 (by omega)) rfl (x := M 17 o 4) (by simp [zup, tcpN_fr (f := 17) (by decide)]) dX7_copyFrom_58 ?_
        refine z_put hC zgX7_25 (tmC_17 ad tc _) (okC_17 (by omega)) rfl dX7_copyFrom_61 ?_
        refine z_aload_n hC 0 rfl dX7_copyFrom_64 rfl ?_
        refine z_aload_n hC 1 rfl dX7_copyFrom_65 rfl ?_
        refine z_getI hC zfX7_28 (tmC_17 ad tc _) (okC_17 (by omega)) rfl (x := M 17 o 5) (by simp [zup, tcpN_fr (f := 17) (by decide)]) dX7_copyFrom_66 ?_
        refine z_put hC zgX7_28 (tmC_17 ad tc _) (okC_17 (by omega)) rfl dX7_copyFrom_69 ?_
        exact z_vret hC hret hlk (by simp only [tcp]) dX7_copyFrom_72
      · skip
        refine z_aload_n hC 0 rfl dX7_copyFrom_26 rfl ?_
        refine z_getR hC zfX7_9 (tmC_17 ad tc _) (okC_17 (by omega)) rfl dX7_copyFrom_27 ?_
        refine z_iload_n hC 2 rfl dX7_copyFrom_30 rfl ?_
        refine z_aload_n hC 1 rfl dX7_copyFrom_31 rfl ?_
        refine z_getR hC zfX7_9 (tmC_17 ad tc _) (okC_17 (by omega)) rfl dX7_copyFrom_32 ?_
        refine z_iload_n hC 2 rfl dX7_copyFrom_35 rfl ?_
        refine z_iaload hC 0 (j) (tmC_18 ad tc _) (tysC_0 tc) (okC_18 (by omega)) (rfl) (by omega) (by decide) (x := (tcpN (zup (zup M 17 i 0 (M 17 o 0)) 17 i 1 (M 17 o 1)) i o j) 18 o j) (rfl) dX7_copyFrom_36 ?_
        refine z_iastore hC 0 (j) (tmC_18 ad tc _) (tysC_0 tc) (okC_18 (by omega)) (rfl) (by omega) (by decide) dX7_copyFrom_37 ?_
        refine z_aload_n hC 0 rfl dX7_copyFrom_38 rfl ?_
        refine z_getR hC zfX7_15 (tmC_17 ad tc _) (okC_17 (by omega)) rfl dX7_copyFrom_39 ?_
        refine z_iload_n hC 2 rfl dX7_copyFrom_42 rfl ?_
        refine z_aload_n hC 1 rfl dX7_copyFrom_43 rfl ?_
        refine z_getR hC zfX7_15 (tmC_17 ad tc _) (okC_17 (by omega)) rfl dX7_copyFrom_44 ?_
        refine z_iload_n hC 2 rfl dX7_copyFrom_47 rfl ?_
        refine z_iaload hC 0 (j) (tmC_19 ad tc _) (tysC_0 tc) (okC_19 (by omega)) (rfl) (by omega) (by decide) (x := (tcpN (zup (zup M 17 i 0 (M 17 o 0)) 17 i 1 (M 17 o 1)) i o j) 19 o j) (by simp [zup]) dX7_copyFrom_48 ?_
        refine z_iastore hC 0 (j) (tmC_19 ad tc _) (tysC_0 tc) (okC_19 (by omega)) (rfl) (by omega) (by decide) dX7_copyFrom_49 ?_
        refine z_iinc hC 2 (L' := [(2, iv (((j : Nat) : Int) + 1)), (0, .ref (ad 17 i)), (1, .ref (ad 17 o))]) dX7_copyFrom_50 rfl (by decide) rfl ?_
        refine z_goto hC 18 dX7_copyFrom_53 (by decide) ?_
        refine z_perm [1, 2, 0] (L' := [(0, .ref (ad 17 i)), (1, .ref (ad 17 o)), (2, iv (((j : Nat) : Int) + 1))]) rfl ?_
        exact z_conv (ih18 _ (by omega) (j + 1) (by omega) rfl) (by rfl) (by rfl) (by rfl)
  refine z_aload_n hC 0 rfl dX7_copyFrom_0 rfl ?_
  refine z_aload_n hC 1 rfl dX7_copyFrom_1 rfl ?_
  refine z_getI hC zfX7_18 (tmC_17 ad tc _) (okC_17 (by omega)) rfl (x := M 17 o 0) (rfl) dX7_copyFrom_2 ?_
  refine z_put hC zgX7_18 (tmC_17 ad tc _) (okC_17 (by omega)) rfl dX7_copyFrom_5 ?_
  refine z_aload_n hC 0 rfl dX7_copyFrom_8 rfl ?_
  refine z_aload_n hC 1 rfl dX7_copyFrom_9 rfl ?_
  refine z_getI hC zfX7_22 (tmC_17 ad tc _) (okC_17 (by omega)) rfl (x := M 17 o 1) (by simp [zup]) dX7_copyFrom_10 ?_
  refine z_put hC zgX7_22 (tmC_17 ad tc _) (okC_17 (by omega)) rfl dX7_copyFrom_13 ?_
  refine z_iconst hC dX7_copyFrom_16 ?_
  refine z_istore_n hC (L' := [(2, iv 0), (0, .ref (ad 17 i)), (1, .ref (ad 17 o))]) dX7_copyFrom_17 rfl (by decide) rfl ?_
  refine z_perm [1, 2, 0] (L' := [(0, .ref (ad 17 i)), (1, .ref (ad 17 o)), (2, iv 0)]) rfl ?_
  exact z_conv (hc18 _ 0 (by omega) rfl) (by rfl) (by rfl) (by rfl)
set_option maxHeartbeats 4000000 in
set_option maxRecDepth 100000 in
theorem k_X7_dropPulled (l : Launch) (D : va_G) (tc : Nat → ClassId) (ad : Nat → Nat → Nat) (hI : zI ad okC) (M : zM) (i : Nat) (hi : i < 24) (haw : 0 ≤ M 17 i 1 ∧ M 17 i 1 ≤ 3) (hml : ∀ k, -1000000 ≤ M 19 i k ∧ M 19 i k ≤ 1000000) : zMv l yX7_dropPulled cX7_dropPulled 3 none 0 D (tysC tc) ad okC (tmC ad tc) [.ref (ad 17 i)] M (dropC M i) 0 0 := by
  refine z_met hI (plainFor_of_name (by decide)) (Nat.le_of_ble_eq_true rfl) ?_
  intro p e s m args below meth c hC hret hlk
  refine z_conv (L2 := [(0, .ref (ad 17 i))]) ?_ rfl rfl rfl
  have hc4 : ∀ (d4 : Nat) (j : Nat) (hj : j ≤ (M 17 i 1).toNat), (M 17 i 1).toNat - j = d4 → zV p l e (zrm 0 0 0) s m args below meth c (MQ below (zQv D ad okC (tmC ad tc) (dropC M i) (zA ad okC s.heap.size)) args s 0 0 (zA ad okC s.heap.size)) D ad okC (tmC ad tc) (zA ad okC s.heap.size) s.heap 3 0 0 ((dropN M i j).1) [(0, .ref (ad 17 i)), (1, iv (((dropN M i j).2 : Nat) : Int)), (2, iv ((j : Nat) : Int))] 4 [] := by
    intro d4
    induction d4 using Nat.strongRecOn with
    | _ d4 ih4 =>
      intro j hj hd4
      have hkj := dropN_le M i j
      have hz : ∀ k, -1000000 ≤ (dropN M i j).1 19 i k ∧ (dropN M i j).1 19 i k ≤ 1000000 := dropN_bd hml j
      have hzj := hz j
      have haw2 : (dropN M i j).1 17 = M 17 := dropN_fr (by decide)
      refine z_iload_n hC 2 rfl dX7_dropPulled_4 rfl ?_
      refine z_aload_n hC 0 rfl dX7_dropPulled_5 rfl ?_
      refine z_getI hC zfX7_22 (tmC_17 ad tc _) (okC_17 (by omega)) rfl (x := M 17 i 1) (by simp [zup, dropN_fr (f := 17) (by decide)]) dX7_dropPulled_6 ?_
      refine z_icmp_ge hC 54 dX7_dropPulled_9 (by decide) (by omega) (by omega) (fun c9 => ?_) (fun c9 => ?_)
      · skip
        have he : j = (M 17 i 1).toNat := by omega
        subst he
        refine z_aload_n hC 0 rfl dX7_dropPulled_54 rfl ?_
        refine z_dup hC dX7_dropPulled_55 rfl ?_
        refine z_getI hC zfX7_18 (tmC_17 ad tc _) (okC_17 (by omega)) rfl (x := M 17 i 0) (by simp [zup, dropN_fr (f := 17) (by decide)]) dX7_dropPulled_56 ?_
        refine z_aload_n hC 0 rfl dX7_dropPulled_59 rfl ?_
        refine z_getI hC zfX7_22 (tmC_17 ad tc _) (okC_17 (by omega)) rfl (x := M 17 i 1) (by simp [zup, dropN_fr (f := 17) (by decide)]) dX7_dropPulled_60 ?_
        refine z_iload_n hC 1 rfl dX7_dropPulled_63 rfl ?_
        refine z_isub hC dX7_dropPulled_64 ?_
        refine z_iadd hC dX7_dropPulled_65 ?_
        refine z_put hC zgX7_18 (tmC_17 ad tc _) (okC_17 (by omega)) rfl dX7_dropPulled_66 ?_
        refine z_aload_n hC 0 rfl dX7_dropPulled_69 rfl ?_
        refine z_iload_n hC 1 rfl dX7_dropPulled_70 rfl ?_
        refine z_put hC zgX7_22 (tmC_17 ad tc _) (okC_17 (by omega)) rfl dX7_dropPulled_71 ?_
        exact z_vret hC hret hlk (by simp only [dropC]) dX7_dropPulled_74
      · skip
        refine z_aload_n hC 0 rfl dX7_dropPulled_12 rfl ?_
        refine z_getR hC zfX7_15 (tmC_17 ad tc _) (okC_17 (by omega)) rfl dX7_dropPulled_13 ?_
        refine z_iload_n hC 2 rfl dX7_dropPulled_16 rfl ?_
        refine z_iaload hC 0 (j) (tmC_19 ad tc _) (tysC_0 tc) (okC_19 (by omega)) (rfl) (by omega) (by decide) (x := ((dropN M i j).1) 19 i j) (rfl) dX7_dropPulled_17 ?_
        refine z_if_le hC 48 dX7_dropPulled_18 (by decide) (by omega) (fun c18 => ?_) (fun c18 => ?_)
        · skip
          refine z_iinc hC 2 (L' := [(2, iv (((j : Nat) : Int) + 1)), (0, .ref (ad 17 i)), (1, iv (((dropN M i j).2 : Nat) : Int))]) dX7_dropPulled_48 rfl (by decide) rfl ?_
          refine z_goto hC 4 dX7_dropPulled_51 (by decide) ?_
          refine z_perm [1, 2, 0] (L' := [(0, .ref (ad 17 i)), (1, iv (((dropN M i j).2 : Nat) : Int)), (2, iv (((j : Nat) : Int) + 1))]) rfl ?_
          exact z_conv (ih4 _ (by omega) (j + 1) (by omega) rfl) (by simp only [dropN, zit, dropS]; simp only [dropN] at *; first | (rw [if_pos (by assumption)]; (try rfl); done) | (rw [if_neg (by omega)]; (try simp [zup]); done)) (by simp only [dropN, zit, dropS]; simp only [dropN] at *; first | (rw [if_pos (by assumption)]; (try rfl); done) | (rw [if_neg (by omega)]; (try rfl); done)) (by rfl)
        · skip
          refine z_aload_n hC 0 rfl dX7_dropPulled_21 rfl ?_
          refine z_getR hC zfX7_9 (tmC_17 ad tc _) (okC_17 (by omega)) rfl dX7_dropPulled_22 ?_
          refine z_iload_n hC 1 rfl dX7_dropPulled_25 rfl ?_
          refine z_aload_n hC 0 rfl dX7_dropPulled_26 rfl ?_
          refine z_getR hC zfX7_9 (tmC_17 ad tc _) (okC_17 (by omega)) rfl dX7_dropPulled_27 ?_
          refine z_iload_n hC 2 rfl dX7_dropPulled_30 rfl ?_
          refine z_iaload hC 0 (j) (tmC_18 ad tc _) (tysC_0 tc) (okC_18 (by omega)) (rfl) (by omega) (by decide) (x := ((dropN M i j).1) 18 i j) (rfl) dX7_dropPulled_31 ?_
          refine z_iastore hC 0 ((dropN M i j).2) (tmC_18 ad tc _) (tysC_0 tc) (okC_18 (by omega)) (rfl) (by omega) (by decide) dX7_dropPulled_32 ?_
          refine z_aload_n hC 0 rfl dX7_dropPulled_33 rfl ?_
          refine z_getR hC zfX7_15 (tmC_17 ad tc _) (okC_17 (by omega)) rfl dX7_dropPulled_34 ?_
          refine z_iload_n hC 1 rfl dX7_dropPulled_37 rfl ?_
          refine z_aload_n hC 0 rfl dX7_dropPulled_38 rfl ?_
          refine z_getR hC zfX7_15 (tmC_17 ad tc _) (okC_17 (by omega)) rfl dX7_dropPulled_39 ?_
          refine z_iload_n hC 2 rfl dX7_dropPulled_42 rfl ?_
          refine z_iaload hC 0 (j) (tmC_19 ad tc _) (tysC_0 tc) (okC_19 (by omega)) (rfl) (by omega) (by decide) (x := ((dropN M i j).1) 19 i j) (by simp [zup]) dX7_dropPulled_43 ?_
          refine z_iastore hC 0 ((dropN M i j).2) (tmC_19 ad tc _) (tysC_0 tc) (okC_19 (by omega)) (rfl) (by omega) (by decide) dX7_dropPulled_44 ?_
          refine z_iinc hC 1 (L' := [(1, iv ((((dropN M i j).2 : Nat) : Int) + 1)), (0, .ref (ad 17 i)), (2, iv ((j : Nat) : Int))]) dX7_dropPulled_45 rfl (by decide) rfl ?_
          refine z_iinc hC 2 (L' := [(2, iv (((j : Nat) : Int) + 1)), (1, iv ((((dropN M i j).2 : Nat) : Int) + 1)), (0, .ref (ad 17 i))]) dX7_dropPulled_48 rfl (by decide) rfl ?_
          refine z_goto hC 4 dX7_dropPulled_51 (by decide) ?_
          refine z_perm [2, 1, 0] (L' := [(0, .ref (ad 17 i)), (1, iv ((((dropN M i j).2 : Nat) : Int) + 1)), (2, iv (((j : Nat) : Int) + 1))]) rfl ?_
          exact z_conv (ih4 _ (by omega) (j + 1) (by omega) rfl) (by simp only [dropN, zit, dropS]; simp only [dropN] at *; first | (rw [if_pos (by assumption)]; (try rfl); done) | (rw [if_neg (by omega)]; (try simp [zup]); done)) (by simp only [dropN, zit, dropS]; simp only [dropN] at *; first | (rw [if_pos (by assumption)]; (try rfl); done) | (rw [if_neg (by omega)]; (try rfl); done)) (by rfl)
  refine z_iconst hC dX7_dropPulled_0 ?_
  refine z_istore_n hC (L' := [(1, iv 0), (0, .ref (ad 17 i))]) dX7_dropPulled_1 rfl (by decide) rfl ?_
  refine z_iconst hC dX7_dropPulled_2 ?_
  refine z_istore_n hC (L' := [(2, iv 0), (1, iv 0), (0, .ref (ad 17 i))]) dX7_dropPulled_3 rfl (by decide) rfl ?_
  refine z_perm [2, 1, 0] (L' := [(0, .ref (ad 17 i)), (1, iv 0), (2, iv 0)]) rfl ?_
  exact z_conv (hc4 _ 0 (by omega) rfl) (by rfl) (by rfl) (by rfl)
end
section
/-- the range of each place of the memory, T: the minutes that have gone by at most, U: how far counters of minutes may be off -/
def inC (T U : Int) (f k : Nat) (v : Int) : Prop := match f, k with
  | 1, 4 => 0 ≤ v ∧ v ≤ 8
  | 1, 5 => 0 ≤ v ∧ v ≤ 12
  | 1, 6 => 0 ≤ v ∧ v ≤ 12
  | 5, _ => 0 ≤ v ∧ v ≤ 9
  | 6, 0 => 0 ≤ v ∧ v ≤ 40
  | 6, 1 => 0 ≤ v ∧ v ≤ 40
  | 6, 2 => 0 ≤ v ∧ v ≤ 60
  | 7, 0 => 0 ≤ v ∧ v ≤ 7
  | 7, 1 => 0 ≤ v ∧ v ≤ 7
  | 7, 2 => 0 ≤ v ∧ v ≤ 150
  | 7, 3 => 0 ≤ v ∧ v ≤ 80
  | 7, 4 => 0 ≤ v ∧ v ≤ 60
  | 8, 1 => 0 ≤ v ∧ v ≤ 7
  | 8, 2 => 0 ≤ v ∧ v ≤ 120
  | 8, 3 => 0 ≤ v ∧ v ≤ 60
  | 10, _ => -1 ≤ v ∧ v ≤ 8
  | 11, _ => -1 ≤ v ∧ v ≤ 11
  | 12, 4 => 0 ≤ v ∧ v ≤ 12
  | 12, 5 => 0 ≤ v ∧ v ≤ T
  | 15, _ => 0 ≤ v ∧ v ≤ 11
  | 16, 0 => 0 ≤ v ∧ v ≤ 3
  | 16, 1 => -1 ≤ v ∧ v ≤ 7
  | 16, 2 => -1 ≤ v ∧ v ≤ 11
  | 16, 3 => -(1000 + U) ≤ v ∧ v ≤ 1000 + U
  | 17, 0 => 0 ≤ v ∧ v ≤ 3
  | 17, 1 => 0 ≤ v ∧ v ≤ 3
  | 18, _ => -1 ≤ v ∧ v ≤ 11
  | 19, _ => -(1000 + U) ≤ v ∧ v ≤ 1000
  | _, _ => True
def WTC (T U : Int) (M : zM) : Prop := (∀ f i k, inC T U f k (M f i k)) ∧ (∀ i, M 17 i 0 + M 17 i 1 ≤ 3) ∧ (0 ≤ T ∧ T ≤ 100000) ∧ (0 ≤ U ∧ U ≤ 10000000)
theorem WTC.up {T U : Int} {M : zM} (h : WTC T U M) {f i k : Nat} {v : Int} (hf : f ≠ 17) (hv : inC T U f k v) : WTC T U (zup M f i k v) := by
  refine ⟨fun f' i' k' => ?_, fun i' => ?_, h.2.2⟩
  · simp only [zup]
    split
    · rename_i q; obtain ⟨rfl, rfl, rfl⟩ := q; exact hv
    · exact h.1 f' i' k'
  · simp only [zup]
    rw [if_neg (fun q => hf q.1.symm), if_neg (fun q => hf q.1.symm)]
    exact h.2.1 i'
theorem WTC.it {T U : Int} {f : Nat → zM → zM} (n : Nat) (h : ∀ j, j < n → ∀ M, WTC T U M → WTC T U (f j M)) {M : zM} (hM : WTC T U M) : WTC T U (zit f n M) := by
  induction n with
  | zero => exact hM
  | succ n ih => exact h n (Nat.lt_succ_self n) _ (ih (fun j hj => h j (Nat.lt_succ_of_lt hj)))
theorem zcnt_mono (P : Nat → Prop) [DecidablePred P] {m n : Nat} (h : m ≤ n) : zcnt P m ≤ zcnt P n := by
  induction n with
  | zero => rw [show m = 0 by omega]; exact Int.le_refl _
  | succ n ih =>
    by_cases q : m ≤ n
    · have := ih q; simp only [zcnt]; split <;> omega
    · rw [show m = n + 1 by omega]; exact Int.le_refl _
def linesFromC (M : zM) (i : Nat) (q : Int) : Int := if 0 ≤ q ∧ q ≤ 7 then M 10 i q.toNat else -1
def firstFromC (M : zM) (i : Nat) (q : Int) : Int := if 0 ≤ q ∧ q ≤ 7 then M 11 i q.toNat else -1
theorem linesFromC_bd {T U : Int} {M : zM} (h : WTC T U M) (i : Nat) (q : Int) : -1 ≤ linesFromC M i q ∧ linesFromC M i q ≤ 8 := by
  simp only [linesFromC]; split
  · exact h.1 10 i q.toNat
  · omega
theorem firstFromC_bd {T U : Int} {M : zM} (h : WTC T U M) (i : Nat) (q : Int) : -1 ≤ firstFromC M i q ∧ firstFromC M i q ≤ 11 := by
  simp only [firstFromC]; split
  · exact h.1 11 i q.toNat
  · omega
def extendC (M : zM) (i ln : Nat) (n far w : Int) : zM :=
  if 0 ≤ M 7 ln 0 ∧ M 7 ln 0 ≤ 7 then
    if M 10 i (M 7 ln 0).toNat = -1 then
      if w ≤ M 7 ln 2 then
        if linesFromC M i (M 7 ln 1) = far - 1 then zup (zup M 10 i (M 7 ln 0).toNat far) 11 i (M 7 ln 0).toNat n else M
      else M
    else M
  else M
theorem extendC_fr {M : zM} {i ln : Nat} {n far w : Int} {f : Nat} (h : ¬ (f = 10 ∨ f = 11)) : extendC M i ln n far w f = M f := by
  simp only [extendC]
  repeat' split
  all_goals first | rfl | (rw [zup_fr (by omega), zup_fr (by omega)])
theorem extendC_wt {T U : Int} {M : zM} (h : WTC T U M) {i ln : Nat} {n far w : Int} (hn : -1 ≤ n ∧ n ≤ 11) (hf : -1 ≤ far ∧ far ≤ 8) : WTC T U (extendC M i ln n far w) := by
  simp only [extendC]
  repeat' split
  all_goals first | exact h | exact (h.up (f := 10) (by decide) hf).up (f := 11) (by decide) hn
def planIS (i : Nat) (g : Int) (j : Nat) (M : zM) : zM := zup (zup M 10 i j (if (j : Int) = g then 0 else -1)) 11 i j (-1)
def planI (M : zM) (i : Nat) (g : Int) (n : Nat) : zM := zit (planIS i g) n M
theorem planI_fr {M : zM} {i : Nat} {g : Int} {n f : Nat} (h : ¬ (f = 10 ∨ f = 11)) : planI M i g n f = M f := zit_fr (fun j M => by rw [planIS, zup_fr (by omega), zup_fr (by omega)]) n M
theorem planI_wt {T U : Int} {M : zM} (h : WTC T U M) {i : Nat} {g : Int} {n : Nat} : WTC T U (planI M i g n) := WTC.it n (fun j _ M h => ((h.up (f := 10) (by decide) (by split <;> exact ⟨by omega, by omega⟩)).up (f := 11) (by decide) ⟨by omega, by omega⟩)) h
def planL (M : zM) (i : Nat) (far w : Int) (n : Nat) : zM := zit (fun l M => extendC M i l (l : Int) far w) n M
theorem planL_fr {M : zM} {i : Nat} {far w : Int} {n f : Nat} (h : ¬ (f = 10 ∨ f = 11)) : planL M i far w n f = M f := zit_fr (fun j M => extendC_fr h) n M
theorem planL_wt {T U : Int} {M : zM} (h : WTC T U M) {i : Nat} {far w : Int} {n : Nat} (hf : -1 ≤ far ∧ far ≤ 8) (hn : n ≤ 12) : WTC T U (planL M i far w n) := WTC.it n (fun j hj M h => extendC_wt h ⟨by omega, by omega⟩ hf) h
def planF (M : zM) (i : Nat) (w : Int) (lc n : Nat) : zM := zit (fun k M => planL M i ((k : Int) + 1) w lc) n M
theorem planF_fr {M : zM} {i : Nat} {w : Int} {lc n f : Nat} (h : ¬ (f = 10 ∨ f = 11)) : planF M i w lc n f = M f := zit_fr (fun j M => planL_fr h) n M
theorem planF_wt {T U : Int} {M : zM} (h : WTC T U M) {i : Nat} {w : Int} {lc n : Nat} (hn : n ≤ 7) (hl : lc ≤ 12) : WTC T U (planF M i w lc n) := WTC.it n (fun j hj M h => planL_wt h ⟨by omega, by omega⟩ hl) h
def planC (M : zM) (i : Nat) (g w : Int) : zM := planF (planI M i g 8) i w (M 1 0 5).toNat ((M 1 0 4) - 1).toNat
theorem planC_fr {M : zM} {i : Nat} {g w : Int} {f : Nat} (h : ¬ (f = 10 ∨ f = 11)) : planC M i g w f = M f := by rw [planC, planF_fr h, planI_fr h]
theorem planC_wt {T U : Int} {M : zM} (h : WTC T U M) {i : Nat} {g w : Int} : WTC T U (planC M i g w) := by
  have h1 : 0 ≤ M 1 0 4 ∧ M 1 0 4 ≤ 8 := h.1 1 0 4
  have h2 : 0 ≤ M 1 0 5 ∧ M 1 0 5 ≤ 12 := h.1 1 0 5
  exact planF_wt (planI_wt h) (by omega) (by omega)
def addPlatformC (M : zM) (x y h : Int) : zM := zup (zup (zup (zup M 6 (M 1 0 4).toNat 0 x) 6 (M 1 0 4).toNat 1 y) 6 (M 1 0 4).toNat 2 h) 1 0 4 (M 1 0 4 + 1)
def planAll (M : zM) (n : Nat) : zM := zit (fun j M => planC M j (M 8 j 1) (M 8 j 2)) n M
theorem planAll_fr {M : zM} {n f : Nat} (h : ¬ (f = 10 ∨ f = 11)) : planAll M n f = M f := zit_fr (fun j M => planC_fr h) n M
theorem planAll_wt {T U : Int} {M : zM} (h : WTC T U M) {n : Nat} : WTC T U (planAll M n) := WTC.it n (fun j hj M h => planC_wt h) h
def addLine0 (M : zM) (t b mo : Int) : zM :=
  zup (zup (zup (zup (zup (zup M 7 (M 1 0 5).toNat 0 t) 7 (M 1 0 5).toNat 1 b) 7 (M 1 0 5).toNat 2 mo) 7 (M 1 0 5).toNat 3 (absC (M 6 t.toNat 0 - M 6 b.toNat 0) + absC (M 6 t.toNat 1 - M 6 b.toNat 1))) 7 (M 1 0 5).toNat 4 (M 6 t.toNat 2 - M 6 b.toNat 2)) 1 0 5 (M 1 0 5 + 1)
theorem absC_bd {a b : Int} (ha : 0 ≤ a ∧ a ≤ 40) (hb : 0 ≤ b ∧ b ≤ 40) : 0 ≤ absC (a - b) ∧ absC (a - b) ≤ 40 := by simp only [absC]; split <;> omega
theorem addLine0_wt {T U : Int} {M : zM} (h : WTC T U M) {t b mo : Int} (ht : 0 ≤ t ∧ t ≤ 7) (hb : 0 ≤ b ∧ b ≤ 7) (hm : 0 ≤ mo ∧ mo ≤ 150) (hl : M 6 b.toNat 2 ≤ M 6 t.toNat 2) (hc : M 1 0 5 < 12) : WTC T U (addLine0 M t b mo) := by
  have h1 := absC_bd (h.1 6 t.toNat 0) (h.1 6 b.toNat 0)
  have h2 := absC_bd (h.1 6 t.toNat 1) (h.1 6 b.toNat 1)
  have h3 : 0 ≤ M 6 t.toNat 2 ∧ M 6 t.toNat 2 ≤ 60 := h.1 6 t.toNat 2
  have h4 : 0 ≤ M 6 b.toNat 2 ∧ M 6 b.toNat 2 ≤ 60 := h.1 6 b.toNat 2
  have h5 : 0 ≤ M 1 0 5 ∧ M 1 0 5 ≤ 12 := h.1 1 0 5
  exact (((((h.up (f := 7) (k := 0) (by decide) ht).up (f := 7) (k := 1) (by decide) hb).up (f := 7) (k := 2) (by decide) hm).up (f := 7) (k := 3) (by decide) (show _ ∧ _ from ⟨by omega, by omega⟩)).up (f := 7) (k := 4) (by decide) (show _ ∧ _ from ⟨by omega, by omega⟩)).up (f := 1) (k := 5) (by decide) (show _ ∧ _ from ⟨by omega, by omega⟩)
theorem addLine0_fr {M : zM} {t b mo : Int} {f : Nat} (h : ¬ (f = 7 ∨ f = 1)) : addLine0 M t b mo f = M f := by
  simp only [addLine0]; repeat rw [zup_fr (by omega)]
def addLineC (M : zM) (t b mo : Int) : zM := planAll (addLine0 M t b mo) (M 1 0 6).toNat
def addRider0 (M : zM) (g w pa : Int) : zM := zup (zup (zup M 8 (M 1 0 6).toNat 1 g) 8 (M 1 0 6).toNat 2 w) 8 (M 1 0 6).toNat 3 pa
def addRiderC (M : zM) (g w pa : Int) : zM := zup (planC (addRider0 M g w pa) (M 1 0 6).toNat ((addRider0 M g w pa) 8 (M 1 0 6).toNat 1) ((addRider0 M g w pa) 8 (M 1 0 6).toNat 2)) 1 0 6 (M 1 0 6 + 1)
set_option maxHeartbeats 4000000 in
set_option maxRecDepth 100000 in
theorem k_X8_within (l : Launch) (D : va_G) (tc : Nat → ClassId) (ad : Nat → Nat → Nat) (hI : zI ad okC) (M : zM) (a lo hi : Int) (ha : -2147483648 ≤ a ∧ a < 2147483648) (hb : -2147483648 ≤ lo ∧ lo < 2147483648) (hc : -2147483648 ≤ hi ∧ hi < 2147483648) : zMi l yX8_within cX8_within 3 (some .boolean) 0 D (tysC tc) ad okC (tmC ad tc) [iv a, iv lo, iv hi] M (if lo ≤ a ∧ a ≤ hi then 1 else 0) M 0 0 := by
  refine z_met hI (plainFor_of_name (by decide)) (Nat.le_of_ble_eq_true rfl) ?_
  intro p e s m args below meth c hC hret hlk
  refine z_conv (L2 := [(0, iv a), (1, iv lo), (2, iv hi)]) ?_ rfl rfl rfl
  refine z_iload_n hC 0 rfl dX8_within_0 rfl ?_
  refine z_iload_n hC 1 rfl dX8_within_1 rfl ?_
  refine z_icmp_lt hC 14 dX8_within_2 (by decide) (by omega) (by omega) (fun c2 => ?_) (fun c2 => ?_)
  · skip
    refine z_iconst hC dX8_within_14 ?_
    exact z_iret hC hret hlk (by decide) (by first | rw [if_pos (by omega)] | rw [if_neg (by omega)]) (by rfl) dX8_within_15
  · skip
    refine z_iload_n hC 0 rfl dX8_within_5 rfl ?_
    refine z_iload_n hC 2 rfl dX8_within_6 rfl ?_
    refine z_icmp_gt hC 14 dX8_within_7 (by decide) (by omega) (by omega) (fun c7 => ?_) (fun c7 => ?_)
    · skip
      refine z_iconst hC dX8_within_14 ?_
      exact z_iret hC hret hlk (by decide) (by first | rw [if_pos (by omega)] | rw [if_neg (by omega)]) (by rfl) dX8_within_15
    · skip
      refine z_iconst hC dX8_within_10 ?_
      refine z_goto hC 15 dX8_within_11 (by decide) ?_
      exact z_iret hC hret hlk (by decide) (by first | rw [if_pos (by omega)] | rw [if_neg (by omega)]) (by rfl) dX8_within_15
set_option maxHeartbeats 4000000 in
set_option maxRecDepth 100000 in
theorem k_X4_linesFrom (l : Launch) (D : va_G) (tc : Nat → ClassId) (ad : Nat → Nat → Nat) (hI : zI ad okC) (M : zM) (i : Nat) (q : Int) (hi : i < 13) (hq : -2147483648 ≤ q ∧ q < 2147483648) : zMi l yX4_linesFrom cX4_linesFrom 2 (some .int) 1 D (tysC tc) ad okC (tmC ad tc) [.ref (ad 9 i), iv q] M (linesFromC M i q) M 0 0 := by
  refine z_met hI (plainFor_of_name (by decide)) (Nat.le_of_ble_eq_true rfl) ?_
  intro p e s m args below meth c hC hret hlk
  refine z_conv (L2 := [(0, .ref (ad 9 i)), (1, iv q)]) ?_ rfl rfl rfl
  refine z_iload_n hC 1 rfl dX4_linesFrom_0 rfl ?_
  refine z_iconst hC dX4_linesFrom_1 ?_
  refine z_bipush hC dX4_linesFrom_2 (by decide) ?_
  refine z_callSiN hC zlX4_39 (k_X8_within l D tc ad hI M q 0 7 (by omega) (by omega) (by omega)) rfl rfl (Nat.le_of_ble_eq_true rfl) ⟨by decide, by decide⟩ ⟨by decide, by decide⟩ dX4_linesFrom_4 ?_
  refine z_if_eq_b hC 19 dX4_linesFrom_7 (by decide) (fun c7 => ?_) (fun c7 => ?_)
  · skip
    refine z_iconst hC dX4_linesFrom_19 ?_
    exact z_iret hC hret hlk rfl (by simp only [linesFromC]; first | rw [if_pos (by omega)] | rw [if_neg (by omega)]) (by rfl) dX4_linesFrom_20
  · skip
    refine z_aload_n hC 0 rfl dX4_linesFrom_10 rfl ?_
    refine z_getR hC zfX4_9 (tmC_9 ad tc _) (okC_9 (by omega)) rfl dX4_linesFrom_11 ?_
    refine z_iload_n hC 1 rfl dX4_linesFrom_14 rfl ?_
    refine z_iaload hC 0 ((q).toNat) (tmC_10 ad tc _) (tysC_0 tc) (okC_10 (by omega)) (by omega) (by omega) (by decide) (x := M 10 i ((q).toNat)) (rfl) dX4_linesFrom_15 ?_
    refine z_goto hC 20 dX4_linesFrom_16 (by decide) ?_
    exact z_iret hC hret hlk rfl (by simp only [linesFromC]; first | rw [if_pos (by omega)] | rw [if_neg (by omega)]) (by rfl) dX4_linesFrom_20
set_option maxHeartbeats 4000000 in
set_option maxRecDepth 100000 in
theorem k_X4_firstFrom (l : Launch) (D : va_G) (tc : Nat → ClassId) (ad : Nat → Nat → Nat) (hI : zI ad okC) (M : zM) (i : Nat) (q : Int) (hi : i < 13) (hq : -2147483648 ≤ q ∧ q < 2147483648) : zMi l yX4_firstFrom cX4_firstFrom 2 (some .int) 1 D (tysC tc) ad okC (tmC ad tc) [.ref (ad 9 i), iv q] M (firstFromC M i q) M 0 0 := by
  refine z_met hI (plainFor_of_name (by decide)) (Nat.le_of_ble_eq_true rfl) ?_
  intro p e s m args below meth c hC hret hlk
  refine z_conv (L2 := [(0, .ref (ad 9 i)), (1, iv q)]) ?_ rfl rfl rfl
  refine z_iload_n hC 1 rfl dX4_firstFrom_0 rfl ?_
  refine z_iconst hC dX4_firstFrom_1 ?_
  refine z_bipush hC dX4_firstFrom_2 (by decide) ?_
  refine z_callSiN hC zlX4_39 (k_X8_within l D tc ad hI M q 0 7 (by omega) (by omega) (by omega)) rfl rfl (Nat.le_of_ble_eq_true rfl) ⟨by decide, by decide⟩ ⟨by decide, by decide⟩ dX4_firstFrom_4 ?_
  refine z_if_eq_b hC 19 dX4_firstFrom_7 (by decide) (fun c7 => ?_) (fun c7 => ?_)
  · skip
    refine z_iconst hC dX4_firstFrom_19 ?_
    exact z_iret hC hret hlk rfl (by simp only [firstFromC]; first | rw [if_pos (by omega)] | rw [if_neg (by omega)]) (by rfl) dX4_firstFrom_20
  · skip
    refine z_aload_n hC 0 rfl dX4_firstFrom_10 rfl ?_
    refine z_getR hC zfX4_15 (tmC_9 ad tc _) (okC_9 (by omega)) rfl dX4_firstFrom_11 ?_
    refine z_iload_n hC 1 rfl dX4_firstFrom_14 rfl ?_
    refine z_iaload hC 0 ((q).toNat) (tmC_11 ad tc _) (tysC_0 tc) (okC_11 (by omega)) (by omega) (by omega) (by decide) (x := M 11 i ((q).toNat)) (rfl) dX4_firstFrom_15 ?_
    refine z_goto hC 20 dX4_firstFrom_16 (by decide) ?_
    exact z_iret hC hret hlk rfl (by simp only [firstFromC]; first | rw [if_pos (by omega)] | rw [if_neg (by omega)]) (by rfl) dX4_firstFrom_20
set_option maxHeartbeats 4000000 in
set_option maxRecDepth 100000 in
theorem k_X4_extend (l : Launch) (D : va_G) (tc : Nat → ClassId) (ad : Nat → Nat → Nat) (hI : zI ad okC) (M : zM) {T U : Int} (i : Nat) (ln : Nat) (n far w : Int) (hi : i < 13) (hln : ln < 12) (hW : WTC T U M) (hn : -2147483648 ≤ n ∧ n < 2147483648) (hf : -1000 ≤ far ∧ far ≤ 1000) (hw : -2147483648 ≤ w ∧ w < 2147483648) : zMv l yX4_extend cX4_extend 6 none 2 D (tysC tc) ad okC (tmC ad tc) [.ref (ad 9 i), .ref (ad 7 ln), iv n, iv far, iv w] M (extendC M i ln n far w) 0 0 := by
  refine z_met hI (plainFor_of_name (by decide)) (Nat.le_of_ble_eq_true rfl) ?_
  intro p e s m args below meth c hC hret hlk
  refine z_conv (L2 := [(0, .ref (ad 9 i)), (1, .ref (ad 7 ln)), (2, iv n), (3, iv far), (4, iv w)]) ?_ rfl rfl rfl
  refine z_aload_n hC 1 rfl dX4_extend_0 rfl ?_
  have hq1 : 0 ≤ M 7 ln 0 ∧ M 7 ln 0 ≤ 7 := hW.1 7 ln 0
  refine z_getI hC zfX4_34 (tmC_7 ad tc _) (okC_7 (by omega)) rfl (x := M 7 ln 0) (rfl) dX4_extend_1 ?_
  refine z_istore hC (L' := [(5, iv (M 7 ln 0)), (0, .ref (ad 9 i)), (1, .ref (ad 7 ln)), (2, iv n), (3, iv far), (4, iv w)]) dX4_extend_4 (by decide) rfl ?_
  refine z_iload hC 0 rfl dX4_extend_6 ?_
  refine z_iconst hC dX4_extend_8 ?_
  refine z_bipush hC dX4_extend_9 (by decide) ?_
  refine z_callSiN hC zlX4_39 (k_X8_within l D tc ad hI M (M 7 ln 0) 0 7 (by omega) (by omega) (by omega)) rfl rfl (Nat.le_of_ble_eq_true rfl) ⟨by decide, by decide⟩ ⟨by decide, by decide⟩ dX4_extend_11 ?_
  refine z_if_eq_b hC 28 dX4_extend_14 (by decide) (fun c14 => ?_) (fun c14 => ?_)
  · skip
    exact z_vret hC hret hlk (by first | (exfalso; omega) | (simp only [extendC]; simp only [*, and_self, if_true, if_false, ne_eq, not_true_eq_false, not_false_eq_true]; done)) dX4_extend_28
  · skip
    refine z_aload_n hC 1 rfl dX4_extend_17 rfl ?_
    refine z_getR hC zfX4_9 (tmC_9 ad tc _) (okC_9 (by omega)) rfl dX4_extend_18 ?_
    refine z_iload hC 0 rfl dX4_extend_21 ?_
    have hq2 : -1 ≤ M 10 i ((M 7 ln 0).toNat) ∧ M 10 i ((M 7 ln 0).toNat) ≤ 8 := hW.1 10 i ((M 7 ln 0).toNat)
    refine z_iaload hC 0 ((M 7 ln 0).toNat) (tmC_10 ad tc _) (tysC_0 tc) (okC_10 (by omega)) (by omega) (by omega) (by decide) (x := M 10 i ((M 7 ln 0).toNat)) (rfl) dX4_extend_23 ?_
    refine z_iconst hC dX4_extend_24 ?_
    refine z_icmp_eq hC 29 dX4_extend_25 (by decide) (by omega) (by omega) (fun c25 => ?_) (fun c25 => ?_)
    · skip
      refine z_aload_n hC 2 rfl dX4_extend_29 rfl ?_
      refine z_iload hC 5 rfl dX4_extend_30 ?_
      refine z_callVi hC zlX4_43 (k_X1_carries l D tc ad hI M ln w (by omega) (by omega) (by have z0 : 0 ≤ M 7 ln 2 ∧ M 7 ln 2 ≤ 150 := hW.1 7 ln 2; have z1 : 0 ≤ M 7 ln 2 ∧ M 7 ln 2 ≤ 150 := hW.1 7 ln 2; omega)) (tmC_7 ad tc _) rfl (okC_7 (by omega)) rfl rfl (Nat.le_of_ble_eq_true rfl) ⟨by decide, by decide⟩ ⟨by decide, by decide⟩ dX4_extend_32 ?_
      refine z_if_eq_b hC 68 dX4_extend_35 (by decide) (fun c35 => ?_) (fun c35 => ?_)
      · skip
        exact z_vret hC hret hlk (by first | (exfalso; omega) | (simp only [extendC]; simp only [*, and_self, if_true, if_false, ne_eq, not_true_eq_false, not_false_eq_true]; done)) dX4_extend_68
      · skip
        refine z_aload_n hC 1 rfl dX4_extend_38 rfl ?_
        refine z_aload_n hC 2 rfl dX4_extend_39 rfl ?_
        have hq3 : 0 ≤ M 7 ln 1 ∧ M 7 ln 1 ≤ 7 := hW.1 7 ln 1
        refine z_getI hC zfX4_47 (tmC_7 ad tc _) (okC_7 (by omega)) rfl (x := M 7 ln 1) (rfl) dX4_extend_40 ?_
        refine z_callVi hC zlX4_50 (k_X4_linesFrom l D tc ad hI M i (M 7 ln 1) (by omega) (by omega)) (tmC_9 ad tc _) rfl (okC_9 (by omega)) rfl rfl (Nat.le_of_ble_eq_true rfl) ⟨by decide, by decide⟩ ⟨by decide, by decide⟩ dX4_extend_43 ?_
        have hlf := linesFromC_bd hW i (M 7 ln 1)
        refine z_iload_n hC 4 rfl dX4_extend_46 rfl ?_
        refine z_iconst hC dX4_extend_47 ?_
        refine z_isub hC dX4_extend_48 ?_
        refine z_icmp_ne hC 68 dX4_extend_49 (by decide) (by omega) (by omega) (fun c49 => ?_) (fun c49 => ?_)
        · skip
          exact z_vret hC hret hlk (by first | (exfalso; omega) | (simp only [extendC]; simp only [*, and_self, if_true, if_false, ne_eq, not_true_eq_false, not_false_eq_true]; done)) dX4_extend_68
        · skip
          refine z_aload_n hC 1 rfl dX4_extend_52 rfl ?_
          refine z_getR hC zfX4_9 (tmC_9 ad tc _) (okC_9 (by omega)) rfl dX4_extend_53 ?_
          refine z_iload hC 0 rfl dX4_extend_56 ?_
          refine z_iload_n hC 4 rfl dX4_extend_58 rfl ?_
          refine z_iastore hC 0 ((M 7 ln 0).toNat) (tmC_10 ad tc _) (tysC_0 tc) (okC_10 (by omega)) (by omega) (by omega) (by decide) dX4_extend_59 ?_
          refine z_aload_n hC 1 rfl dX4_extend_60 rfl ?_
          refine z_getR hC zfX4_15 (tmC_9 ad tc _) (okC_9 (by omega)) rfl dX4_extend_61 ?_
          refine z_iload hC 0 rfl dX4_extend_64 ?_
          refine z_iload_n hC 3 rfl dX4_extend_66 rfl ?_
          refine z_iastore hC 0 ((M 7 ln 0).toNat) (tmC_11 ad tc _) (tysC_0 tc) (okC_11 (by omega)) (by omega) (by omega) (by decide) dX4_extend_67 ?_
          exact z_vret hC hret hlk (by first | (exfalso; omega) | (simp only [extendC]; simp only [*, and_self, if_true, if_false, ne_eq, not_true_eq_false, not_false_eq_true]; done)) dX4_extend_68
    · skip
      exact z_vret hC hret hlk (by first | (exfalso; omega) | (simp only [extendC]; simp only [*, and_self, if_true, if_false, ne_eq, not_true_eq_false, not_false_eq_true]; done)) dX4_extend_28
set_option maxHeartbeats 4000000 in
set_option maxRecDepth 100000 in
theorem k_X4_plan (l : Launch) (D : va_G) (tc : Nat → ClassId) (ad : Nat → Nat → Nat) (hI : zI ad okC) (M : zM) {T U : Int} (i : Nat) (g w : Int) (hi : i < 13) (hW : WTC T U M) (hg : -2147483648 ≤ g ∧ g < 2147483648) (hw : -2147483648 ≤ w ∧ w < 2147483648) : zMv l yX4_plan cX4_plan 6 none 3 D (tysC tc) ad okC (tmC ad tc) [.ref (ad 9 i), .ref (ad 1 0), iv g, iv w] M (planC M i g w) 0 0 := by
  have hpc : 0 ≤ M 1 0 4 ∧ M 1 0 4 ≤ 8 := hW.1 1 0 4
  have hlc : 0 ≤ M 1 0 5 ∧ M 1 0 5 ≤ 12 := hW.1 1 0 5
  refine z_met hI (plainFor_of_name (by decide)) (Nat.le_of_ble_eq_true rfl) ?_
  intro p e s m args below meth c hC hret hlk
  refine z_conv (L2 := [(0, .ref (ad 9 i)), (1, .ref (ad 1 0)), (2, iv g), (3, iv w)]) ?_ rfl rfl rfl
  have hc45 : ∀ (d45 : Nat) (k : Nat) (hk : k ≤ ((M 1 0 4) - 1).toNat), ((M 1 0 4) - 1).toNat - k = d45 → zV p l e (zrm 3 0 0) s m args below meth c (MQ below (zQv D ad okC (tmC ad tc) (planC M i g w) (zA ad okC s.heap.size)) args s 0 0 (zA ad okC s.heap.size)) D ad okC (tmC ad tc) (zA ad okC s.heap.size) s.heap 6 0 0 (planF (planI M i g 8) i w (M 1 0 5).toNat k) [(0, .ref (ad 9 i)), (1, .ref (ad 1 0)), (2, iv g), (3, iv w), (4, iv ((k : Int) + 1))] 45 [] := by
    intro d45
    induction d45 using Nat.strongRecOn with
    | _ d45 ih45 =>
      intro k hk hd45
      have hWk : WTC T U (planF (planI M i g 8) i w (M 1 0 5).toNat k) := planF_wt (planI_wt hW) (by omega) (by omega)
      have hc57 : ∀ (d57 : Nat) (j : Nat) (hj : j ≤ (M 1 0 5).toNat) (hk2 : (k : Int) + 1 < M 1 0 4), (M 1 0 5).toNat - j = d57 → zV p l e (zrm 3 0 0) s m args below meth c (MQ below (zQv D ad okC (tmC ad tc) (planC M i g w) (zA ad okC s.heap.size)) args s 0 0 (zA ad okC s.heap.size)) D ad okC (tmC ad tc) (zA ad okC s.heap.size) s.heap 6 0 0 (planL (planF (planI M i g 8) i w (M 1 0 5).toNat k) i ((k : Int) + 1) w j) [(0, .ref (ad 9 i)), (1, .ref (ad 1 0)), (2, iv g), (3, iv w), (4, iv ((k : Int) + 1)), (5, iv ((j : Nat) : Int))] 57 [] := by
        intro d57
        induction d57 using Nat.strongRecOn with
        | _ d57 ih57 =>
          intro j hj hk2 hd57
          have hWk : WTC T U (planL (planF (planI M i g 8) i w (M 1 0 5).toNat k) i ((k : Int) + 1) w j) := planL_wt (planF_wt (planI_wt hW) (by omega) (by omega)) ⟨by omega, by omega⟩ (by omega)
          refine z_iload hC 5 rfl dX4_plan_57 ?_
          refine z_aload_n hC 1 rfl dX4_plan_59 rfl ?_
          have hq1 : 0 ≤ M 1 0 5 ∧ M 1 0 5 ≤ 12 := hW.1 1 0 5
          refine z_getI hC zfX4_24 (tmC_1 ad tc _) (okC_1 (by omega)) rfl (x := M 1 0 5) (by simp [zup, planL_fr (f := 1) (by decide), planF_fr (f := 1) (by decide), planI_fr (f := 1) (by decide)]) dX4_plan_60 ?_
          refine z_icmp_ge hC 88 dX4_plan_63 (by decide) (by omega) (by omega) (fun c63 => ?_) (fun c63 => ?_)
          · skip
            have he : j = (M 1 0 5).toNat := by omega
            subst he
            refine z_iinc hC 4 (L' := [(4, iv ((k : Int) + 1 + 1)), (0, .ref (ad 9 i)), (1, .ref (ad 1 0)), (2, iv g), (3, iv w), (5, iv ((((M 1 0 5).toNat) : Nat) : Int))]) dX4_plan_88 rfl (by decide) rfl ?_
            refine z_goto hC 45 dX4_plan_91 (by decide) ?_
            refine z_perm [1, 2, 3, 4, 0] (L' := [(0, .ref (ad 9 i)), (1, .ref (ad 1 0)), (2, iv g), (3, iv w), (4, iv ((k : Int) + 1 + 1))]) rfl ?_
            exact z_conv (ih45 _ (by omega) (k + 1) (by omega) rfl) (by rfl) (by rfl) (by rfl)
          · skip
            refine z_aload_n hC 0 rfl dX4_plan_66 rfl ?_
            refine z_aload_n hC 1 rfl dX4_plan_67 rfl ?_
            refine z_getR hC zfX4_27 (tmC_1 ad tc _) (okC_1 (by omega)) rfl dX4_plan_68 ?_
            refine z_iload hC 5 rfl dX4_plan_71 ?_
            refine z_aaload hC 2 (j) (ad 7 (j)) (tmC_3 ad tc _) (tysC_2 tc) (okC_3 (by omega)) (rfl) (by omega) (by decide) rfl dX4_plan_73 ?_
            refine z_iload hC 5 rfl dX4_plan_74 ?_
            refine z_iload hC 4 rfl dX4_plan_76 ?_
            refine z_iload_n hC 3 rfl dX4_plan_78 rfl ?_
            refine z_callVv hC zlX4_30 (k_X4_extend l D tc ad hI (planL (planF (planI M i g 8) i w (M 1 0 5).toNat k) i ((k : Int) + 1) w j) i j ((j : Nat) : Int) ((k : Int) + 1) w (by omega) (by omega) hWk (by omega) (by omega) (by omega)) (tmC_9 ad tc _) rfl (okC_9 (by omega)) rfl rfl (Nat.le_of_ble_eq_true rfl) ⟨by decide, by decide⟩ ⟨by decide, by decide⟩ dX4_plan_79 ?_
            refine z_iinc hC 5 (L' := [(5, iv (((j : Nat) : Int) + 1)), (0, .ref (ad 9 i)), (1, .ref (ad 1 0)), (2, iv g), (3, iv w), (4, iv ((k : Int) + 1))]) dX4_plan_82 rfl (by decide) rfl ?_
            refine z_goto hC 57 dX4_plan_85 (by decide) ?_
            refine z_perm [1, 2, 3, 4, 5, 0] (L' := [(0, .ref (ad 9 i)), (1, .ref (ad 1 0)), (2, iv g), (3, iv w), (4, iv ((k : Int) + 1)), (5, iv (((j : Nat) : Int) + 1))]) rfl ?_
            exact z_conv (ih57 _ (by omega) (j + 1) (by omega) (by omega) rfl) (by rfl) (by rfl) (by rfl)
      refine z_iload hC 4 rfl dX4_plan_45 ?_
      refine z_aload_n hC 1 rfl dX4_plan_47 rfl ?_
      have hq2 : 0 ≤ M 1 0 4 ∧ M 1 0 4 ≤ 8 := hW.1 1 0 4
      refine z_getI hC zfX4_18 (tmC_1 ad tc _) (okC_1 (by omega)) rfl (x := M 1 0 4) (by simp [zup, planF_fr (f := 1) (by decide), planI_fr (f := 1) (by decide)]) dX4_plan_48 ?_
      refine z_icmp_ge hC 94 dX4_plan_51 (by decide) (by omega) (by omega) (fun c51 => ?_) (fun c51 => ?_)
      · skip
        have he : k = ((M 1 0 4) - 1).toNat := by omega
        subst he
        exact z_vret hC hret hlk (by rfl) dX4_plan_94
      · skip
        refine z_iconst hC dX4_plan_54 ?_
        refine z_istore hC (L' := [(5, iv 0), (0, .ref (ad 9 i)), (1, .ref (ad 1 0)), (2, iv g), (3, iv w), (4, iv ((k : Int) + 1))]) dX4_plan_55 (by decide) rfl ?_
        refine z_perm [1, 2, 3, 4, 5, 0] (L' := [(0, .ref (ad 9 i)), (1, .ref (ad 1 0)), (2, iv g), (3, iv w), (4, iv ((k : Int) + 1)), (5, iv 0)]) rfl ?_
        exact z_conv (hc57 _ 0 (by omega) (by omega) rfl) (by rfl) (by rfl) (by rfl)
  have hc3 : ∀ (d3 : Nat) (j : Nat) (hj : j ≤ 8), 8 - j = d3 → zV p l e (zrm 3 0 0) s m args below meth c (MQ below (zQv D ad okC (tmC ad tc) (planC M i g w) (zA ad okC s.heap.size)) args s 0 0 (zA ad okC s.heap.size)) D ad okC (tmC ad tc) (zA ad okC s.heap.size) s.heap 6 0 0 (planI M i g j) [(0, .ref (ad 9 i)), (1, .ref (ad 1 0)), (2, iv g), (3, iv w), (4, iv ((j : Nat) : Int))] 3 [] := by
    intro d3
    induction d3 using Nat.strongRecOn with
    | _ d3 ih3 =>
      intro j hj hd3
      refine z_iload hC 4 rfl dX4_plan_3 ?_
      refine z_bipush hC dX4_plan_5 (by decide) ?_
      refine z_icmp_ge hC 42 dX4_plan_7 (by decide) (by omega) (by omega) (fun c7 => ?_) (fun c7 => ?_)
      · skip
        have he : j = 8 := by omega
        subst he
        refine z_iconst hC dX4_plan_42 ?_
        refine z_istore hC (L' := [(4, iv 1), (0, .ref (ad 9 i)), (1, .ref (ad 1 0)), (2, iv g), (3, iv w)]) dX4_plan_43 (by decide) rfl ?_
        refine z_perm [1, 2, 3, 4, 0] (L' := [(0, .ref (ad 9 i)), (1, .ref (ad 1 0)), (2, iv g), (3, iv w), (4, iv 1)]) rfl ?_
        exact z_conv (hc45 _ 0 (by omega) rfl) (by rfl) (by rfl) (by rfl)
      · skip
        refine z_aload_n hC 0 rfl dX4_plan_10 rfl ?_
        refine z_getR hC zfX4_9 (tmC_9 ad tc _) (okC_9 (by omega)) rfl dX4_plan_11 ?_
        refine z_iload hC 4 rfl dX4_plan_14 ?_
        refine z_iload hC 4 rfl dX4_plan_16 ?_
        refine z_iload_n hC 2 rfl dX4_plan_18 rfl ?_
        refine z_icmp_ne hC 26 dX4_plan_19 (by decide) (by omega) (by omega) (fun c19 => ?_) (fun c19 => ?_)
        · skip
          refine z_iconst hC dX4_plan_26 ?_
          refine z_iastore hC 0 (j) (tmC_10 ad tc _) (tysC_0 tc) (okC_10 (by omega)) (rfl) (by omega) (by decide) dX4_plan_27 ?_
          refine z_aload_n hC 0 rfl dX4_plan_28 rfl ?_
          refine z_getR hC zfX4_15 (tmC_9 ad tc _) (okC_9 (by omega)) rfl dX4_plan_29 ?_
          refine z_iload hC 4 rfl dX4_plan_32 ?_
          refine z_iconst hC dX4_plan_34 ?_
          refine z_iastore hC 0 (j) (tmC_11 ad tc _) (tysC_0 tc) (okC_11 (by omega)) (rfl) (by omega) (by decide) dX4_plan_35 ?_
          refine z_iinc hC 4 (L' := [(4, iv (((j : Nat) : Int) + 1)), (0, .ref (ad 9 i)), (1, .ref (ad 1 0)), (2, iv g), (3, iv w)]) dX4_plan_36 rfl (by decide) rfl ?_
          refine z_goto hC 3 dX4_plan_39 (by decide) ?_
          refine z_perm [1, 2, 3, 4, 0] (L' := [(0, .ref (ad 9 i)), (1, .ref (ad 1 0)), (2, iv g), (3, iv w), (4, iv (((j : Nat) : Int) + 1))]) rfl ?_
          exact z_conv (ih3 _ (by omega) (j + 1) (by omega) rfl) (by first | exact (congrArg (fun x => zup (zup (planI M i g j) 10 i j x) 11 i j (-1)) (if_pos (by assumption)).symm) | exact (congrArg (fun x => zup (zup (planI M i g j) 10 i j x) 11 i j (-1)) (if_neg (by assumption)).symm)) (by rfl) (by rfl)
        · skip
          refine z_iconst hC dX4_plan_22 ?_
          refine z_goto hC 27 dX4_plan_23 (by decide) ?_
          refine z_iastore hC 0 (j) (tmC_10 ad tc _) (tysC_0 tc) (okC_10 (by omega)) (rfl) (by omega) (by decide) dX4_plan_27 ?_
          refine z_aload_n hC 0 rfl dX4_plan_28 rfl ?_
          refine z_getR hC zfX4_15 (tmC_9 ad tc _) (okC_9 (by omega)) rfl dX4_plan_29 ?_
          refine z_iload hC 4 rfl dX4_plan_32 ?_
          refine z_iconst hC dX4_plan_34 ?_
          refine z_iastore hC 0 (j) (tmC_11 ad tc _) (tysC_0 tc) (okC_11 (by omega)) (rfl) (by omega) (by decide) dX4_plan_35 ?_
          refine z_iinc hC 4 (L' := [(4, iv (((j : Nat) : Int) + 1)), (0, .ref (ad 9 i)), (1, .ref (ad 1 0)), (2, iv g), (3, iv w)]) dX4_plan_36 rfl (by decide) rfl ?_
          refine z_goto hC 3 dX4_plan_39 (by decide) ?_
          refine z_perm [1, 2, 3, 4, 0] (L' := [(0, .ref (ad 9 i)), (1, .ref (ad 1 0)), (2, iv g), (3, iv w), (4, iv (((j : Nat) : Int) + 1))]) rfl ?_
          exact z_conv (ih3 _ (by omega) (j + 1) (by omega) rfl) (by first | exact (congrArg (fun x => zup (zup (planI M i g j) 10 i j x) 11 i j (-1)) (if_pos (by assumption)).symm) | exact (congrArg (fun x => zup (zup (planI M i g j) 10 i j x) 11 i j (-1)) (if_neg (by assumption)).symm)) (by rfl) (by rfl)
  refine z_iconst hC dX4_plan_0 ?_
  refine z_istore hC (L' := [(4, iv 0), (0, .ref (ad 9 i)), (1, .ref (ad 1 0)), (2, iv g), (3, iv w)]) dX4_plan_1 (by decide) rfl ?_
  refine z_perm [1, 2, 3, 4, 0] (L' := [(0, .ref (ad 9 i)), (1, .ref (ad 1 0)), (2, iv g), (3, iv w), (4, iv 0)]) rfl ?_
  exact z_conv (hc3 _ 0 (by omega) rfl) (by rfl) (by rfl) (by rfl)
set_option maxHeartbeats 4000000 in
set_option maxRecDepth 100000 in
theorem k_X3_planRoute (l : Launch) (D : va_G) (tc : Nat → ClassId) (ad : Nat → Nat → Nat) (hI : zI ad okC) (M : zM) {T U : Int} (i : Nat) (hi : i < 12) (hW : WTC T U M) : zMv l yX3_planRoute cX3_planRoute 2 none 4 D (tysC tc) ad okC (tmC ad tc) [.ref (ad 8 i), .ref (ad 1 0)] M (planC M i (M 8 i 1) (M 8 i 2)) 0 0 := by
  refine z_met hI (plainFor_of_name (by decide)) (Nat.le_of_ble_eq_true rfl) ?_
  intro p e s m args below meth c hC hret hlk
  refine z_conv (L2 := [(0, .ref (ad 8 i)), (1, .ref (ad 1 0))]) ?_ rfl rfl rfl
  refine z_aload_n hC 0 rfl dX3_planRoute_0 rfl ?_
  refine z_getR hC zfX3_10 (tmC_8 ad tc _) (okC_8 (by omega)) rfl dX3_planRoute_1 ?_
  refine z_aload_n hC 1 rfl dX3_planRoute_4 rfl ?_
  refine z_aload_n hC 0 rfl dX3_planRoute_5 rfl ?_
  have hq1 : 0 ≤ M 8 i 1 ∧ M 8 i 1 ≤ 7 := hW.1 8 i 1
  refine z_getI hC zfX3_16 (tmC_8 ad tc _) (okC_8 (by omega)) rfl (x := M 8 i 1) (rfl) dX3_planRoute_6 ?_
  refine z_aload_n hC 0 rfl dX3_planRoute_9 rfl ?_
  have hq2 : 0 ≤ M 8 i 2 ∧ M 8 i 2 ≤ 120 := hW.1 8 i 2
  refine z_getI hC zfX3_20 (tmC_8 ad tc _) (okC_8 (by omega)) rfl (x := M 8 i 2) (rfl) dX3_planRoute_10 ?_
  refine z_callVv hC zlX3_23 (k_X4_plan l D tc ad hI M i (M 8 i 1) (M 8 i 2) (by omega) hW (by omega) (by omega)) (tmC_9 ad tc _) rfl (okC_9 (by omega)) rfl rfl (Nat.le_of_ble_eq_true rfl) ⟨by decide, by decide⟩ ⟨by decide, by decide⟩ dX3_planRoute_13 ?_
  exact z_vret hC hret hlk (by rfl) dX3_planRoute_16
set_option maxHeartbeats 4000000 in
set_option maxRecDepth 100000 in
theorem k_X0_hasPlatformAt (l : Launch) (D : va_G) (tc : Nat → ClassId) (ad : Nat → Nat → Nat) (hI : zI ad okC) (M : zM) {T U : Int} (x y : Int) (hW : WTC T U M) (hx : -2147483648 ≤ x ∧ x < 2147483648) (hy : -2147483648 ≤ y ∧ y < 2147483648) : zMi l yX0_hasPlatformAt cX0_hasPlatformAt 4 (some .boolean) 0 D (tysC tc) ad okC (tmC ad tc) [.ref (ad 1 0), iv x, iv y] M (if zcnt (fun j => M 6 j 0 = x ∧ M 6 j 1 = y) (M 1 0 4).toNat ≠ 0 then 1 else 0) M 0 0 := by
  have hpc : 0 ≤ M 1 0 4 ∧ M 1 0 4 ≤ 8 := hW.1 1 0 4
  refine z_met hI (plainFor_of_name (by decide)) (Nat.le_of_ble_eq_true rfl) ?_
  intro p e s m args below meth c hC hret hlk
  refine z_conv (L2 := [(0, .ref (ad 1 0)), (1, iv x), (2, iv y)]) ?_ rfl rfl rfl
  have hc2 : ∀ (d2 : Nat) (j : Nat) (hj : j ≤ (M 1 0 4).toNat) (hz : zcnt (fun j => M 6 j 0 = x ∧ M 6 j 1 = y) j = 0), (M 1 0 4).toNat - j = d2 → zV p l e (zrm 0 0 0) s m args below meth c (MQ below (zQi D ad okC (tmC ad tc) (if zcnt (fun j => M 6 j 0 = x ∧ M 6 j 1 = y) (M 1 0 4).toNat ≠ 0 then 1 else 0) M (zA ad okC s.heap.size)) args s 0 0 (zA ad okC s.heap.size)) D ad okC (tmC ad tc) (zA ad okC s.heap.size) s.heap 4 0 0 M [(0, .ref (ad 1 0)), (1, iv x), (2, iv y), (3, iv ((j : Nat) : Int))] 2 [] := by
    intro d2
    induction d2 using Nat.strongRecOn with
    | _ d2 ih2 =>
      intro j hj hz hd2
      refine z_iload_n hC 3 rfl dX0_hasPlatformAt_2 rfl ?_
      refine z_aload_n hC 0 rfl dX0_hasPlatformAt_3 rfl ?_
      have hq1 : 0 ≤ M 1 0 4 ∧ M 1 0 4 ≤ 8 := hW.1 1 0 4
      refine z_getI hC zfX0_36 (tmC_1 ad tc _) (okC_1 (by omega)) rfl (x := M 1 0 4) (rfl) dX0_hasPlatformAt_4 ?_
      refine z_icmp_ge hC 44 dX0_hasPlatformAt_7 (by decide) (by omega) (by omega) (fun c7 => ?_) (fun c7 => ?_)
      · skip
        have he : j = (M 1 0 4).toNat := by omega
        subst he
        refine z_iconst hC dX0_hasPlatformAt_44 ?_
        exact z_iret hC hret hlk (by decide) (by first | (rw [if_neg (by omega)]; done) | (have h1 := zcnt_mono (fun j => M 6 j 0 = x ∧ M 6 j 1 = y) (show j + 1 ≤ (M 1 0 4).toNat by omega); simp only [zcnt] at h1; rw [if_pos (show _ ∧ _ from ⟨by omega, by omega⟩)] at h1; rw [if_pos (by omega)])) (by rfl) dX0_hasPlatformAt_45
      · skip
        refine z_aload_n hC 0 rfl dX0_hasPlatformAt_10 rfl ?_
        refine z_getR hC zfX0_11 (tmC_1 ad tc _) (okC_1 (by omega)) rfl dX0_hasPlatformAt_11 ?_
        refine z_iload_n hC 3 rfl dX0_hasPlatformAt_14 rfl ?_
        refine z_aaload hC 1 (j) (ad 6 (j)) (tmC_2 ad tc _) (tysC_1 tc) (okC_2 (by omega)) (rfl) (by omega) (by decide) rfl dX0_hasPlatformAt_15 ?_
        have hq2 : 0 ≤ M 6 j 0 ∧ M 6 j 0 ≤ 40 := hW.1 6 j 0
        refine z_getI hC zfX0_40 (tmC_6 ad tc _) (okC_6 (by omega)) rfl (x := M 6 j 0) (rfl) dX0_hasPlatformAt_16 ?_
        refine z_iload_n hC 1 rfl dX0_hasPlatformAt_19 rfl ?_
        refine z_icmp_ne hC 38 dX0_hasPlatformAt_20 (by decide) (by omega) (by omega) (fun c20 => ?_) (fun c20 => ?_)
        · skip
          refine z_iinc hC 3 (L' := [(3, iv (((j : Nat) : Int) + 1)), (0, .ref (ad 1 0)), (1, iv x), (2, iv y)]) dX0_hasPlatformAt_38 rfl (by decide) rfl ?_
          refine z_goto hC 2 dX0_hasPlatformAt_41 (by decide) ?_
          refine z_perm [1, 2, 3, 0] (L' := [(0, .ref (ad 1 0)), (1, iv x), (2, iv y), (3, iv (((j : Nat) : Int) + 1))]) rfl ?_
          exact z_conv (ih2 _ (by omega) (j + 1) (by omega) (by simp only [zcnt, hz]; rw [if_neg (by omega)]; rfl) rfl) (by rfl) (by rfl) (by rfl)
        · skip
          refine z_aload_n hC 0 rfl dX0_hasPlatformAt_23 rfl ?_
          refine z_getR hC zfX0_11 (tmC_1 ad tc _) (okC_1 (by omega)) rfl dX0_hasPlatformAt_24 ?_
          refine z_iload_n hC 3 rfl dX0_hasPlatformAt_27 rfl ?_
          refine z_aaload hC 1 (j) (ad 6 (j)) (tmC_2 ad tc _) (tysC_1 tc) (okC_2 (by omega)) (rfl) (by omega) (by decide) rfl dX0_hasPlatformAt_28 ?_
          have hq3 : 0 ≤ M 6 j 1 ∧ M 6 j 1 ≤ 40 := hW.1 6 j 1
          refine z_getI hC zfX0_43 (tmC_6 ad tc _) (okC_6 (by omega)) rfl (x := M 6 j 1) (rfl) dX0_hasPlatformAt_29 ?_
          refine z_iload_n hC 2 rfl dX0_hasPlatformAt_32 rfl ?_
          refine z_icmp_ne hC 38 dX0_hasPlatformAt_33 (by decide) (by omega) (by omega) (fun c33 => ?_) (fun c33 => ?_)
          · skip
            refine z_iinc hC 3 (L' := [(3, iv (((j : Nat) : Int) + 1)), (0, .ref (ad 1 0)), (1, iv x), (2, iv y)]) dX0_hasPlatformAt_38 rfl (by decide) rfl ?_
            refine z_goto hC 2 dX0_hasPlatformAt_41 (by decide) ?_
            refine z_perm [1, 2, 3, 0] (L' := [(0, .ref (ad 1 0)), (1, iv x), (2, iv y), (3, iv (((j : Nat) : Int) + 1))]) rfl ?_
            exact z_conv (ih2 _ (by omega) (j + 1) (by omega) (by simp only [zcnt, hz]; rw [if_neg (by omega)]; rfl) rfl) (by rfl) (by rfl) (by rfl)
          · skip
            refine z_iconst hC dX0_hasPlatformAt_36 ?_
            exact z_iret hC hret hlk (by decide) (by first | (rw [if_neg (by omega)]; done) | (have h1 := zcnt_mono (fun j => M 6 j 0 = x ∧ M 6 j 1 = y) (show j + 1 ≤ (M 1 0 4).toNat by omega); simp only [zcnt] at h1; rw [if_pos (show _ ∧ _ from ⟨by omega, by omega⟩)] at h1; rw [if_pos (by omega)])) (by rfl) dX0_hasPlatformAt_37
  refine z_iconst hC dX0_hasPlatformAt_0 ?_
  refine z_istore_n hC (L' := [(3, iv 0), (0, .ref (ad 1 0)), (1, iv x), (2, iv y)]) dX0_hasPlatformAt_1 rfl (by decide) rfl ?_
  refine z_perm [1, 2, 3, 0] (L' := [(0, .ref (ad 1 0)), (1, iv x), (2, iv y), (3, iv 0)]) rfl ?_
  exact z_conv (hc2 _ 0 (by omega) rfl rfl) (by rfl) (by rfl) (by rfl)
set_option maxHeartbeats 4000000 in
set_option maxRecDepth 100000 in
theorem k_X0_isLower (l : Launch) (D : va_G) (tc : Nat → ClassId) (ad : Nat → Nat → Nat) (hI : zI ad okC) (M : zM) {T U : Int} (a b : Int) (hW : WTC T U M) (ha : 0 ≤ a ∧ a ≤ 7) (hb : 0 ≤ b ∧ b ≤ 7) : zMi l yX0_isLower cX0_isLower 3 (some .boolean) 0 D (tysC tc) ad okC (tmC ad tc) [.ref (ad 1 0), iv a, iv b] M (if M 6 a.toNat 2 < M 6 b.toNat 2 then 1 else 0) M 0 0 := by
  refine z_met hI (plainFor_of_name (by decide)) (Nat.le_of_ble_eq_true rfl) ?_
  intro p e s m args below meth c hC hret hlk
  refine z_conv (L2 := [(0, .ref (ad 1 0)), (1, iv a), (2, iv b)]) ?_ rfl rfl rfl
  refine z_aload_n hC 0 rfl dX0_isLower_0 rfl ?_
  refine z_getR hC zfX0_11 (tmC_1 ad tc _) (okC_1 (by omega)) rfl dX0_isLower_1 ?_
  refine z_iload_n hC 1 rfl dX0_isLower_4 rfl ?_
  refine z_aaload hC 1 ((a).toNat) (ad 6 (((a).toNat))) (tmC_2 ad tc _) (tysC_1 tc) (okC_2 (by omega)) (by omega) (by omega) (by decide) rfl dX0_isLower_5 ?_
  have hq1 : 0 ≤ M 6 ((a).toNat) 2 ∧ M 6 ((a).toNat) 2 ≤ 60 := hW.1 6 ((a).toNat) 2
  refine z_getI hC zfX0_46 (tmC_6 ad tc _) (okC_6 (by omega)) rfl (x := M 6 ((a).toNat) 2) (rfl) dX0_isLower_6 ?_
  refine z_aload_n hC 0 rfl dX0_isLower_9 rfl ?_
  refine z_getR hC zfX0_11 (tmC_1 ad tc _) (okC_1 (by omega)) rfl dX0_isLower_10 ?_
  refine z_iload_n hC 2 rfl dX0_isLower_13 rfl ?_
  refine z_aaload hC 1 ((b).toNat) (ad 6 (((b).toNat))) (tmC_2 ad tc _) (tysC_1 tc) (okC_2 (by omega)) (by omega) (by omega) (by decide) rfl dX0_isLower_14 ?_
  have hq2 : 0 ≤ M 6 ((b).toNat) 2 ∧ M 6 ((b).toNat) 2 ≤ 60 := hW.1 6 ((b).toNat) 2
  refine z_getI hC zfX0_46 (tmC_6 ad tc _) (okC_6 (by omega)) rfl (x := M 6 ((b).toNat) 2) (rfl) dX0_isLower_15 ?_
  refine z_icmp_ge hC 25 dX0_isLower_18 (by decide) (by omega) (by omega) (fun c18 => ?_) (fun c18 => ?_)
  · skip
    refine z_iconst hC dX0_isLower_25 ?_
    exact z_iret hC hret hlk (by decide) (by first | rw [if_pos (by omega)] | rw [if_neg (by omega)]) (by rfl) dX0_isLower_26
  · skip
    refine z_iconst hC dX0_isLower_21 ?_
    refine z_goto hC 26 dX0_isLower_22 (by decide) ?_
    exact z_iret hC hret hlk (by decide) (by first | rw [if_pos (by omega)] | rw [if_neg (by omega)]) (by rfl) dX0_isLower_26
set_option maxHeartbeats 4000000 in
set_option maxRecDepth 100000 in
theorem k_X0_addPlatform (l : Launch) (D : va_G) (tc : Nat → ClassId) (ad : Nat → Nat → Nat) (hI : zI ad okC) (M : zM) {T U : Int} (x y q : Int) (hW : WTC T U M) (hc : M 1 0 4 < 8) : zMi l yX0_addPlatform cX0_addPlatform 5 (some .int) 0 D (tysC tc) ad okC (tmC ad tc) [.ref (ad 1 0), iv x, iv y, iv q] M (M 1 0 4) (addPlatformC M x y q) 0 0 := by
  refine z_met hI (plainFor_of_name (by decide)) (Nat.le_of_ble_eq_true rfl) ?_
  intro p e s m args below meth c hC hret hlk
  refine z_conv (L2 := [(0, .ref (ad 1 0)), (1, iv x), (2, iv y), (3, iv q)]) ?_ rfl rfl rfl
  refine z_aload_n hC 0 rfl dX0_addPlatform_0 rfl ?_
  have hq1 : 0 ≤ M 1 0 4 ∧ M 1 0 4 ≤ 8 := hW.1 1 0 4
  refine z_getI hC zfX0_36 (tmC_1 ad tc _) (okC_1 (by omega)) rfl (x := M 1 0 4) (rfl) dX0_addPlatform_1 ?_
  refine z_istore hC (L' := [(4, iv (M 1 0 4)), (0, .ref (ad 1 0)), (1, iv x), (2, iv y), (3, iv q)]) dX0_addPlatform_4 (by decide) rfl ?_
  refine z_aload_n hC 1 rfl dX0_addPlatform_6 rfl ?_
  refine z_getR hC zfX0_11 (tmC_1 ad tc _) (okC_1 (by omega)) rfl dX0_addPlatform_7 ?_
  refine z_iload hC 0 rfl dX0_addPlatform_10 ?_
  refine z_aaload hC 1 ((M 1 0 4).toNat) (ad 6 (((M 1 0 4).toNat))) (tmC_2 ad tc _) (tysC_1 tc) (okC_2 (by omega)) (by omega) (by omega) (by decide) rfl dX0_addPlatform_12 ?_
  refine z_iload_n hC 2 rfl dX0_addPlatform_13 rfl ?_
  refine z_put hC zgX0_40 (tmC_6 ad tc _) (okC_6 (by omega)) rfl dX0_addPlatform_14 ?_
  refine z_aload_n hC 1 rfl dX0_addPlatform_17 rfl ?_
  refine z_getR hC zfX0_11 (tmC_1 ad tc _) (okC_1 (by omega)) rfl dX0_addPlatform_18 ?_
  refine z_iload hC 0 rfl dX0_addPlatform_21 ?_
  refine z_aaload hC 1 ((M 1 0 4).toNat) (ad 6 (((M 1 0 4).toNat))) (tmC_2 ad tc _) (tysC_1 tc) (okC_2 (by omega)) (by omega) (by omega) (by decide) rfl dX0_addPlatform_23 ?_
  refine z_iload_n hC 3 rfl dX0_addPlatform_24 rfl ?_
  refine z_put hC zgX0_43 (tmC_6 ad tc _) (okC_6 (by omega)) rfl dX0_addPlatform_25 ?_
  refine z_aload_n hC 1 rfl dX0_addPlatform_28 rfl ?_
  refine z_getR hC zfX0_11 (tmC_1 ad tc _) (okC_1 (by omega)) rfl dX0_addPlatform_29 ?_
  refine z_iload hC 0 rfl dX0_addPlatform_32 ?_
  refine z_aaload hC 1 ((M 1 0 4).toNat) (ad 6 (((M 1 0 4).toNat))) (tmC_2 ad tc _) (tysC_1 tc) (okC_2 (by omega)) (by omega) (by omega) (by decide) rfl dX0_addPlatform_34 ?_
  refine z_iload_n hC 4 rfl dX0_addPlatform_35 rfl ?_
  refine z_put hC zgX0_46 (tmC_6 ad tc _) (okC_6 (by omega)) rfl dX0_addPlatform_36 ?_
  refine z_aload_n hC 1 rfl dX0_addPlatform_39 rfl ?_
  refine z_dup hC dX0_addPlatform_40 rfl ?_
  have hq2 : 0 ≤ M 1 0 4 ∧ M 1 0 4 ≤ 8 := hW.1 1 0 4
  refine z_getI hC zfX0_36 (tmC_1 ad tc _) (okC_1 (by omega)) rfl (x := M 1 0 4) (by simp [zup]) dX0_addPlatform_41 ?_
  refine z_iconst hC dX0_addPlatform_44 ?_
  refine z_iadd hC dX0_addPlatform_45 ?_
  refine z_put hC zgX0_36 (tmC_1 ad tc _) (okC_1 (by omega)) rfl dX0_addPlatform_46 ?_
  refine z_iload hC 0 rfl dX0_addPlatform_49 ?_
  exact z_iret hC hret hlk rfl (by rfl) (by rfl) dX0_addPlatform_51
set_option maxHeartbeats 4000000 in
set_option maxRecDepth 100000 in
theorem k_X0_addLine (l : Launch) (D : va_G) (tc : Nat → ClassId) (ad : Nat → Nat → Nat) (hI : zI ad okC) (M : zM) {T U : Int} (t b mo : Int) (hW : WTC T U M) (ht : 0 ≤ t ∧ t ≤ 7) (hb : 0 ≤ b ∧ b ≤ 7) (hm : 0 ≤ mo ∧ mo ≤ 150) (hl : M 6 b.toNat 2 ≤ M 6 t.toNat 2) (hc : M 1 0 5 < 12) : zMi l yX0_addLine cX0_addLine 7 (some .int) 5 D (tysC tc) ad okC (tmC ad tc) [.ref (ad 1 0), iv t, iv b, iv mo] M (M 1 0 5) (addLineC M t b mo) 0 0 := by
  have hrc : 0 ≤ M 1 0 6 ∧ M 1 0 6 ≤ 12 := hW.1 1 0 6
  have hlc : 0 ≤ M 1 0 5 ∧ M 1 0 5 ≤ 12 := hW.1 1 0 5
  have hW1 := addLine0_wt hW ht hb hm hl hc
  have ha1 : (addLine0 M t b mo) 1 0 6 = M 1 0 6 := by simp [addLine0, zup]
  refine z_met hI (plainFor_of_name (by decide)) (Nat.le_of_ble_eq_true rfl) ?_
  intro p e s m args below meth c hC hret hlk
  refine z_conv (L2 := [(0, .ref (ad 1 0)), (1, iv t), (2, iv b), (3, iv mo)]) ?_ rfl rfl rfl
  have hc90 : ∀ (d90 : Nat) (j : Nat) (hj : j ≤ (M 1 0 6).toNat), (M 1 0 6).toNat - j = d90 → zV p l e (zrm 5 0 0) s m args below meth c (MQ below (zQi D ad okC (tmC ad tc) (M 1 0 5) (addLineC M t b mo) (zA ad okC s.heap.size)) args s 0 0 (zA ad okC s.heap.size)) D ad okC (tmC ad tc) (zA ad okC s.heap.size) s.heap 7 0 0 (planAll (addLine0 M t b mo) j) [(0, .ref (ad 1 0)), (4, iv (M 1 0 5)), (6, iv ((j : Nat) : Int))] 90 [] := by
    intro d90
    induction d90 using Nat.strongRecOn with
    | _ d90 ih90 =>
      intro j hj hd90
      have hWk : WTC T U (planAll (addLine0 M t b mo) j) := planAll_wt hW1
      refine z_iload hC 2 rfl dX0_addLine_90 ?_
      refine z_aload_n hC 0 rfl dX0_addLine_92 rfl ?_
      refine z_getI hC zfX0_71 (tmC_1 ad tc _) (okC_1 (by omega)) rfl (x := (addLine0 M t b mo) 1 0 6) (by simp [zup, planAll_fr (f := 1) (by decide)]) dX0_addLine_93 ?_
      refine z_icmp_ge hC 116 dX0_addLine_96 (by decide) (by omega) (by omega) (fun c96 => ?_) (fun c96 => ?_)
      · skip
        have he : j = (M 1 0 6).toNat := by omega
        subst he
        refine z_iload hC 1 rfl dX0_addLine_116 ?_
        exact z_iret hC hret hlk rfl (by rfl) (by rfl) dX0_addLine_118
      · skip
        refine z_aload_n hC 0 rfl dX0_addLine_99 rfl ?_
        refine z_getR hC zfX0_25 (tmC_1 ad tc _) (okC_1 (by omega)) rfl dX0_addLine_100 ?_
        refine z_iload hC 2 rfl dX0_addLine_103 ?_
        refine z_aaload hC 3 (j) (ad 8 (j)) (tmC_4 ad tc _) (tysC_3 tc) (okC_4 (by omega)) (rfl) (by omega) (by decide) rfl dX0_addLine_105 ?_
        refine z_aload_n hC 0 rfl dX0_addLine_106 rfl ?_
        refine z_callVv hC zlX0_74 (k_X3_planRoute l D tc ad hI (planAll (addLine0 M t b mo) j) j (by omega) hWk) (tmC_8 ad tc _) rfl (okC_8 (by omega)) rfl rfl (Nat.le_of_ble_eq_true rfl) ⟨by decide, by decide⟩ ⟨by decide, by decide⟩ dX0_addLine_107 ?_
        refine z_iinc hC 2 (L' := [(6, iv (((j : Nat) : Int) + 1)), (0, .ref (ad 1 0)), (4, iv (M 1 0 5))]) dX0_addLine_110 rfl (by decide) rfl ?_
        refine z_goto hC 90 dX0_addLine_113 (by decide) ?_
        refine z_perm [1, 2, 0] (L' := [(0, .ref (ad 1 0)), (4, iv (M 1 0 5)), (6, iv (((j : Nat) : Int) + 1))]) rfl ?_
        exact z_conv (ih90 _ (by omega) (j + 1) (by omega) rfl) (by rfl) (by rfl) (by rfl)
  refine z_aload_n hC 0 rfl dX0_addLine_0 rfl ?_
  have hq1 : 0 ≤ M 1 0 5 ∧ M 1 0 5 ≤ 12 := hW.1 1 0 5
  refine z_getI hC zfX0_49 (tmC_1 ad tc _) (okC_1 (by omega)) rfl (x := M 1 0 5) (rfl) dX0_addLine_1 ?_
  refine z_istore hC (L' := [(4, iv (M 1 0 5)), (0, .ref (ad 1 0)), (1, iv t), (2, iv b), (3, iv mo)]) dX0_addLine_4 (by decide) rfl ?_
  refine z_aload_n hC 1 rfl dX0_addLine_6 rfl ?_
  refine z_getR hC zfX0_19 (tmC_1 ad tc _) (okC_1 (by omega)) rfl dX0_addLine_7 ?_
  refine z_iload hC 0 rfl dX0_addLine_10 ?_
  refine z_aaload hC 2 ((M 1 0 5).toNat) (ad 7 (((M 1 0 5).toNat))) (tmC_3 ad tc _) (tysC_2 tc) (okC_3 (by omega)) (by omega) (by omega) (by decide) rfl dX0_addLine_12 ?_
  refine z_astore hC (L' := [(5, .ref (ad 7 ((M 1 0 5).toNat))), (4, iv (M 1 0 5)), (0, .ref (ad 1 0)), (1, iv t), (2, iv b), (3, iv mo)]) dX0_addLine_13 (by decide) rfl ?_
  refine z_aload hC 0 rfl dX0_addLine_15 ?_
  refine z_iload_n hC 3 rfl dX0_addLine_17 rfl ?_
  refine z_put hC zgX0_52 (tmC_7 ad tc _) (okC_7 (by omega)) rfl dX0_addLine_18 ?_
  refine z_aload hC 0 rfl dX0_addLine_21 ?_
  refine z_iload_n hC 4 rfl dX0_addLine_23 rfl ?_
  refine z_put hC zgX0_55 (tmC_7 ad tc _) (okC_7 (by omega)) rfl dX0_addLine_24 ?_
  refine z_aload hC 0 rfl dX0_addLine_27 ?_
  refine z_iload_n hC 5 rfl dX0_addLine_29 rfl ?_
  refine z_put hC zgX0_58 (tmC_7 ad tc _) (okC_7 (by omega)) rfl dX0_addLine_30 ?_
  refine z_aload hC 0 rfl dX0_addLine_33 ?_
  refine z_aload_n hC 2 rfl dX0_addLine_35 rfl ?_
  refine z_getR hC zfX0_11 (tmC_1 ad tc _) (okC_1 (by omega)) rfl dX0_addLine_36 ?_
  refine z_iload_n hC 3 rfl dX0_addLine_39 rfl ?_
  refine z_aaload hC 1 ((t).toNat) (ad 6 (((t).toNat))) (tmC_2 ad tc _) (tysC_1 tc) (okC_2 (by omega)) (by omega) (by omega) (by decide) rfl dX0_addLine_40 ?_
  refine z_aload_n hC 2 rfl dX0_addLine_41 rfl ?_
  refine z_getR hC zfX0_11 (tmC_1 ad tc _) (okC_1 (by omega)) rfl dX0_addLine_42 ?_
  refine z_iload_n hC 4 rfl dX0_addLine_45 rfl ?_
  refine z_aaload hC 1 ((b).toNat) (ad 6 (((b).toNat))) (tmC_2 ad tc _) (tysC_1 tc) (okC_2 (by omega)) (by omega) (by omega) (by decide) rfl dX0_addLine_46 ?_
  refine z_callVi hC zlX0_61 (k_X2_distanceTo l D tc ad hI (zup (zup (zup M 7 ((M 1 0 5).toNat) 0 t) 7 ((M 1 0 5).toNat) 1 b) 7 ((M 1 0 5).toNat) 2 mo) ((t).toNat) ((b).toNat) (by omega) (by omega) (by have y0 : (zup (zup (zup M 7 ((M 1 0 5).toNat) 0 t) 7 ((M 1 0 5).toNat) 1 b) 7 ((M 1 0 5).toNat) 2 mo) 6 ((t).toNat) 0 = M 6 ((t).toNat) 0 := (by simp [zup]); have z1 : 0 ≤ M 6 ((t).toNat) 0 ∧ M 6 ((t).toNat) 0 ≤ 40 := hW.1 6 ((t).toNat) 0; have y2 : (zup (zup (zup M 7 ((M 1 0 5).toNat) 0 t) 7 ((M 1 0 5).toNat) 1 b) 7 ((M 1 0 5).toNat) 2 mo) 6 ((t).toNat) 0 = M 6 ((t).toNat) 0 := (by simp [zup]); have z3 : 0 ≤ M 6 ((t).toNat) 0 ∧ M 6 ((t).toNat) 0 ≤ 40 := hW.1 6 ((t).toNat) 0; omega) (by have y0 : (zup (zup (zup M 7 ((M 1 0 5).toNat) 0 t) 7 ((M 1 0 5).toNat) 1 b) 7 ((M 1 0 5).toNat) 2 mo) 6 ((t).toNat) 1 = M 6 ((t).toNat) 1 := (by simp [zup]); have z1 : 0 ≤ M 6 ((t).toNat) 1 ∧ M 6 ((t).toNat) 1 ≤ 40 := hW.1 6 ((t).toNat) 1; have y2 : (zup (zup (zup M 7 ((M 1 0 5).toNat) 0 t) 7 ((M 1 0 5).toNat) 1 b) 7 ((M 1 0 5).toNat) 2 mo) 6 ((t).toNat) 1 = M 6 ((t).toNat) 1 := (by simp [zup]); have z3 : 0 ≤ M 6 ((t).toNat) 1 ∧ M 6 ((t).toNat) 1 ≤ 40 := hW.1 6 ((t).toNat) 1; omega) (by have y0 : (zup (zup (zup M 7 ((M 1 0 5).toNat) 0 t) 7 ((M 1 0 5).toNat) 1 b) 7 ((M 1 0 5).toNat) 2 mo) 6 ((b).toNat) 0 = M 6 ((b).toNat) 0 := (by simp [zup]); have z1 : 0 ≤ M 6 ((b).toNat) 0 ∧ M 6 ((b).toNat) 0 ≤ 40 := hW.1 6 ((b).toNat) 0; have y2 : (zup (zup (zup M 7 ((M 1 0 5).toNat) 0 t) 7 ((M 1 0 5).toNat) 1 b) 7 ((M 1 0 5).toNat) 2 mo) 6 ((b).toNat) 0 = M 6 ((b).toNat) 0 := (by simp [zup]); have z3 : 0 ≤ M 6 ((b).toNat) 0 ∧ M 6 ((b).toNat) 0 ≤ 40 := hW.1 6 ((b).toNat) 0; omega) (by have y0 : (zup (zup (zup M 7 ((M 1 0 5).toNat) 0 t) 7 ((M 1 0 5).toNat) 1 b) 7 ((M 1 0 5).toNat) 2 mo) 6 ((b).toNat) 1 = M 6 ((b).toNat) 1 := (by simp [zup]); have z1 : 0 ≤ M 6 ((b).toNat) 1 ∧ M 6 ((b).toNat) 1 ≤ 40 := hW.1 6 ((b).toNat) 1; have y2 : (zup (zup (zup M 7 ((M 1 0 5).toNat) 0 t) 7 ((M 1 0 5).toNat) 1 b) 7 ((M 1 0 5).toNat) 2 mo) 6 ((b).toNat) 1 = M 6 ((b).toNat) 1 := (by simp [zup]); have z3 : 0 ≤ M 6 ((b).toNat) 1 ∧ M 6 ((b).toNat) 1 ≤ 40 := hW.1 6 ((b).toNat) 1; omega)) (tmC_6 ad tc _) rfl (okC_6 (by omega)) rfl rfl (Nat.le_of_ble_eq_true rfl) ⟨by decide, by decide⟩ ⟨by decide, by decide⟩ dX0_addLine_47 ?_
  refine z_put hC zgX0_65 (tmC_7 ad tc _) (okC_7 (by omega)) rfl dX0_addLine_50 ?_
  refine z_aload hC 0 rfl dX0_addLine_53 ?_
  refine z_aload_n hC 2 rfl dX0_addLine_55 rfl ?_
  refine z_getR hC zfX0_11 (tmC_1 ad tc _) (okC_1 (by omega)) rfl dX0_addLine_56 ?_
  refine z_iload_n hC 3 rfl dX0_addLine_59 rfl ?_
  refine z_aaload hC 1 ((t).toNat) (ad 6 (((t).toNat))) (tmC_2 ad tc _) (tysC_1 tc) (okC_2 (by omega)) (by omega) (by omega) (by decide) rfl dX0_addLine_60 ?_
  have hq2 : 0 ≤ M 6 ((t).toNat) 2 ∧ M 6 ((t).toNat) 2 ≤ 60 := hW.1 6 ((t).toNat) 2
  refine z_getI hC zfX0_46 (tmC_6 ad tc _) (okC_6 (by omega)) rfl (x := M 6 ((t).toNat) 2) (by simp [zup]) dX0_addLine_61 ?_
  refine z_aload_n hC 2 rfl dX0_addLine_64 rfl ?_
  refine z_getR hC zfX0_11 (tmC_1 ad tc _) (okC_1 (by omega)) rfl dX0_addLine_65 ?_
  refine z_iload_n hC 4 rfl dX0_addLine_68 rfl ?_
  refine z_aaload hC 1 ((b).toNat) (ad 6 (((b).toNat))) (tmC_2 ad tc _) (tysC_1 tc) (okC_2 (by omega)) (by omega) (by omega) (by decide) rfl dX0_addLine_69 ?_
  have hq3 : 0 ≤ M 6 ((b).toNat) 2 ∧ M 6 ((b).toNat) 2 ≤ 60 := hW.1 6 ((b).toNat) 2
  refine z_getI hC zfX0_46 (tmC_6 ad tc _) (okC_6 (by omega)) rfl (x := M 6 ((b).toNat) 2) (by simp [zup]) dX0_addLine_70 ?_
  refine z_isub hC dX0_addLine_73 ?_
  refine z_put hC zgX0_68 (tmC_7 ad tc _) (okC_7 (by omega)) rfl dX0_addLine_74 ?_
  refine z_aload_n hC 2 rfl dX0_addLine_77 rfl ?_
  refine z_dup hC dX0_addLine_78 rfl ?_
  have hq4 : 0 ≤ M 1 0 5 ∧ M 1 0 5 ≤ 12 := hW.1 1 0 5
  refine z_getI hC zfX0_49 (tmC_1 ad tc _) (okC_1 (by omega)) rfl (x := M 1 0 5) (by simp [zup]) dX0_addLine_79 ?_
  refine z_iconst hC dX0_addLine_82 ?_
  refine z_iadd hC dX0_addLine_83 ?_
  refine z_put hC zgX0_49 (tmC_1 ad tc _) (okC_1 (by omega)) rfl dX0_addLine_84 ?_
  refine z_iconst hC dX0_addLine_87 ?_
  refine z_istore hC (L' := [(6, iv 0), (5, .ref (ad 7 ((M 1 0 5).toNat))), (4, iv (M 1 0 5)), (0, .ref (ad 1 0)), (1, iv t), (2, iv b), (3, iv mo)]) dX0_addLine_88 (by decide) rfl ?_
  refine z_perm [3, 2, 0] (L' := [(0, .ref (ad 1 0)), (4, iv (M 1 0 5)), (6, iv 0)]) rfl ?_
  exact z_conv (hc90 _ 0 (by omega) rfl) (by rfl) (by rfl) (by rfl)
set_option maxHeartbeats 4000000 in
set_option maxRecDepth 100000 in
theorem k_X0_addRider (l : Launch) (D : va_G) (tc : Nat → ClassId) (ad : Nat → Nat → Nat) (hI : zI ad okC) (M : zM) {T U : Int} (g w pa : Int) (hW : WTC T U M) (hg : 0 ≤ g ∧ g ≤ 7) (hw : 0 ≤ w ∧ w ≤ 120) (hp : 0 ≤ pa ∧ pa ≤ 60) (hc : M 1 0 6 < 12) : zMi l yX0_addRider cX0_addRider 6 (some .int) 5 D (tysC tc) ad okC (tmC ad tc) [.ref (ad 1 0), iv g, iv w, iv pa] M (M 1 0 6) (addRiderC M g w pa) 0 0 := by
  have hrc : 0 ≤ M 1 0 6 ∧ M 1 0 6 ≤ 12 := hW.1 1 0 6
  refine z_met hI (plainFor_of_name (by decide)) (Nat.le_of_ble_eq_true rfl) ?_
  intro p e s m args below meth c hC hret hlk
  refine z_conv (L2 := [(0, .ref (ad 1 0)), (1, iv g), (2, iv w), (3, iv pa)]) ?_ rfl rfl rfl
  refine z_aload_n hC 0 rfl dX0_addRider_0 rfl ?_
  have hq1 : 0 ≤ M 1 0 6 ∧ M 1 0 6 ≤ 12 := hW.1 1 0 6
  refine z_getI hC zfX0_71 (tmC_1 ad tc _) (okC_1 (by omega)) rfl (x := M 1 0 6) (rfl) dX0_addRider_1 ?_
  refine z_istore hC (L' := [(4, iv (M 1 0 6)), (0, .ref (ad 1 0)), (1, iv g), (2, iv w), (3, iv pa)]) dX0_addRider_4 (by decide) rfl ?_
  refine z_aload_n hC 1 rfl dX0_addRider_6 rfl ?_
  refine z_getR hC zfX0_25 (tmC_1 ad tc _) (okC_1 (by omega)) rfl dX0_addRider_7 ?_
  refine z_iload hC 0 rfl dX0_addRider_10 ?_
  refine z_aaload hC 3 ((M 1 0 6).toNat) (ad 8 (((M 1 0 6).toNat))) (tmC_4 ad tc _) (tysC_3 tc) (okC_4 (by omega)) (by omega) (by omega) (by decide) rfl dX0_addRider_12 ?_
  refine z_astore hC (L' := [(5, .ref (ad 8 ((M 1 0 6).toNat))), (4, iv (M 1 0 6)), (0, .ref (ad 1 0)), (1, iv g), (2, iv w), (3, iv pa)]) dX0_addRider_13 (by decide) rfl ?_
  refine z_aload hC 0 rfl dX0_addRider_15 ?_
  refine z_iload_n hC 3 rfl dX0_addRider_17 rfl ?_
  refine z_put hC zgX0_78 (tmC_8 ad tc _) (okC_8 (by omega)) rfl dX0_addRider_18 ?_
  refine z_aload hC 0 rfl dX0_addRider_21 ?_
  refine z_iload_n hC 4 rfl dX0_addRider_23 rfl ?_
  refine z_put hC zgX0_81 (tmC_8 ad tc _) (okC_8 (by omega)) rfl dX0_addRider_24 ?_
  refine z_aload hC 0 rfl dX0_addRider_27 ?_
  refine z_iload_n hC 5 rfl dX0_addRider_29 rfl ?_
  refine z_put hC zgX0_84 (tmC_8 ad tc _) (okC_8 (by omega)) rfl dX0_addRider_30 ?_
  refine z_aload hC 0 rfl dX0_addRider_33 ?_
  refine z_aload_n hC 2 rfl dX0_addRider_35 rfl ?_
  have hW1 : WTC T U (zup (zup (zup M 8 ((M 1 0 6).toNat) 1 g) 8 ((M 1 0 6).toNat) 2 w) 8 ((M 1 0 6).toNat) 3 pa) := ((hW.up (f := 8) (k := 1) (by decide) hg).up (f := 8) (k := 2) (by decide) hw).up (f := 8) (k := 3) (by decide) hp
  refine z_callVv hC zlX0_74 (k_X3_planRoute l D tc ad hI (zup (zup (zup M 8 ((M 1 0 6).toNat) 1 g) 8 ((M 1 0 6).toNat) 2 w) 8 ((M 1 0 6).toNat) 3 pa) ((M 1 0 6).toNat) (by omega) hW1) (tmC_8 ad tc _) rfl (okC_8 (by omega)) rfl rfl (Nat.le_of_ble_eq_true rfl) ⟨by decide, by decide⟩ ⟨by decide, by decide⟩ dX0_addRider_36 ?_
  refine z_aload_n hC 2 rfl dX0_addRider_39 rfl ?_
  refine z_dup hC dX0_addRider_40 rfl ?_
  have hq2 : 0 ≤ M 1 0 6 ∧ M 1 0 6 ≤ 12 := hW.1 1 0 6
  refine z_getI hC zfX0_71 (tmC_1 ad tc _) (okC_1 (by omega)) rfl (x := M 1 0 6) (by simp [zup, planC_fr (f := 1) (by decide)]) dX0_addRider_41 ?_
  refine z_iconst hC dX0_addRider_44 ?_
  refine z_iadd hC dX0_addRider_45 ?_
  refine z_put hC zgX0_71 (tmC_1 ad tc _) (okC_1 (by omega)) rfl dX0_addRider_46 ?_
  refine z_iload hC 1 rfl dX0_addRider_49 ?_
  exact z_iret hC hret hlk rfl (by rfl) (by rfl) dX0_addRider_51
set_option maxHeartbeats 4000000 in
set_option maxRecDepth 100000 in
theorem k_X0_linesWithTop (l : Launch) (D : va_G) (tc : Nat → ClassId) (ad : Nat → Nat → Nat) (hI : zI ad okC) (M : zM) {T U : Int} (q : Int) (hW : WTC T U M) (hq : -2147483648 ≤ q ∧ q < 2147483648) : zMi l yX0_linesWithTop cX0_linesWithTop 4 (some .int) 0 D (tysC tc) ad okC (tmC ad tc) [.ref (ad 1 0), iv q] M (zcnt (fun j => M 7 j 0 = q) (M 1 0 5).toNat) M 0 0 := by
  have hlc : 0 ≤ M 1 0 5 ∧ M 1 0 5 ≤ 12 := hW.1 1 0 5
  refine z_met hI (plainFor_of_name (by decide)) (Nat.le_of_ble_eq_true rfl) ?_
  intro p e s m args below meth c hC hret hlk
  refine z_conv (L2 := [(0, .ref (ad 1 0)), (1, iv q)]) ?_ rfl rfl rfl
  have hc4 : ∀ (d4 : Nat) (j : Nat) (hj : j ≤ (M 1 0 5).toNat), (M 1 0 5).toNat - j = d4 → zV p l e (zrm 0 0 0) s m args below meth c (MQ below (zQi D ad okC (tmC ad tc) (zcnt (fun j => M 7 j 0 = q) (M 1 0 5).toNat) M (zA ad okC s.heap.size)) args s 0 0 (zA ad okC s.heap.size)) D ad okC (tmC ad tc) (zA ad okC s.heap.size) s.heap 4 0 0 M [(0, .ref (ad 1 0)), (1, iv q), (2, iv (zcnt (fun j => M 7 j 0 = q) j)), (3, iv ((j : Nat) : Int))] 4 [] := by
    intro d4
    induction d4 using Nat.strongRecOn with
    | _ d4 ih4 =>
      intro j hj hd4
      refine z_iload_n hC 3 rfl dX0_linesWithTop_4 rfl ?_
      refine z_aload_n hC 0 rfl dX0_linesWithTop_5 rfl ?_
      have hq1 : 0 ≤ M 1 0 5 ∧ M 1 0 5 ≤ 12 := hW.1 1 0 5
      refine z_getI hC zfX0_49 (tmC_1 ad tc _) (okC_1 (by omega)) rfl (x := M 1 0 5) (rfl) dX0_linesWithTop_6 ?_
      refine z_icmp_ge hC 34 dX0_linesWithTop_9 (by decide) (by omega) (by omega) (fun c9 => ?_) (fun c9 => ?_)
      · skip
        refine z_iload_n hC 2 rfl dX0_linesWithTop_34 rfl ?_
        have he : j = (M 1 0 5).toNat := by omega
        subst he
        exact z_iret hC hret hlk rfl (by rfl) (by rfl) dX0_linesWithTop_35
      · skip
        refine z_aload_n hC 0 rfl dX0_linesWithTop_12 rfl ?_
        refine z_getR hC zfX0_19 (tmC_1 ad tc _) (okC_1 (by omega)) rfl dX0_linesWithTop_13 ?_
        refine z_iload_n hC 3 rfl dX0_linesWithTop_16 rfl ?_
        refine z_aaload hC 2 (j) (ad 7 (j)) (tmC_3 ad tc _) (tysC_2 tc) (okC_3 (by omega)) (rfl) (by omega) (by decide) rfl dX0_linesWithTop_17 ?_
        have hq2 : 0 ≤ M 7 j 0 ∧ M 7 j 0 ≤ 7 := hW.1 7 j 0
        refine z_getI hC zfX0_52 (tmC_7 ad tc _) (okC_7 (by omega)) rfl (x := M 7 j 0) (rfl) dX0_linesWithTop_18 ?_
        refine z_iload_n hC 1 rfl dX0_linesWithTop_21 rfl ?_
        refine z_icmp_ne hC 28 dX0_linesWithTop_22 (by decide) (by omega) (by omega) (fun c22 => ?_) (fun c22 => ?_)
        · skip
          refine z_iinc hC 3 (L' := [(3, iv (((j : Nat) : Int) + 1)), (0, .ref (ad 1 0)), (1, iv q), (2, iv (zcnt (fun j => M 7 j 0 = q) j))]) dX0_linesWithTop_28 rfl (by decide) rfl ?_
          refine z_goto hC 4 dX0_linesWithTop_31 (by decide) ?_
          refine z_perm [1, 2, 3, 0] (L' := [(0, .ref (ad 1 0)), (1, iv q), (2, iv (zcnt (fun j => M 7 j 0 = q) j)), (3, iv (((j : Nat) : Int) + 1))]) rfl ?_
          exact z_conv (ih4 _ (by omega) (j + 1) (by omega) rfl) (by rfl) (by simp only [zcnt]; simp [*]) (by rfl)
        · skip
          refine z_iinc hC 2 (L' := [(2, iv (zcnt (fun j => M 7 j 0 = q) j + 1)), (0, .ref (ad 1 0)), (1, iv q), (3, iv ((j : Nat) : Int))]) dX0_linesWithTop_25 rfl (by decide) rfl ?_
          refine z_iinc hC 3 (L' := [(3, iv (((j : Nat) : Int) + 1)), (2, iv (zcnt (fun j => M 7 j 0 = q) j + 1)), (0, .ref (ad 1 0)), (1, iv q)]) dX0_linesWithTop_28 rfl (by decide) rfl ?_
          refine z_goto hC 4 dX0_linesWithTop_31 (by decide) ?_
          refine z_perm [2, 3, 1, 0] (L' := [(0, .ref (ad 1 0)), (1, iv q), (2, iv (zcnt (fun j => M 7 j 0 = q) j + 1)), (3, iv (((j : Nat) : Int) + 1))]) rfl ?_
          exact z_conv (ih4 _ (by omega) (j + 1) (by omega) rfl) (by rfl) (by simp only [zcnt]; simp [*]) (by rfl)
  refine z_iconst hC dX0_linesWithTop_0 ?_
  refine z_istore_n hC (L' := [(2, iv 0), (0, .ref (ad 1 0)), (1, iv q)]) dX0_linesWithTop_1 rfl (by decide) rfl ?_
  refine z_iconst hC dX0_linesWithTop_2 ?_
  refine z_istore_n hC (L' := [(3, iv 0), (2, iv 0), (0, .ref (ad 1 0)), (1, iv q)]) dX0_linesWithTop_3 rfl (by decide) rfl ?_
  refine z_perm [2, 3, 1, 0] (L' := [(0, .ref (ad 1 0)), (1, iv q), (2, iv 0), (3, iv 0)]) rfl ?_
  exact z_conv (hc4 _ 0 (by omega) rfl) (by rfl) (by rfl) (by rfl)
set_option maxHeartbeats 4000000 in
set_option maxRecDepth 100000 in
theorem k_X0_linesWithBottom (l : Launch) (D : va_G) (tc : Nat → ClassId) (ad : Nat → Nat → Nat) (hI : zI ad okC) (M : zM) {T U : Int} (q : Int) (hW : WTC T U M) (hq : -2147483648 ≤ q ∧ q < 2147483648) : zMi l yX0_linesWithBottom cX0_linesWithBottom 4 (some .int) 0 D (tysC tc) ad okC (tmC ad tc) [.ref (ad 1 0), iv q] M (zcnt (fun j => M 7 j 1 = q) (M 1 0 5).toNat) M 0 0 := by
  have hlc : 0 ≤ M 1 0 5 ∧ M 1 0 5 ≤ 12 := hW.1 1 0 5
  refine z_met hI (plainFor_of_name (by decide)) (Nat.le_of_ble_eq_true rfl) ?_
  intro p e s m args below meth c hC hret hlk
  refine z_conv (L2 := [(0, .ref (ad 1 0)), (1, iv q)]) ?_ rfl rfl rfl
  have hc4 : ∀ (d4 : Nat) (j : Nat) (hj : j ≤ (M 1 0 5).toNat), (M 1 0 5).toNat - j = d4 → zV p l e (zrm 0 0 0) s m args below meth c (MQ below (zQi D ad okC (tmC ad tc) (zcnt (fun j => M 7 j 1 = q) (M 1 0 5).toNat) M (zA ad okC s.heap.size)) args s 0 0 (zA ad okC s.heap.size)) D ad okC (tmC ad tc) (zA ad okC s.heap.size) s.heap 4 0 0 M [(0, .ref (ad 1 0)), (1, iv q), (2, iv (zcnt (fun j => M 7 j 1 = q) j)), (3, iv ((j : Nat) : Int))] 4 [] := by
    intro d4
    induction d4 using Nat.strongRecOn with
    | _ d4 ih4 =>
      intro j hj hd4
      refine z_iload_n hC 3 rfl dX0_linesWithBottom_4 rfl ?_
      refine z_aload_n hC 0 rfl dX0_linesWithBottom_5 rfl ?_
      have hq1 : 0 ≤ M 1 0 5 ∧ M 1 0 5 ≤ 12 := hW.1 1 0 5
      refine z_getI hC zfX0_49 (tmC_1 ad tc _) (okC_1 (by omega)) rfl (x := M 1 0 5) (rfl) dX0_linesWithBottom_6 ?_
      refine z_icmp_ge hC 34 dX0_linesWithBottom_9 (by decide) (by omega) (by omega) (fun c9 => ?_) (fun c9 => ?_)
      · skip
        refine z_iload_n hC 2 rfl dX0_linesWithBottom_34 rfl ?_
        have he : j = (M 1 0 5).toNat := by omega
        subst he
        exact z_iret hC hret hlk rfl (by rfl) (by rfl) dX0_linesWithBottom_35
      · skip
        refine z_aload_n hC 0 rfl dX0_linesWithBottom_12 rfl ?_
        refine z_getR hC zfX0_19 (tmC_1 ad tc _) (okC_1 (by omega)) rfl dX0_linesWithBottom_13 ?_
        refine z_iload_n hC 3 rfl dX0_linesWithBottom_16 rfl ?_
        refine z_aaload hC 2 (j) (ad 7 (j)) (tmC_3 ad tc _) (tysC_2 tc) (okC_3 (by omega)) (rfl) (by omega) (by decide) rfl dX0_linesWithBottom_17 ?_
        have hq2 : 0 ≤ M 7 j 1 ∧ M 7 j 1 ≤ 7 := hW.1 7 j 1
        refine z_getI hC zfX0_55 (tmC_7 ad tc _) (okC_7 (by omega)) rfl (x := M 7 j 1) (rfl) dX0_linesWithBottom_18 ?_
        refine z_iload_n hC 1 rfl dX0_linesWithBottom_21 rfl ?_
        refine z_icmp_ne hC 28 dX0_linesWithBottom_22 (by decide) (by omega) (by omega) (fun c22 => ?_) (fun c22 => ?_)
        · skip
          refine z_iinc hC 3 (L' := [(3, iv (((j : Nat) : Int) + 1)), (0, .ref (ad 1 0)), (1, iv q), (2, iv (zcnt (fun j => M 7 j 1 = q) j))]) dX0_linesWithBottom_28 rfl (by decide) rfl ?_
          refine z_goto hC 4 dX0_linesWithBottom_31 (by decide) ?_
          refine z_perm [1, 2, 3, 0] (L' := [(0, .ref (ad 1 0)), (1, iv q), (2, iv (zcnt (fun j => M 7 j 1 = q) j)), (3, iv (((j : Nat) : Int) + 1))]) rfl ?_
          exact z_conv (ih4 _ (by omega) (j + 1) (by omega) rfl) (by rfl) (by simp only [zcnt]; simp [*]) (by rfl)
        · skip
          refine z_iinc hC 2 (L' := [(2, iv (zcnt (fun j => M 7 j 1 = q) j + 1)), (0, .ref (ad 1 0)), (1, iv q), (3, iv ((j : Nat) : Int))]) dX0_linesWithBottom_25 rfl (by decide) rfl ?_
          refine z_iinc hC 3 (L' := [(3, iv (((j : Nat) : Int) + 1)), (2, iv (zcnt (fun j => M 7 j 1 = q) j + 1)), (0, .ref (ad 1 0)), (1, iv q)]) dX0_linesWithBottom_28 rfl (by decide) rfl ?_
          refine z_goto hC 4 dX0_linesWithBottom_31 (by decide) ?_
          refine z_perm [2, 3, 1, 0] (L' := [(0, .ref (ad 1 0)), (1, iv q), (2, iv (zcnt (fun j => M 7 j 1 = q) j + 1)), (3, iv (((j : Nat) : Int) + 1))]) rfl ?_
          exact z_conv (ih4 _ (by omega) (j + 1) (by omega) rfl) (by rfl) (by simp only [zcnt]; simp [*]) (by rfl)
  refine z_iconst hC dX0_linesWithBottom_0 ?_
  refine z_istore_n hC (L' := [(2, iv 0), (0, .ref (ad 1 0)), (1, iv q)]) dX0_linesWithBottom_1 rfl (by decide) rfl ?_
  refine z_iconst hC dX0_linesWithBottom_2 ?_
  refine z_istore_n hC (L' := [(3, iv 0), (2, iv 0), (0, .ref (ad 1 0)), (1, iv q)]) dX0_linesWithBottom_3 rfl (by decide) rfl ?_
  refine z_perm [2, 3, 1, 0] (L' := [(0, .ref (ad 1 0)), (1, iv q), (2, iv 0), (3, iv 0)]) rfl ?_
  exact z_conv (hc4 _ 0 (by omega) rfl) (by rfl) (by rfl) (by rfl)
set_option maxHeartbeats 4000000 in
set_option maxRecDepth 100000 in
theorem k_X0_isClosed (l : Launch) (D : va_G) (tc : Nat → ClassId) (ad : Nat → Nat → Nat) (hI : zI ad okC) (M : zM) {T U : Int} (ln : Nat) (mi : Int) (hln : ln < 12) (hW : WTC T U M) (hm : 0 ≤ mi ∧ mi < 2147483648) : zMi l yX0_isClosed cX0_isClosed 4 (some .boolean) 1 D (tysC tc) ad okC (tmC ad tc) [.ref (ad 1 0), .ref (ad 7 ln), iv mi] M (if 80 - 8 * M 5 0 (mi % 12).toNat < M 7 ln 3 then 1 else 0) M 0 0 := by
  have hm1 := Int.emod_nonneg mi (show (12:Int) ≠ 0 by decide)
  have hm2 := Int.emod_lt_of_pos mi (show (0:Int) < 12 by decide)
  have hm3 : 0 ≤ M 5 0 (mi % 12).toNat ∧ M 5 0 (mi % 12).toNat ≤ 9 := hW.1 5 0 _
  have hm4 : 0 ≤ M 7 ln 3 ∧ M 7 ln 3 ≤ 80 := hW.1 7 ln 3
  refine z_met hI (plainFor_of_name (by decide)) (Nat.le_of_ble_eq_true rfl) ?_
  intro p e s m args below meth c hC hret hlk
  refine z_conv (L2 := [(0, .ref (ad 1 0)), (1, .ref (ad 7 ln)), (2, iv mi)]) ?_ rfl rfl rfl
  refine z_aload_n hC 0 rfl dX0_isClosed_0 rfl ?_
  refine z_getR hC zfX0_29 (tmC_1 ad tc _) (okC_1 (by omega)) rfl dX0_isClosed_1 ?_
  refine z_iload_n hC 2 rfl dX0_isClosed_4 rfl ?_
  refine z_bipush hC dX0_isClosed_5 (by decide) ?_
  refine z_callSi hC zlX0_87 (k_J9_floorMod_7cf53 l D tc ad hI M mi 12 (by omega) (by omega)) rfl rfl (Nat.le_of_ble_eq_true rfl) ⟨by decide, by decide⟩ ⟨by decide, by decide⟩ dX0_isClosed_7 ?_
  have hq1 : 0 ≤ M 5 0 ((mi % 12).toNat) ∧ M 5 0 ((mi % 12).toNat) ≤ 9 := hW.1 5 0 ((mi % 12).toNat)
  refine z_iaload hC 0 ((mi % 12).toNat) (tmC_5 ad tc _) (tysC_0 tc) (okC_5 (by omega)) (by omega) (by omega) (by decide) (x := M 5 0 ((mi % 12).toNat)) (rfl) dX0_isClosed_10 ?_
  refine z_istore_n hC (L' := [(3, iv (M 5 0 ((mi % 12).toNat))), (0, .ref (ad 1 0)), (1, .ref (ad 7 ln)), (2, iv mi)]) dX0_isClosed_11 rfl (by decide) rfl ?_
  refine z_aload_n hC 2 rfl dX0_isClosed_12 rfl ?_
  have hq2 : 0 ≤ M 7 ln 3 ∧ M 7 ln 3 ≤ 80 := hW.1 7 ln 3
  refine z_getI hC zfX0_65 (tmC_7 ad tc _) (okC_7 (by omega)) rfl (x := M 7 ln 3) (rfl) dX0_isClosed_13 ?_
  refine z_bipush hC dX0_isClosed_16 (by decide) ?_
  refine z_bipush hC dX0_isClosed_18 (by decide) ?_
  refine z_iload_n hC 0 rfl dX0_isClosed_20 rfl ?_
  refine z_imul hC dX0_isClosed_21 ?_
  refine z_isub hC dX0_isClosed_22 ?_
  refine z_icmp_le hC 30 dX0_isClosed_23 (by decide) (by omega) (by omega) (fun c23 => ?_) (fun c23 => ?_)
  · skip
    refine z_iconst hC dX0_isClosed_30 ?_
    exact z_iret hC hret hlk (by decide) (by first | rw [if_pos (by omega)] | rw [if_neg (by omega)]) (by rfl) dX0_isClosed_31
  · skip
    refine z_iconst hC dX0_isClosed_26 ?_
    refine z_goto hC 31 dX0_isClosed_27 (by decide) ?_
    exact z_iret hC hret hlk (by decide) (by first | rw [if_pos (by omega)] | rw [if_neg (by omega)]) (by rfl) dX0_isClosed_31
end
