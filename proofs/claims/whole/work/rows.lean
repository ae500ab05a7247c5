section
-- ===== PART A: goes FIRST, ahead of the names: the tables' words, and 'selects' of the private methods out of them =====
/-- a private method of a class that the tables say can be made, by its rows of tables_1 -/
def lw_okq (q : MethodName × Nat) : Prop := (q.1.cls ≠ "java/lang/invoke/MethodHandle" ∧ q.1.cls ≠ "java/lang/invoke/VarHandle") ∧ Cond.instantiable q.1.cls q.2 ∈ tables_1 ∧ Cond.privateMethod q.1 ∈ tables_1 ∧ Cond.instanceMethod q.1 ∈ tables_1
theorem lw_p0 : lw_okq (⟨"ZipCanopy", "countFact", "(I)I"⟩, 4) := ⟨⟨by decide +kernel, by decide +kernel⟩, List.mem_of_getElem? (i := 21) (by decide +kernel), List.mem_of_getElem? (i := 294) (by decide +kernel), List.mem_of_getElem? (i := 295) (by decide +kernel)⟩
theorem lw_p1 : lw_okq (⟨"ZipCanopy", "digestPlatform", "(JI)J"⟩, 4) := ⟨⟨by decide +kernel, by decide +kernel⟩, List.mem_of_getElem? (i := 21) (by decide +kernel), List.mem_of_getElem? (i := 314) (by decide +kernel), List.mem_of_getElem? (i := 315) (by decide +kernel)⟩
theorem lw_p2 : lw_okq (⟨"ZipCanopy", "platformFact", "(II)I"⟩, 4) := ⟨⟨by decide +kernel, by decide +kernel⟩, List.mem_of_getElem? (i := 21) (by decide +kernel), List.mem_of_getElem? (i := 318) (by decide +kernel), List.mem_of_getElem? (i := 319) (by decide +kernel)⟩
theorem lw_p3 : lw_okq (⟨"ZipCanopy", "lineFact", "(II)I"⟩, 4) := ⟨⟨by decide +kernel, by decide +kernel⟩, List.mem_of_getElem? (i := 21) (by decide +kernel), List.mem_of_getElem? (i := 342) (by decide +kernel), List.mem_of_getElem? (i := 343) (by decide +kernel)⟩
theorem lw_p4 : lw_okq (⟨"ZipCanopy", "riderFact", "(II)I"⟩, 4) := ⟨⟨by decide +kernel, by decide +kernel⟩, List.mem_of_getElem? (i := 21) (by decide +kernel), List.mem_of_getElem? (i := 358) (by decide +kernel), List.mem_of_getElem? (i := 359) (by decide +kernel)⟩
theorem lw_p5 : lw_okq (⟨"java/lang/Throwable", "fillInStackTrace", "(I)Ljava/lang/Throwable;"⟩, 6) := ⟨⟨by decide +kernel, by decide +kernel⟩, List.mem_of_getElem? (i := 424) (by decide +kernel), List.mem_of_getElem? (i := 422) (by decide +kernel), List.mem_of_getElem? (i := 423) (by decide +kernel)⟩
theorem lw_p6 : lw_okq (⟨"ZipCanopy", "isPlatform", "(I)Z"⟩, 4) := ⟨⟨by decide +kernel, by decide +kernel⟩, List.mem_of_getElem? (i := 21) (by decide +kernel), List.mem_of_getElem? (i := 486) (by decide +kernel), List.mem_of_getElem? (i := 487) (by decide +kernel)⟩
theorem lw_p7 : lw_okq (⟨"ZipCanopy$Route", "extend", "(LZipCanopy$Line;III)V"⟩, 2) := ⟨⟨by decide +kernel, by decide +kernel⟩, List.mem_of_getElem? (i := 99) (by decide +kernel), List.mem_of_getElem? (i := 531) (by decide +kernel), List.mem_of_getElem? (i := 532) (by decide +kernel)⟩
theorem lw_p8 : lw_okq (⟨"ZipCanopy", "isLine", "(I)Z"⟩, 4) := ⟨⟨by decide +kernel, by decide +kernel⟩, List.mem_of_getElem? (i := 21) (by decide +kernel), List.mem_of_getElem? (i := 551) (by decide +kernel), List.mem_of_getElem? (i := 552) (by decide +kernel)⟩
theorem lw_p9 : lw_okq (⟨"ZipCanopy", "isRider", "(I)Z"⟩, 4) := ⟨⟨by decide +kernel, by decide +kernel⟩, List.mem_of_getElem? (i := 21) (by decide +kernel), List.mem_of_getElem? (i := 636) (by decide +kernel), List.mem_of_getElem? (i := 637) (by decide +kernel)⟩
theorem lw_p10 : lw_okq (⟨"ZipCanopy$Traffic", "moveTrolleys", "(LZipCanopy$Line;LZipCanopy$Trolleys;)V"⟩, 6) := ⟨⟨by decide +kernel, by decide +kernel⟩, List.mem_of_getElem? (i := 171) (by decide +kernel), List.mem_of_getElem? (i := 666) (by decide +kernel), List.mem_of_getElem? (i := 667) (by decide +kernel)⟩
theorem lw_p11 : lw_okq (⟨"ZipCanopy$Traffic", "beginRide", "(LZipCanopy$Line;I)V"⟩, 6) := ⟨⟨by decide +kernel, by decide +kernel⟩, List.mem_of_getElem? (i := 171) (by decide +kernel), List.mem_of_getElem? (i := 684) (by decide +kernel), List.mem_of_getElem? (i := 685) (by decide +kernel)⟩
theorem lw_p12 : lw_okq (⟨"ZipCanopy$Traffic", "firstWaitingFor", "(I)I"⟩, 6) := ⟨⟨by decide +kernel, by decide +kernel⟩, List.mem_of_getElem? (i := 171) (by decide +kernel), List.mem_of_getElem? (i := 688) (by decide +kernel), List.mem_of_getElem? (i := 689) (by decide +kernel)⟩
theorem lw_p13 : lw_okq (⟨"ZipCanopy$Traffic", "leaveWaiting", "(I)V"⟩, 6) := ⟨⟨by decide +kernel, by decide +kernel⟩, List.mem_of_getElem? (i := 171) (by decide +kernel), List.mem_of_getElem? (i := 698) (by decide +kernel), List.mem_of_getElem? (i := 699) (by decide +kernel)⟩
theorem lw_p14 : lw_okq (⟨"ZipCanopy$Traffic", "tireWaiting", "()V"⟩, 6) := ⟨⟨by decide +kernel, by decide +kernel⟩, List.mem_of_getElem? (i := 171) (by decide +kernel), List.mem_of_getElem? (i := 711) (by decide +kernel), List.mem_of_getElem? (i := 712) (by decide +kernel)⟩
theorem lw_p15 : lw_okq (⟨"ZipCanopy", "arrivalsWithOneMore", "(II)I"⟩, 4) := ⟨⟨by decide +kernel, by decide +kernel⟩, List.mem_of_getElem? (i := 21) (by decide +kernel), List.mem_of_getElem? (i := 772) (by decide +kernel), List.mem_of_getElem? (i := 773) (by decide +kernel)⟩
def lw_privs_1 : List (MethodName × Nat) := [(⟨"ZipCanopy", "countFact", "(I)I"⟩, 4), (⟨"ZipCanopy", "digestPlatform", "(JI)J"⟩, 4), (⟨"ZipCanopy", "platformFact", "(II)I"⟩, 4), (⟨"ZipCanopy", "lineFact", "(II)I"⟩, 4), (⟨"ZipCanopy", "riderFact", "(II)I"⟩, 4), (⟨"java/lang/Throwable", "fillInStackTrace", "(I)Ljava/lang/Throwable;"⟩, 6), (⟨"ZipCanopy", "isPlatform", "(I)Z"⟩, 4), (⟨"ZipCanopy$Route", "extend", "(LZipCanopy$Line;III)V"⟩, 2), (⟨"ZipCanopy", "isLine", "(I)Z"⟩, 4), (⟨"ZipCanopy", "isRider", "(I)Z"⟩, 4), (⟨"ZipCanopy$Traffic", "moveTrolleys", "(LZipCanopy$Line;LZipCanopy$Trolleys;)V"⟩, 6), (⟨"ZipCanopy$Traffic", "beginRide", "(LZipCanopy$Line;I)V"⟩, 6), (⟨"ZipCanopy$Traffic", "firstWaitingFor", "(I)I"⟩, 6), (⟨"ZipCanopy$Traffic", "leaveWaiting", "(I)V"⟩, 6), (⟨"ZipCanopy$Traffic", "tireWaiting", "()V"⟩, 6), (⟨"ZipCanopy", "arrivalsWithOneMore", "(II)I"⟩, 4)]
theorem lw_r1 : ∀ q ∈ lw_privs_1, lw_okq q := List.forall_mem_cons.mpr ⟨lw_p0, List.forall_mem_cons.mpr ⟨lw_p1, List.forall_mem_cons.mpr ⟨lw_p2, List.forall_mem_cons.mpr ⟨lw_p3, List.forall_mem_cons.mpr ⟨lw_p4, List.forall_mem_cons.mpr ⟨lw_p5, List.forall_mem_cons.mpr ⟨lw_p6, List.forall_mem_cons.mpr ⟨lw_p7, List.forall_mem_cons.mpr ⟨lw_p8, List.forall_mem_cons.mpr ⟨lw_p9, List.forall_mem_cons.mpr ⟨lw_p10, List.forall_mem_cons.mpr ⟨lw_p11, List.forall_mem_cons.mpr ⟨lw_p12, List.forall_mem_cons.mpr ⟨lw_p13, List.forall_mem_cons.mpr ⟨lw_p14, List.forall_mem_cons.mpr ⟨lw_p15, fun _ h => absurd h List.not_mem_nil⟩⟩⟩⟩⟩⟩⟩⟩⟩⟩⟩⟩⟩⟩⟩⟩
theorem lw_p16 : lw_okq (⟨"ZipCanopyModel", "no", "(I)I"⟩, 16) := ⟨⟨by decide +kernel, by decide +kernel⟩, List.mem_of_getElem? (i := 776) (by decide +kernel), List.mem_of_getElem? (i := 913) (by decide +kernel), List.mem_of_getElem? (i := 914) (by decide +kernel)⟩
theorem lw_p17 : lw_okq (⟨"ZipCanopyModel", "isPlatform", "(I)Z"⟩, 16) := ⟨⟨by decide +kernel, by decide +kernel⟩, List.mem_of_getElem? (i := 776) (by decide +kernel), List.mem_of_getElem? (i := 921) (by decide +kernel), List.mem_of_getElem? (i := 922) (by decide +kernel)⟩
theorem lw_p18 : lw_okq (⟨"ZipCanopyModel", "isLine", "(I)Z"⟩, 16) := ⟨⟨by decide +kernel, by decide +kernel⟩, List.mem_of_getElem? (i := 776) (by decide +kernel), List.mem_of_getElem? (i := 929) (by decide +kernel), List.mem_of_getElem? (i := 930) (by decide +kernel)⟩
theorem lw_p19 : lw_okq (⟨"ZipCanopyModel", "platformTold", "(II)I"⟩, 16) := ⟨⟨by decide +kernel, by decide +kernel⟩, List.mem_of_getElem? (i := 776) (by decide +kernel), List.mem_of_getElem? (i := 941) (by decide +kernel), List.mem_of_getElem? (i := 942) (by decide +kernel)⟩
theorem lw_p20 : lw_okq (⟨"ZipCanopyModel", "lineTold", "(II)I"⟩, 16) := ⟨⟨by decide +kernel, by decide +kernel⟩, List.mem_of_getElem? (i := 776) (by decide +kernel), List.mem_of_getElem? (i := 949) (by decide +kernel), List.mem_of_getElem? (i := 950) (by decide +kernel)⟩
theorem lw_p21 : lw_okq (⟨"ZipCanopyModel", "lengthOf", "(I)I"⟩, 16) := ⟨⟨by decide +kernel, by decide +kernel⟩, List.mem_of_getElem? (i := 776) (by decide +kernel), List.mem_of_getElem? (i := 953) (by decide +kernel), List.mem_of_getElem? (i := 954) (by decide +kernel)⟩
theorem lw_p22 : lw_okq (⟨"ZipCanopyModel", "dropOf", "(I)I"⟩, 16) := ⟨⟨by decide +kernel, by decide +kernel⟩, List.mem_of_getElem? (i := 776) (by decide +kernel), List.mem_of_getElem? (i := 958) (by decide +kernel), List.mem_of_getElem? (i := 959) (by decide +kernel)⟩
theorem lw_p23 : lw_okq (⟨"ZipCanopyModel", "isClosed", "(II)Z"⟩, 16) := ⟨⟨by decide +kernel, by decide +kernel⟩, List.mem_of_getElem? (i := 776) (by decide +kernel), List.mem_of_getElem? (i := 966) (by decide +kernel), List.mem_of_getElem? (i := 967) (by decide +kernel)⟩
theorem lw_p24 : lw_okq (⟨"ZipCanopyModel", "rideOf", "(II)I"⟩, 16) := ⟨⟨by decide +kernel, by decide +kernel⟩, List.mem_of_getElem? (i := 776) (by decide +kernel), List.mem_of_getElem? (i := 974) (by decide +kernel), List.mem_of_getElem? (i := 975) (by decide +kernel)⟩
theorem lw_p25 : lw_okq (⟨"ZipCanopyModel", "riderTold", "(II)I"⟩, 16) := ⟨⟨by decide +kernel, by decide +kernel⟩, List.mem_of_getElem? (i := 776) (by decide +kernel), List.mem_of_getElem? (i := 990) (by decide +kernel), List.mem_of_getElem? (i := 991) (by decide +kernel)⟩
theorem lw_p26 : lw_okq (⟨"ZipCanopyModel", "fewest", "(III)I"⟩, 16) := ⟨⟨by decide +kernel, by decide +kernel⟩, List.mem_of_getElem? (i := 776) (by decide +kernel), List.mem_of_getElem? (i := 998) (by decide +kernel), List.mem_of_getElem? (i := 999) (by decide +kernel)⟩
theorem lw_p27 : lw_okq (⟨"ZipCanopyModel", "first", "(III)I"⟩, 16) := ⟨⟨by decide +kernel, by decide +kernel⟩, List.mem_of_getElem? (i := 776) (by decide +kernel), List.mem_of_getElem? (i := 1003) (by decide +kernel), List.mem_of_getElem? (i := 1004) (by decide +kernel)⟩
theorem lw_p28 : lw_okq (⟨"ZipCanopyModel$State", "roll", "(I)V"⟩, 15) := ⟨⟨by decide +kernel, by decide +kernel⟩, List.mem_of_getElem? (i := 782) (by decide +kernel), List.mem_of_getElem? (i := 1023) (by decide +kernel), List.mem_of_getElem? (i := 1024) (by decide +kernel)⟩
theorem lw_p29 : lw_okq (⟨"ZipCanopyModel$State", "begin", "(I)V"⟩, 15) := ⟨⟨by decide +kernel, by decide +kernel⟩, List.mem_of_getElem? (i := 782) (by decide +kernel), List.mem_of_getElem? (i := 1030) (by decide +kernel), List.mem_of_getElem? (i := 1031) (by decide +kernel)⟩
theorem lw_p30 : lw_okq (⟨"ZipCanopyModel$State", "strike", "(I)V"⟩, 15) := ⟨⟨by decide +kernel, by decide +kernel⟩, List.mem_of_getElem? (i := 782) (by decide +kernel), List.mem_of_getElem? (i := 1035) (by decide +kernel), List.mem_of_getElem? (i := 1036) (by decide +kernel)⟩
theorem lw_p31 : lw_okq (⟨"ZipCanopyModel", "counted", "(I)I"⟩, 16) := ⟨⟨by decide +kernel, by decide +kernel⟩, List.mem_of_getElem? (i := 776) (by decide +kernel), List.mem_of_getElem? (i := 1046) (by decide +kernel), List.mem_of_getElem? (i := 1047) (by decide +kernel)⟩
def lw_privs_2 : List (MethodName × Nat) := [(⟨"ZipCanopyModel", "no", "(I)I"⟩, 16), (⟨"ZipCanopyModel", "isPlatform", "(I)Z"⟩, 16), (⟨"ZipCanopyModel", "isLine", "(I)Z"⟩, 16), (⟨"ZipCanopyModel", "platformTold", "(II)I"⟩, 16), (⟨"ZipCanopyModel", "lineTold", "(II)I"⟩, 16), (⟨"ZipCanopyModel", "lengthOf", "(I)I"⟩, 16), (⟨"ZipCanopyModel", "dropOf", "(I)I"⟩, 16), (⟨"ZipCanopyModel", "isClosed", "(II)Z"⟩, 16), (⟨"ZipCanopyModel", "rideOf", "(II)I"⟩, 16), (⟨"ZipCanopyModel", "riderTold", "(II)I"⟩, 16), (⟨"ZipCanopyModel", "fewest", "(III)I"⟩, 16), (⟨"ZipCanopyModel", "first", "(III)I"⟩, 16), (⟨"ZipCanopyModel$State", "roll", "(I)V"⟩, 15), (⟨"ZipCanopyModel$State", "begin", "(I)V"⟩, 15), (⟨"ZipCanopyModel$State", "strike", "(I)V"⟩, 15), (⟨"ZipCanopyModel", "counted", "(I)I"⟩, 16)]
theorem lw_r2 : ∀ q ∈ lw_privs_2, lw_okq q := List.forall_mem_cons.mpr ⟨lw_p16, List.forall_mem_cons.mpr ⟨lw_p17, List.forall_mem_cons.mpr ⟨lw_p18, List.forall_mem_cons.mpr ⟨lw_p19, List.forall_mem_cons.mpr ⟨lw_p20, List.forall_mem_cons.mpr ⟨lw_p21, List.forall_mem_cons.mpr ⟨lw_p22, List.forall_mem_cons.mpr ⟨lw_p23, List.forall_mem_cons.mpr ⟨lw_p24, List.forall_mem_cons.mpr ⟨lw_p25, List.forall_mem_cons.mpr ⟨lw_p26, List.forall_mem_cons.mpr ⟨lw_p27, List.forall_mem_cons.mpr ⟨lw_p28, List.forall_mem_cons.mpr ⟨lw_p29, List.forall_mem_cons.mpr ⟨lw_p30, List.forall_mem_cons.mpr ⟨lw_p31, fun _ h => absurd h List.not_mem_nil⟩⟩⟩⟩⟩⟩⟩⟩⟩⟩⟩⟩⟩⟩⟩⟩
theorem lw_p32 : lw_okq (⟨"ZipCanopyModel$State", "copy", "([I[I)V"⟩, 15) := ⟨⟨by decide +kernel, by decide +kernel⟩, List.mem_of_getElem? (i := 782) (by decide +kernel), List.mem_of_getElem? (i := 1063) (by decide +kernel), List.mem_of_getElem? (i := 1064) (by decide +kernel)⟩
theorem lw_p33 : lw_okq (⟨"ZipCanopyModel", "arrivedIn", "(I)I"⟩, 16) := ⟨⟨by decide +kernel, by decide +kernel⟩, List.mem_of_getElem? (i := 776) (by decide +kernel), List.mem_of_getElem? (i := 1074) (by decide +kernel), List.mem_of_getElem? (i := 1075) (by decide +kernel)⟩
def lw_privs_3 : List (MethodName × Nat) := [(⟨"ZipCanopyModel$State", "copy", "([I[I)V"⟩, 15), (⟨"ZipCanopyModel", "arrivedIn", "(I)I"⟩, 16)]
theorem lw_r3 : ∀ q ∈ lw_privs_3, lw_okq q := List.forall_mem_cons.mpr ⟨lw_p32, List.forall_mem_cons.mpr ⟨lw_p33, fun _ h => absurd h List.not_mem_nil⟩⟩
def lw_privs : List (MethodName × Nat) := lw_privs_1 ++ (lw_privs_2 ++ (lw_privs_3))
def lw_tbl : List Cond := k2_sels lw_privs ++ tables_1
theorem lw_privs_ok : ∀ q ∈ lw_privs, lw_okq q := by
  show ∀ q ∈ lw_privs_1 ++ (lw_privs_2 ++ (lw_privs_3)), lw_okq q
  exact List.forall_mem_append.mpr ⟨lw_r1, List.forall_mem_append.mpr ⟨lw_r2, lw_r3⟩⟩
/-- the streams that the claim lets the run draw from -/
abbrev lw_cs : List Choice := [Jvm.Choice.named "NaN.bits"]
theorem lw_bits : nanBits ∈ lw_cs := by first | decide | exact List.mem_cons_self | simp [lw_cs, nanBits]
-- ===== end of PART A; then your names; then what follows =====
def R_law : String := "ZipCanopyLaw"
/-! ===== BEGIN words of one list among another's, by their places ===== -/
theorem goodIn_r {big : List Cond} (ws : List Cond) (ps : List Nat) (hp : ws = ps.filterMap (fun i => big[i]?)) (h : ws.all goodWord = true) : GoodIn big ws := by
  intro w hw
  have h1 := List.all_eq_true.mp h w hw
  rw [hp] at hw
  obtain ⟨i, -, hi⟩ := List.mem_filterMap.mp hw
  have hm : w ∈ big := by first | exact List.mem_of_getElem? hi | exact List.getElem?_mem hi
  exact ⟨hm, good_of_word h1⟩
theorem goodIn_app {big a b : List Cond} (ha : GoodIn big a) (hb : GoodIn big b) : GoodIn big (a ++ b) := fun w h => (List.mem_append.mp h).elim (ha w) (hb w)
theorem goodIn_ca {big a b : List Cond} {c : Cond} (ha : GoodIn big (c :: a)) (hb : GoodIn big b) : GoodIn big (c :: (a ++ b)) := fun w h => (List.mem_cons.mp h).elim (fun e => ha w (List.mem_cons.mpr (Or.inl e))) (fun h => (List.mem_append.mp h).elim (fun h => ha w (List.mem_cons.mpr (Or.inr h))) (hb w))
theorem goodIn_sub {big ws : List Cond} (hm : ∀ w ∈ ws, w ∈ big) (h : ws.all goodWord = true) : GoodIn big ws := fun w hw => ⟨hm w hw, good_of_word (List.all_eq_true.mp h w hw)⟩
/-! ===== END ===== -/

/-! ===== BEGIN exceptions that leave a method, and their catching by the caller (launches without stack traces) ===== -/
section VXA
/-! The laws vx_back, vx_callV, vx_callS, vx_callSW, vx_throw0, vx_throwS follow proofs of the library, with one case more: JvmDerived/Free/Laws.lean (Back.of_free), Shelf42/LK1.lean (callV, callS), Shelf/KitTraced.lean (throwNew0V, throwNewS). -/
/-- where a method has thrown q: the class by its name, the cell, what was written, the world -/
def vx_T (XC : String → State → State → Prop) (st : State) (q : Addr) (t : State) (mc ms : Nat) (free : Addr → Prop) : Prop :=
  ∃ (E : String) (ce : Cell) (L : List Loc), XC E st t ∧ t.heap[q]? = some ce ∧ ce.vm = .none ∧ st.vm.findClass E = some ce.cls ∧ st.WarmedH t.vm ∧ st.sameButNew ({ t with vm := st.vm } : State) L mc ms ∧ ∀ z ∈ L, free z.base
def vx_Q (Qc : Array Value → State → Outcome → State → Prop) (XC : String → State → State → Prop) (mc ms : Nat) (free : Addr → Prop) : Array Value → State → Outcome → State → Prop := fun a st o t =>
  (Qc a st o t ∧ ∃ L, FrameEnd st o t L mc ms ∧ ∀ q ∈ L, free q.base) ∨ ∃ q, o = .threw q ∧ vx_T XC st q t mc ms free
/-- a callee that returns or throws -/
def vx_Met (l : Launch) (y : MethodName) (ws : List Cond) (rm : Room) (Pc : Array Value → State → Prop) (Qc : Array Value → State → Outcome → State → Prop) (XC : String → State → State → Prop) (mc ms : Nat) (free : Addr → Prop) : Prop :=
  MetFree l y (headSpec ws rm) Pc (fun _ _ _ _ _ => True) (vx_Q Qc XC mc ms free)
def vx_Post (XC : String → State → State → Prop) (mc ms : Nat) (free : Addr → Prop) : Pt → Array Value → Addr → Pt → Prop := fun A a q B =>
  ∃ (g : JFrame) (mk : MethodId) (t : State) (L : List Loc) (E : String) (ce : Cell), B.U.heap = t.heap ∧ B.U.vm = t.vm ∧ XC E (A.U.calling g mk a) t ∧ t.heap[q]? = some ce ∧ ce.vm = .none ∧ A.U.vm.findClass E = some ce.cls ∧ B.locs = A.locs ++ L ∧ (∀ z ∈ L, free z.base) ∧ B.cells = A.cells + mc ∧ B.slots = A.slots + ms
def vx_Back (l : Launch) (R : Room) (p : Program) (e : Env) (below : List Frame) (s : State) (sargs : Array Value) (y : MethodName) (len W9 : Nat)
    (Pre : Pt → Array Value → Prop) (Post : Pt → Array Value → Option Value → Pt → Prop) (PostX : Pt → Array Value → Addr → Pt → Prop) : Prop :=
  ∀ (m : MethodId) (meth : Method) (c : Code) (A : Pt) (g : JFrame) (ig : Instr) (mk : MethodId) (a : Array Value),
    Stand p l e R s m sargs below meth c A.U A.locs A.cells A.slots → g.method = m → g.locals.size = c.maxLocals → decode c.code g.pc = .ok (ig, len) →
    2 * g.monitorRoom + (g.stack.map fun v => v.category).sum ≤ W9 → A.U.methodNamed? y = some mk → Pre A a →
    (∃ (v : Option Value) (B : Pt), Stand p l e R s m sargs below meth c B.U B.locs B.cells B.slots ∧ Post A a v B ∧
      Steps p.tables e below (doInvoke e (A.U.setTop g) [] mk a).1 (B.U.setTop { g with pc := g.pc + len, stack := v.toList ++ g.stack })) ∨
    (∃ (q : Addr) (B : Pt), Stand p l e R s m sargs below meth c B.U B.locs B.cells B.slots ∧ PostX A a q B ∧
      Steps p.tables e below (doInvoke e (A.U.setTop g) [] mk a).1 ((B.U.setTop g).pushFrame (.throwing q)))
section Payer
variable {l : Launch} {R : Room} {p : Program} {e : Env} {below : List Frame} {s : State} {sargs : Array Value} {y : MethodName} {len W9 : Nat}
theorem vx_back {ws : List Cond} {rm : Room} {Pc : Array Value → State → Prop} {Qc : Array Value → State → Outcome → State → Prop} {XC : String → State → State → Prop} {mc ms : Nat} {free : Addr → Prop} {bytes : ByteArray} {maxL : Nat} {ret : Option FieldType}
    (hM : vx_Met l y ws rm Pc Qc XC mc ms free) (hblind : FrameBlind Pc) (hrc : rm.cells = mc) (hrs : rm.slots = ms)
    (hframes : rm.frames + 1 ≤ R.frames) (hlocals : W9 + (maxL + 11) + rm.locals ≤ R.locals)
    (hws : ∀ w ∈ ws, ∀ a' U, s.WarmedH U.vm → w.before a' U = true) (hcode : Cond.code y bytes maxL ret ∈ ws) (hinit : ∀ a' U, s.WarmedH U.vm → (Cond.initialized y.cls).before a' U = true) :
    vx_Back l R p e below s sargs y len W9 (PreOf R mc ms Pc) (PostOf Qc mc ms free) (vx_Post XC mc ms free) := by
  intro m meth c A g ig mk a X hg hsize hdg hW hn hp
  have h1 : (headSpec ws rm).pre.before a A.U = true := atoms_intro fun w hw => hws w hw _ _ X.warmed
  have h2 : (Cond.code y bytes maxL ret).before a A.U = true := hws _ hcode _ _ X.warmed
  have h3 : (Cond.initialized y.cls).before a A.U = true := hinit _ _ X.warmed
  have h4 : A.cells + (headSpec ws rm).room.cells ≤ R.cells := by rw [show (headSpec ws rm).room.cells = mc from hrc]; exact hp.1
  have h5 : A.slots + (headSpec ws rm).room.slots ≤ R.slots := by rw [show (headSpec ws rm).room.slots = ms from hrs]; exact hp.2.1
  have hPc : Pc a (A.U.calling g mk a) := hblind _ _ _ _ hp.2.2
  obtain ⟨U, Ls, c0, s0⟩ := A
  dsimp only [Pt.U, Pt.locs, Pt.cells, Pt.slots] at h1 h2 h3 h4 h5 X hn hPc ⊢
  obtain ⟨methY, cY, hmY, hcY, -, hlY, -, -, -, -⟩ := Cond.code_spec hn h2
  obtain ⟨kY, hkY, -⟩ := className_of_methodNamed hn
  have hinitY : kY.init = .initialized := Cond.initialized_spec (findClass_of_methodNamed hn) hkY h3
  have h : At U g.method c below := by rw [hg]; exact X.here
  have hlocals9 : W9 + (maxL + 11) + (headSpec ws rm).room.locals ≤ R.locals := hlocals
  have happ : (headSpec ws rm).appliesLoose y e.platform (U.calling g mk a) = true :=
    Spec.appliesLoose_calling (g := g) h hdg hn hkY hinitY
      (X.room_calling (g := g) (R' := (headSpec ws rm).room) hsize hmY hcY hframes (by rw [hlY]; omega) h4 h5) h1
  obtain ⟨mid, hmid⟩ := h.above
  have hfr : (U.setTop g).frames = (.java g :: mid) ++ below := by rw [State.frames_setTop' g h.top, hmid]; rfl
  obtain ⟨o, s₂, hsteps, -, hend, hq⟩ := Steps.callFree hM p X.admits X.cas X.clock (acts := []) hfr happ hPc trivial
  have hq' : vx_Q Qc XC mc ms free a (U.calling g mk a) o s₂ := hq
  rw [State.frames_setTop' g h.top] at hend
  obtain ⟨g₀, hg0⟩ := Option.isSome_iff_exists.mp h.top
  obtain ⟨r, hr⟩ := State.topJava?_eq_some.mp hg0
  have hr' : (({ U with heap := s₂.heap, slotsUsed := s₂.slotsUsed } : State).setVm s₂.vm).frames = .java g₀ :: r := hr
  rcases hq' with ⟨hqc, L, hfe, hL⟩ | ⟨q, rfl, E, ce, L, hx, hce, hcv, hcl, hW₂, hsm, hL⟩
  · obtain ⟨⟨v, rfl⟩, hW₂, e2, q2, q3, q4, q5, q6⟩ := id hfe
    have e3 : s₂ = ({ (U.calling g mk a).setFrames s₂.frames with heap := s₂.heap, slotsUsed := s₂.slotsUsed } : State).setVm s₂.vm := by
      have : s₂ = ({ s₂ with vm := (U.calling g mk a).vm } : State).setVm s₂.vm := rfl
      rw [e2] at this
      exact this
    obtain ⟨c₂, i₂, len₂, hc₂, hd₂, hf₂⟩ := hend
    have hW' : U.WarmedH s₂.vm := hW₂
    have hcc : c₂ = c := by
      have h1 : s₂.code? g.method = U.code? g.method := by
        rw [State.code?_eq, State.code?_eq, hW'.alike.method?]
      exact Option.some.inj (hc₂.symm.trans (h1.trans h.code))
    subst hcc
    have hlen : len₂ = len := by rw [hdg] at hd₂; cases hd₂; rfl
    subst hlen
    have hs₂ : s₂ = (({ U with heap := s₂.heap, slotsUsed := s₂.slotsUsed } : State).setVm s₂.vm).setTop { g with pc := g.pc + len₂, stack := v.toList ++ g.stack } := by
      refine e3.trans ?_
      rw [hf₂, State.calling_eq h.top, State.setFrames_setFrames, State.setTop_of_frames _ hr', hr]
      rfl
    have hsame : U.sameButNew ({ U with heap := s₂.heap, slotsUsed := s₂.slotsUsed } : State) L mc ms := by
      refine ⟨?_, q2, q3, q4, q5, q6⟩
      obtain ⟨t, ht, -⟩ := State.frames_cons hr
      show ({ U with heap := s₂.heap, slotsUsed := s₂.slotsUsed } : State) = { U.setFrames U.frames with heap := s₂.heap, slotsUsed := s₂.slotsUsed }
      rw [State.setFrames_self ht]
    subst hg
    refine Or.inl ⟨v, ⟨(({ U with heap := s₂.heap, slotsUsed := s₂.slotsUsed } : State).setVm s₂.vm), Ls ++ L, c0 + mc, s0 + ms⟩,
      ⟨X.admits, X.cas, X.clock, X.frames, X.room, X.hears, X.method, X.code, (X.here.setHeapUsed s₂.heap s₂.slotsUsed).setVm hW'.alike, X.tail, State.WarmedH.trans X.warmed hW', X.limits, X.bytes, X.same.trans (hsame.setVm s.vm)⟩,
      ⟨g, mk, s₂, L, rfl, rfl, hqc, rfl, hL, rfl, rfl⟩, ?_⟩
    show Steps p.tables e below _ ((({ U with heap := s₂.heap, slotsUsed := s₂.slotsUsed } : State).setVm s₂.vm).setTop { g with pc := g.pc + len₂, stack := v.toList ++ g.stack })
    rw [← hs₂]
    exact hsteps
  · obtain ⟨e2, q2, q3, q4, q5, q6⟩ := id hsm
    have e3 : s₂ = ({ (U.calling g mk a).setFrames s₂.frames with heap := s₂.heap, slotsUsed := s₂.slotsUsed } : State).setVm s₂.vm := by
      have : s₂ = ({ s₂ with vm := (U.calling g mk a).vm } : State).setVm s₂.vm := rfl
      rw [e2] at this
      exact this
    have hf₂ : s₂.frames = .throwing q :: .java g :: U.frames.tail := hend
    have hW' : U.WarmedH s₂.vm := hW₂
    have hs₂ : s₂ = ((({ U with heap := s₂.heap, slotsUsed := s₂.slotsUsed } : State).setVm s₂.vm).setTop g).pushFrame (.throwing q) := by
      refine e3.trans ?_
      rw [hf₂, State.calling_eq h.top, State.setFrames_setFrames, State.pushFrame, State.frames_setTop _ hr', State.setTop_of_frames _ hr', State.setFrames_setFrames, hr]
      rfl
    have hsame : U.sameButNew ({ U with heap := s₂.heap, slotsUsed := s₂.slotsUsed } : State) L mc ms := by
      refine ⟨?_, q2, q3, q4, q5, q6⟩
      obtain ⟨t, ht, -⟩ := State.frames_cons hr
      show ({ U with heap := s₂.heap, slotsUsed := s₂.slotsUsed } : State) = { U.setFrames U.frames with heap := s₂.heap, slotsUsed := s₂.slotsUsed }
      rw [State.setFrames_self ht]
    subst hg
    refine Or.inr ⟨q, ⟨(({ U with heap := s₂.heap, slotsUsed := s₂.slotsUsed } : State).setVm s₂.vm), Ls ++ L, c0 + mc, s0 + ms⟩,
      ⟨X.admits, X.cas, X.clock, X.frames, X.room, X.hears, X.method, X.code, (X.here.setHeapUsed s₂.heap s₂.slotsUsed).setVm hW'.alike, X.tail, State.WarmedH.trans X.warmed hW', X.limits, X.bytes, X.same.trans (hsame.setVm s.vm)⟩,
      ⟨g, mk, s₂, L, E, ce, rfl, rfl, hx, hce, hcv, hcl, rfl, hL, rfl, rfl⟩, ?_⟩
    show Steps p.tables e below _ (((({ U with heap := s₂.heap, slotsUsed := s₂.slotsUsed } : State).setVm s₂.vm).setTop g).pushFrame (.throwing q))
    rw [← hs₂]
    exact hsteps
end Payer
section Calls
variable {p : Program} {l : Launch} {e : Env} {R : Room} {s : State} {m : MethodId} {args : Array Value} {below : List Frame} {meth : Method} {c : Code} {T : State} {locs : List Loc} {cells slots : Nat}
theorem vx_callV (X : Stand p l e R s m args below meth c T locs cells slots) (hexec : p.tables.exec = Jvm.exec) {own C : String} {index : Nat} {y : MethodName} {bytes : ByteArray} {maxL : Nat} {ret : Option FieldType}
    (hown : s.vm.findClass own = some m.cls) (hlink : (Cond.methodLink own index y).before args s = true) (hinst : (Cond.instanceMethod y).before args s = true) (hsel : (Cond.selects C y y).before args s = true)
    (hcode : (Cond.code y bytes maxL ret).before args s = true) (hy : y.cls ≠ "java/lang/invoke/MethodHandle" ∧ y.cls ≠ "java/lang/invoke/VarHandle")
    {W9 : Nat} {Pre : Pt → Array Value → Prop} {Post : Pt → Array Value → Option Value → Pt → Prop} {PostX : Pt → Array Value → Addr → Pt → Prop} (hK : vx_Back l R p e below s args y 3 W9 Pre Post PostX)
    {b : Addr} {cellB : Cell} (hcell : T.heap[b]? = some cellB) (hobj : cellB.vm.isStatics = false) (hcls : s.vm.findClass C = some cellB.cls)
    {g : JFrame} (hg : g.method = m) (hsize : g.locals.size = c.maxLocals) {argsL rest : List Value} (hlen : ∀ sig, parseMethodDescriptor y.desc = some sig → argsL.length = sig.parameters.length)
    (hstack : g.stack = argsL.reverse ++ .ref b :: rest) (hW : 2 * g.monitorRoom + (rest.map fun v => v.category).sum ≤ W9) (hdg : decode c.code g.pc = .ok (.invokevirtual index, 3))
    (hpre : ∀ vm₁, s.WarmedH vm₁ → Pre ⟨T.setVm vm₁, locs, cells, slots⟩ (Value.ref b :: argsL).toArray) :
    (∃ (v : Option Value) (vm₁ : Vm) (B : Pt), s.WarmedH vm₁ ∧ Stand p l e R s m args below meth c B.U B.locs B.cells B.slots ∧ Post ⟨T.setVm vm₁, locs, cells, slots⟩ (Value.ref b :: argsL).toArray v B ∧
      ∀ target, Steps p.tables e below (B.U.setTop { g with pc := g.pc + 3, stack := v.toList ++ rest }) target → Steps p.tables e below (T.setTop g) target) ∨
    (∃ (q : Addr) (vm₁ : Vm) (B : Pt), s.WarmedH vm₁ ∧ Stand p l e R s m args below meth c B.U B.locs B.cells B.slots ∧ PostX ⟨T.setVm vm₁, locs, cells, slots⟩ (Value.ref b :: argsL).toArray q B ∧
      Steps p.tables e below (T.setTop g) ((B.U.setTop { g with stack := rest }).pushFrame (.throwing q))) := by
  obtain ⟨mk, methM, hnamed, hmethM, hstM, habM⟩ := Cond.instanceMethod_spec hinst
  obtain ⟨methM', cM, hmethM', -, -, -, -, -, -, hsigM⟩ := Cond.code_spec hnamed hcode
  cases hmethM.symm.trans hmethM'
  obtain ⟨c2, r2, m2, q1, q2, q3, q4, kP, hkP, hkPi⟩ := Cond.selects_spec hsel
  cases hcls.symm.trans q1
  cases (State.methodFound?_of_named hnamed hy).symm.trans q2
  cases hnamed.symm.trans q3
  have hselP : selectMethod e.platform s.vm cellB.cls mk = .method mk := by rw [Launch.admits_selectMethod X.admits]; exact q4
  obtain ⟨vm₁, X₁, hstep₁⟩ := X.invokevirtual hexec hown hlink hnamed hmethM hstM hkP hkPi hy (a := b) (cell := cellB) hcell
    (fun z h => by rw [h] at hobj; cases hobj) hselP hmethM habM hkP hkPi (g := g) hg (argsL := argsL) (rest := rest) (hlen _ hsigM) hstack hdg
  rcases hK m meth c ⟨T.setVm vm₁, locs, cells, slots⟩ { g with stack := rest } (.invokevirtual index) mk (Value.ref b :: argsL).toArray X₁ hg hsize hdg hW (X₁.named hnamed) (hpre vm₁ X₁.warmed) with ⟨v, B, X', hpost, hsteps⟩ | ⟨q, B, X', hpost, hsteps⟩
  · exact Or.inl ⟨v, vm₁, B, X₁.warmed, X', hpost, fun target h => hstep₁ _ fun acts => by rw [doInvoke_state]; exact hsteps.trans h⟩
  · exact Or.inr ⟨q, vm₁, B, X₁.warmed, X', hpost, hstep₁ _ fun acts => by rw [doInvoke_state]; exact hsteps⟩
theorem vx_callS (X : Stand p l e R s m args below meth c T locs cells slots) (hexec : p.tables.exec = Jvm.exec) {own : String} {index : Nat} {y : MethodName} {bytes : ByteArray} {maxL : Nat} {ret : Option FieldType}
    (hown : s.vm.findClass own = some m.cls) (hlink : (Cond.methodLink own index y).before args s = true) (hstat : (Cond.static y).before args s = true) (hinit : (Cond.initialized y.cls).before args s = true)
    (hcode : (Cond.code y bytes maxL ret).before args s = true) (hy : y.cls ≠ "java/lang/invoke/MethodHandle" ∧ y.cls ≠ "java/lang/invoke/VarHandle")
    {W9 : Nat} {Pre : Pt → Array Value → Prop} {Post : Pt → Array Value → Option Value → Pt → Prop} {PostX : Pt → Array Value → Addr → Pt → Prop} (hK : vx_Back l R p e below s args y 3 W9 Pre Post PostX)
    {g : JFrame} (hg : g.method = m) (hsize : g.locals.size = c.maxLocals) {argsL rest : List Value} (hlen : ∀ sig, parseMethodDescriptor y.desc = some sig → argsL.length = sig.parameters.length)
    (hstack : g.stack = argsL.reverse ++ rest) (hW : 2 * g.monitorRoom + (rest.map fun v => v.category).sum ≤ W9) (hdg : decode c.code g.pc = .ok (.invokestatic index, 3))
    (hpre : ∀ vm₁, s.WarmedH vm₁ → Pre ⟨T.setVm vm₁, locs, cells, slots⟩ argsL.toArray) :
    (∃ (v : Option Value) (vm₁ : Vm) (B : Pt), s.WarmedH vm₁ ∧ Stand p l e R s m args below meth c B.U B.locs B.cells B.slots ∧ Post ⟨T.setVm vm₁, locs, cells, slots⟩ argsL.toArray v B ∧
      ∀ target, Steps p.tables e below (B.U.setTop { g with pc := g.pc + 3, stack := v.toList ++ rest }) target → Steps p.tables e below (T.setTop g) target) ∨
    (∃ (q : Addr) (vm₁ : Vm) (B : Pt), s.WarmedH vm₁ ∧ Stand p l e R s m args below meth c B.U B.locs B.cells B.slots ∧ PostX ⟨T.setVm vm₁, locs, cells, slots⟩ argsL.toArray q B ∧
      Steps p.tables e below (T.setTop g) ((B.U.setTop { g with stack := rest }).pushFrame (.throwing q))) := by
  obtain ⟨mk, hnamed⟩ := Cond.code_named hcode
  obtain ⟨methM, cM, hmethM, -, -, -, -, -, -, hsigM⟩ := Cond.code_spec hnamed hcode
  have hstatic : methM.isStatic = true := Cond.static_spec hnamed hmethM hstat
  obtain ⟨kP, hkP, -⟩ := className_of_methodNamed hnamed
  have hinitP : kP.init = .initialized := Cond.initialized_spec (findClass_of_methodNamed hnamed) hkP hinit
  obtain ⟨vm₁, X₁, hstep₁⟩ := X.invokestatic hexec hown hlink hnamed hmethM hstatic hkP hinitP hy (g := g) hg (argsL := argsL) (rest := rest) (hlen _ hsigM) hstack hdg
  rcases hK m meth c ⟨T.setVm vm₁, locs, cells, slots⟩ { g with stack := rest } (.invokestatic index) mk argsL.toArray X₁ hg hsize hdg hW (X₁.named hnamed) (hpre vm₁ X₁.warmed) with ⟨v, B, X', hpost, hsteps⟩ | ⟨q, B, X', hpost, hsteps⟩
  · exact Or.inl ⟨v, vm₁, B, X₁.warmed, X', hpost, fun target h => hstep₁ _ fun acts => by rw [doInvoke_state]; exact hsteps.trans h⟩
  · exact Or.inr ⟨q, vm₁, B, X₁.warmed, X', hpost, hstep₁ _ fun acts => by rw [doInvoke_state]; exact hsteps⟩
end Calls
theorem vx_cls {s : State} {T : State} {vm₁ : Vm} {E : String} {k : ClassId} (hW : s.WarmedH vm₁) (h : (T.setVm vm₁).vm.findClass E = some k) : s.vm.findClass E = some k := by
  have h1 : vm₁.findClass E = some k := h
  rw [hW.alike.findClass] at h1
  exact h1
/-- the method's frame g, with q thrown over it -/
def vx_W (p : Program) (l : Launch) (e : Env) (R : Room) (s : State) (m : MethodId) (args : Array Value) (below : List Frame) (meth : Method) (c : Code) (H : Heap) (locs : List Loc) (cells slots : Nat) (Q : State → Prop) (g : JFrame) (q : Addr) : Prop :=
  ∀ T : State, T.heap = H → Stand p l e R s m args below meth c T locs cells slots → ∃ t, Steps p.tables e below ((T.setTop g).pushFrame (.throwing q)) t ∧ Q t
def vx_Run (p : Program) (l : Launch) (e : Env) (R : Room) (s : State) (m : MethodId) (args : Array Value) (below : List Frame) (meth : Method) (c : Code) (H : Heap) (locs : List Loc) (cells slots mc ms : Nat) (g : JFrame) (rest : List Value) (Qa : State → Outcome → State → Prop) (XC : String → State → State → Prop) (free : Addr → Prop) : Prop :=
  ∀ T : State, T.heap = H → Stand p l e R s m args below meth c T locs cells slots →
    (∃ (v : Option Value) (st₀ t T' : State) (L : List Loc), st₀.heap = H ∧ Stand p l e R s m args below meth c T' (locs ++ L) (cells + mc) (slots + ms) ∧ (∀ q ∈ L, free q.base) ∧ T'.heap = t.heap ∧ T'.vm = t.vm ∧ Qa st₀ (.returned v) t ∧
      Goes p e below T g T' { g with pc := g.pc + 3, stack := v.toList ++ rest }) ∨
    (∃ (q : Addr) (st₀ t T' : State) (L : List Loc) (E : String) (ce : Cell), st₀.heap = H ∧ Stand p l e R s m args below meth c T' (locs ++ L) (cells + mc) (slots + ms) ∧ (∀ z ∈ L, free z.base) ∧ T'.heap = t.heap ∧ T'.vm = t.vm ∧ XC E st₀ t ∧ t.heap[q]? = some ce ∧ ce.vm = .none ∧ s.vm.findClass E = some ce.cls ∧
      Steps p.tables e below (T.setTop g) ((T'.setTop { g with stack := rest }).pushFrame (.throwing q)))
def vx_X {S : Type} (px : S → Prop) (B : String → S → State → Prop) (A : Nat → Prop) : String → State → State → Prop := fun E st t => ∃ u : S, px u ∧ B E u t ∧ va_F A st t
section Runs
variable {p : Program} {l : Launch} {e : Env} {R : Room} {s : State} {m : MethodId} {args : Array Value} {below : List Frame} {meth : Method} {c : Code} {H : Heap} {locs : List Loc} {cells slots : Nat}
variable {y : MethodName} {bytes cc : ByteArray} {maxL nL mc ms n index : Nat} {ret : Option FieldType} {ws : List Cond} {rm : Room} {Pc : Array Value → State → Prop} {Qc : Array Value → State → Outcome → State → Prop} {XC : String → State → State → Prop} {free : Addr → Prop} {Ts : List Cond} {own C : String} {b : Addr} {As rest : List Value} {g : JFrame}
theorem vx_callBack (cb : CallB R s args own index y bytes maxL ret ws rm mc ms n) (hM : vx_Met l y ws rm Pc Qc XC mc ms free) (hbl : FrameBlind Pc) : vx_Back l R p e below s args y 3 8 (PreOf R mc ms Pc) (PostOf Qc mc ms free) (vx_Post XC mc ms free) := by
  obtain ⟨hrc, hrs, hfr, hlo, hws, hcw, -, hini, -⟩ := cb
  exact vx_back (bytes := bytes) (maxL := maxL) (ret := ret) hM hbl hrc hrs hfr hlo hws hcw (fun a' U hW => word_at hW (Or.inl (by first | rfl | simp [Cond.onTables, Cond.keeps, Cond.steady])) hini)
theorem vx_runV (S : CallFix p m c cc nL s args Ts own) (hM : vx_Met l y ws rm Pc Qc XC mc ms free) (cw : CallW R s args own C index y bytes maxL ret ws rm mc ms n) (hp : PreV s H C b Pc As)
    (hg : g.method = m) (hn : As.length = n) (hsize : g.locals.size = nL) (hstack : g.stack = As.reverse ++ .ref b :: rest) (hW : 2 * g.monitorRoom + (rest.map fun v => v.category).sum ≤ 8) (hdg : decode cc g.pc = .ok (.invokevirtual index, 3)) (hf : cells + mc ≤ R.cells ∧ slots + ms ≤ R.slots) :
    vx_Run p l e R s m args below meth c H locs cells slots mc ms g rest (Qc (Value.ref b :: As).toArray) XC free := by
  have hK : vx_Back l R p e below s args y 3 8 (PreOf R mc ms Pc) (PostOf Qc mc ms free) (vx_Post XC mc ms free) := vx_callBack cw.1 hM hp.1
  obtain ⟨⟨-, -, -, -, -, -, hcode, -, hy, hlen, hl⟩, hin, hse⟩ := cw
  obtain ⟨hx, hb, hml, ho, -⟩ := S
  obtain ⟨-, ⟨cellB, hcB, hoB, hclB⟩, hPc⟩ := hp
  intro T hT X
  rcases vx_callV X hx (C := C) (bytes := bytes) (maxL := maxL) (ret := ret) ho hl hin hse hcode hy hK (by rw [hT]; exact hcB) hoB hclB hg (hsize.trans hml.symm) (argsL := As) (rest := rest) (fun sig h => hn.trans (hlen sig h)) hstack hW (by rw [hb]; exact hdg)
    (fun vm₁ hW₁ => ⟨hf.1, hf.2, hPc (T.setVm vm₁) hT hW₁⟩) with ⟨v, vm₁, ⟨U', l2, c2, s2⟩, hW₁, X', ⟨g', mk, t, L, e1, e2, hq, h1, hL, h2, h3⟩, st⟩ | ⟨q, vm₁, ⟨U', l2, c2, s2⟩, hW₁, X', ⟨g', mk, t, L, E, ce, e1, e2, hq, hce, hcv, hcl, h1, hL, h2, h3⟩, st⟩
  · dsimp only [Pt.U, Pt.locs, Pt.cells, Pt.slots] at X' e1 e2 h1 h2 h3 st
    subst h1; subst h2; subst h3
    exact Or.inl ⟨v, (T.setVm vm₁).calling g' mk (Value.ref b :: As).toArray, t, U', L, hT, X', hL, e1, e2, hq, st⟩
  · dsimp only [Pt.U, Pt.locs, Pt.cells, Pt.slots] at X' e1 e2 h1 h2 h3 st hcl
    subst h1; subst h2; subst h3
    exact Or.inr ⟨q, (T.setVm vm₁).calling g' mk (Value.ref b :: As).toArray, t, U', L, E, ce, hT, X', hL, e1, e2, hq, hce, hcv, vx_cls hW₁ hcl, st⟩
theorem vx_runS (S : CallFix p m c cc nL s args Ts own) (hM : vx_Met l y ws rm Pc Qc XC mc ms free) (cw : CallB R s args own index y bytes maxL ret ws rm mc ms n ∧ (Cond.static y).before args s = true) (hp : PreS s H Pc As)
    (hg : g.method = m) (hn : As.length = n) (hsize : g.locals.size = nL) (hstack : g.stack = As.reverse ++ rest) (hW : 2 * g.monitorRoom + (rest.map fun v => v.category).sum ≤ 8) (hdg : decode cc g.pc = .ok (.invokestatic index, 3)) (hf : cells + mc ≤ R.cells ∧ slots + ms ≤ R.slots) :
    vx_Run p l e R s m args below meth c H locs cells slots mc ms g rest (Qc As.toArray) XC free := by
  have hK : vx_Back l R p e below s args y 3 8 (PreOf R mc ms Pc) (PostOf Qc mc ms free) (vx_Post XC mc ms free) := vx_callBack cw.1 hM hp.1
  obtain ⟨⟨-, -, -, -, -, -, hcode, hini, hy, hlen, hl⟩, hstt⟩ := cw
  obtain ⟨hx, hb, hml, ho, -⟩ := S
  intro T hT X
  rcases vx_callS X hx (bytes := bytes) (maxL := maxL) (ret := ret) ho hl hstt hini hcode hy hK hg (hsize.trans hml.symm) (argsL := As) (rest := rest) (fun sig h => hn.trans (hlen sig h)) hstack hW (by rw [hb]; exact hdg)
    (fun vm₁ hW₁ => ⟨hf.1, hf.2, hp.2 (T.setVm vm₁) hT hW₁⟩) with ⟨v, vm₁, ⟨U', l2, c2, s2⟩, hW₁, X', ⟨g', mk, t, L, e1, e2, hq, h1, hL, h2, h3⟩, st⟩ | ⟨q, vm₁, ⟨U', l2, c2, s2⟩, hW₁, X', ⟨g', mk, t, L, E, ce, e1, e2, hq, hce, hcv, hcl, h1, hL, h2, h3⟩, st⟩
  · dsimp only [Pt.U, Pt.locs, Pt.cells, Pt.slots] at X' e1 e2 h1 h2 h3 st
    subst h1; subst h2; subst h3
    exact Or.inl ⟨v, (T.setVm vm₁).calling g' mk As.toArray, t, U', L, hT, X', hL, e1, e2, hq, st⟩
  · dsimp only [Pt.U, Pt.locs, Pt.cells, Pt.slots] at X' e1 e2 h1 h2 h3 st hcl
    subst h1; subst h2; subst h3
    exact Or.inr ⟨q, (T.setVm vm₁).calling g' mk As.toArray, t, U', L, E, ce, hT, X', hL, e1, e2, hq, hce, hcv, vx_cls hW₁ hcl, st⟩
end Runs
section Rows
variable {p : Program} {l : Launch} {e : Env} {R : Room} {s : State} {m : MethodId} {args : Array Value} {below : List Frame} {meth : Method} {c : Code} {H : Heap} {locs : List Loc} {cells slots : Nat} {Q : State → Prop}
variable {mc ms : Nat} {free : Addr → Prop} {A0 A1 : Nat → Prop} {H0 : Heap} {a : Array Value} {pc : Nat} {ls : Array Slot} {st0 rest : List Value}
theorem vx_keep {st₀ t T' : State} {L : List Loc} (h0 : st₀.heap = H) (e1 : T'.heap = t.heap) (hS : va_S A0 H0 H locs) (hA : ∀ q, q < H.size → A1 q → A0 q) (hf : ∀ q, free q → A0 q) (hL : ∀ q ∈ L, free q.base) (hF : va_F A1 st₀ t) :
    H.size ≤ T'.heap.size ∧ (∀ q : Nat, q < H.size → ¬ A1 q → T'.heap[q]? = H[q]?) ∧ va_S A0 H0 T'.heap (locs ++ L) := by
  obtain ⟨hz, hk⟩ := hF
  rw [h0] at hz hk
  exact ⟨by rw [e1]; exact hz, fun q h1 h2 => by rw [e1]; exact hk q h1 h2,
    ⟨Nat.le_trans hS.1 (by rw [e1]; exact hz), fun q h1 h2 => by rw [e1, hk q (Nat.lt_of_lt_of_le h1 hS.1) (fun z => h2 (hA q (Nat.lt_of_lt_of_le h1 hS.1) z))]; exact hS.2.1 q h1 h2, fun q hq => by
      rcases List.mem_append.mp hq with h | h
      · exact hS.2.2 q h
      · exact hf _ (hL q h)⟩⟩
theorem vx_calli {S SX : Type} {post : Int32 → S → Prop} {px : SX → Prop} {B : S → State → Prop} {BX : String → SX → State → Prop} {AX : Nat → Prop} (hr : vx_Run p l e R s m args below meth c H locs cells slots mc ms (F0 m pc ls st0) rest (va_Qi post B A1 a) (vx_X px BX AX) free) (hS : va_S A0 H0 H locs) (hA : ∀ q, q < H.size → A1 q → A0 q) (hf : ∀ q, free q → A0 q) (hAX : ∀ q, q < H.size → AX q → A0 q)
    (kx : ∀ (E : String) (ce : Cell) (q9 : Addr) (u : SX) (t : State) (H1 : Heap) (locs1 : List Loc), t.heap = H1 → s.vm.Alike t.vm → px u → BX E u t → H.size ≤ H1.size → (∀ q : Nat, q < H.size → ¬ AX q → H1[q]? = H[q]?) → va_S A0 H0 H1 locs1 → H1[q9]? = some ce → ce.vm = .none → s.vm.findClass E = some ce.cls → vx_W p l e R s m args below meth c H1 locs1 (cells + mc) (slots + ms) Q (F0 m pc ls rest) q9)
    (kk : ∀ (r : Int32) (u : S) (t : State) (H1 : Heap) (locs1 : List Loc), t.heap = H1 → s.vm.Alike t.vm → post r u → B u t → H.size ≤ H1.size → (∀ q : Nat, q < H.size → ¬ A1 q → H1[q]? = H[q]?) → va_S A0 H0 H1 locs1 → W p l e R s m args below meth c H1 locs1 (cells + mc) (slots + ms) Q (F0 m (pc + 3) ls (.int r :: rest))) : W p l e R s m args below meth c H locs cells slots Q (F0 m pc ls st0) := by
  intro T hT X
  rcases hr T hT X with ⟨v, st₀, t, T', L, h0, X', hL, e1, e2, ⟨⟨r, u, hv, hp, hb⟩, hF⟩, st⟩ | ⟨q, st₀, t, T', L, E, ce, h0, X', hL, e1, e2, ⟨u, hp, hb, hF⟩, hce, hcv, hcl, st⟩
  · cases hv
    obtain ⟨k1, k2, k3⟩ := vx_keep h0 e1 hS hA hf hL hF
    obtain ⟨t2, a1, b1⟩ := kk r u t T'.heap (locs ++ L) e1.symm (by rw [← e2]; exact X'.warmed.alike) hp hb k1 k2 k3 T' rfl X'
    exact ⟨t2, st t2 a1, b1⟩
  · obtain ⟨k1, k2, k3⟩ := vx_keep h0 e1 hS hAX hf hL hF
    obtain ⟨t2, a1, b1⟩ := kx E ce q u t T'.heap (locs ++ L) e1.symm (by rw [← e2]; exact X'.warmed.alike) hp hb k1 k2 k3 (by rw [e1]; exact hce) hcv hcl T' rfl X'
    exact ⟨t2, st.trans a1, b1⟩
theorem vx_calll {S SX : Type} {post : Int64 → S → Prop} {px : SX → Prop} {B : S → State → Prop} {BX : String → SX → State → Prop} {AX : Nat → Prop} (hr : vx_Run p l e R s m args below meth c H locs cells slots mc ms (F0 m pc ls st0) rest (va_Ql post B A1 a) (vx_X px BX AX) free) (hS : va_S A0 H0 H locs) (hA : ∀ q, q < H.size → A1 q → A0 q) (hf : ∀ q, free q → A0 q) (hAX : ∀ q, q < H.size → AX q → A0 q)
    (kx : ∀ (E : String) (ce : Cell) (q9 : Addr) (u : SX) (t : State) (H1 : Heap) (locs1 : List Loc), t.heap = H1 → s.vm.Alike t.vm → px u → BX E u t → H.size ≤ H1.size → (∀ q : Nat, q < H.size → ¬ AX q → H1[q]? = H[q]?) → va_S A0 H0 H1 locs1 → H1[q9]? = some ce → ce.vm = .none → s.vm.findClass E = some ce.cls → vx_W p l e R s m args below meth c H1 locs1 (cells + mc) (slots + ms) Q (F0 m pc ls rest) q9)
    (kk : ∀ (r : Int64) (u : S) (t : State) (H1 : Heap) (locs1 : List Loc), t.heap = H1 → s.vm.Alike t.vm → post r u → B u t → H.size ≤ H1.size → (∀ q : Nat, q < H.size → ¬ A1 q → H1[q]? = H[q]?) → va_S A0 H0 H1 locs1 → W p l e R s m args below meth c H1 locs1 (cells + mc) (slots + ms) Q (F0 m (pc + 3) ls (.long r :: rest))) : W p l e R s m args below meth c H locs cells slots Q (F0 m pc ls st0) := by
  intro T hT X
  rcases hr T hT X with ⟨v, st₀, t, T', L, h0, X', hL, e1, e2, ⟨⟨r, u, hv, hp, hb⟩, hF⟩, st⟩ | ⟨q, st₀, t, T', L, E, ce, h0, X', hL, e1, e2, ⟨u, hp, hb, hF⟩, hce, hcv, hcl, st⟩
  · cases hv
    obtain ⟨k1, k2, k3⟩ := vx_keep h0 e1 hS hA hf hL hF
    obtain ⟨t2, a1, b1⟩ := kk r u t T'.heap (locs ++ L) e1.symm (by rw [← e2]; exact X'.warmed.alike) hp hb k1 k2 k3 T' rfl X'
    exact ⟨t2, st t2 a1, b1⟩
  · obtain ⟨k1, k2, k3⟩ := vx_keep h0 e1 hS hAX hf hL hF
    obtain ⟨t2, a1, b1⟩ := kx E ce q u t T'.heap (locs ++ L) e1.symm (by rw [← e2]; exact X'.warmed.alike) hp hb k1 k2 k3 (by rw [e1]; exact hce) hcv hcl T' rfl X'
    exact ⟨t2, st.trans a1, b1⟩
theorem vx_callf {S SX : Type} {post : UInt32 → S → Prop} {px : SX → Prop} {B : S → State → Prop} {BX : String → SX → State → Prop} {AX : Nat → Prop} (hr : vx_Run p l e R s m args below meth c H locs cells slots mc ms (F0 m pc ls st0) rest (va_Qf post B A1 a) (vx_X px BX AX) free) (hS : va_S A0 H0 H locs) (hA : ∀ q, q < H.size → A1 q → A0 q) (hf : ∀ q, free q → A0 q) (hAX : ∀ q, q < H.size → AX q → A0 q)
    (kx : ∀ (E : String) (ce : Cell) (q9 : Addr) (u : SX) (t : State) (H1 : Heap) (locs1 : List Loc), t.heap = H1 → s.vm.Alike t.vm → px u → BX E u t → H.size ≤ H1.size → (∀ q : Nat, q < H.size → ¬ AX q → H1[q]? = H[q]?) → va_S A0 H0 H1 locs1 → H1[q9]? = some ce → ce.vm = .none → s.vm.findClass E = some ce.cls → vx_W p l e R s m args below meth c H1 locs1 (cells + mc) (slots + ms) Q (F0 m pc ls rest) q9)
    (kk : ∀ (r : UInt32) (u : S) (t : State) (H1 : Heap) (locs1 : List Loc), t.heap = H1 → s.vm.Alike t.vm → post r u → B u t → H.size ≤ H1.size → (∀ q : Nat, q < H.size → ¬ A1 q → H1[q]? = H[q]?) → va_S A0 H0 H1 locs1 → W p l e R s m args below meth c H1 locs1 (cells + mc) (slots + ms) Q (F0 m (pc + 3) ls (.float r :: rest))) : W p l e R s m args below meth c H locs cells slots Q (F0 m pc ls st0) := by
  intro T hT X
  rcases hr T hT X with ⟨v, st₀, t, T', L, h0, X', hL, e1, e2, ⟨⟨r, u, hv, hp, hb⟩, hF⟩, st⟩ | ⟨q, st₀, t, T', L, E, ce, h0, X', hL, e1, e2, ⟨u, hp, hb, hF⟩, hce, hcv, hcl, st⟩
  · cases hv
    obtain ⟨k1, k2, k3⟩ := vx_keep h0 e1 hS hA hf hL hF
    obtain ⟨t2, a1, b1⟩ := kk r u t T'.heap (locs ++ L) e1.symm (by rw [← e2]; exact X'.warmed.alike) hp hb k1 k2 k3 T' rfl X'
    exact ⟨t2, st t2 a1, b1⟩
  · obtain ⟨k1, k2, k3⟩ := vx_keep h0 e1 hS hAX hf hL hF
    obtain ⟨t2, a1, b1⟩ := kx E ce q u t T'.heap (locs ++ L) e1.symm (by rw [← e2]; exact X'.warmed.alike) hp hb k1 k2 k3 (by rw [e1]; exact hce) hcv hcl T' rfl X'
    exact ⟨t2, st.trans a1, b1⟩
theorem vx_calld {S SX : Type} {post : UInt64 → S → Prop} {px : SX → Prop} {B : S → State → Prop} {BX : String → SX → State → Prop} {AX : Nat → Prop} (hr : vx_Run p l e R s m args below meth c H locs cells slots mc ms (F0 m pc ls st0) rest (va_Qd post B A1 a) (vx_X px BX AX) free) (hS : va_S A0 H0 H locs) (hA : ∀ q, q < H.size → A1 q → A0 q) (hf : ∀ q, free q → A0 q) (hAX : ∀ q, q < H.size → AX q → A0 q)
    (kx : ∀ (E : String) (ce : Cell) (q9 : Addr) (u : SX) (t : State) (H1 : Heap) (locs1 : List Loc), t.heap = H1 → s.vm.Alike t.vm → px u → BX E u t → H.size ≤ H1.size → (∀ q : Nat, q < H.size → ¬ AX q → H1[q]? = H[q]?) → va_S A0 H0 H1 locs1 → H1[q9]? = some ce → ce.vm = .none → s.vm.findClass E = some ce.cls → vx_W p l e R s m args below meth c H1 locs1 (cells + mc) (slots + ms) Q (F0 m pc ls rest) q9)
    (kk : ∀ (r : UInt64) (u : S) (t : State) (H1 : Heap) (locs1 : List Loc), t.heap = H1 → s.vm.Alike t.vm → post r u → B u t → H.size ≤ H1.size → (∀ q : Nat, q < H.size → ¬ A1 q → H1[q]? = H[q]?) → va_S A0 H0 H1 locs1 → W p l e R s m args below meth c H1 locs1 (cells + mc) (slots + ms) Q (F0 m (pc + 3) ls (.double r :: rest))) : W p l e R s m args below meth c H locs cells slots Q (F0 m pc ls st0) := by
  intro T hT X
  rcases hr T hT X with ⟨v, st₀, t, T', L, h0, X', hL, e1, e2, ⟨⟨r, u, hv, hp, hb⟩, hF⟩, st⟩ | ⟨q, st₀, t, T', L, E, ce, h0, X', hL, e1, e2, ⟨u, hp, hb, hF⟩, hce, hcv, hcl, st⟩
  · cases hv
    obtain ⟨k1, k2, k3⟩ := vx_keep h0 e1 hS hA hf hL hF
    obtain ⟨t2, a1, b1⟩ := kk r u t T'.heap (locs ++ L) e1.symm (by rw [← e2]; exact X'.warmed.alike) hp hb k1 k2 k3 T' rfl X'
    exact ⟨t2, st t2 a1, b1⟩
  · obtain ⟨k1, k2, k3⟩ := vx_keep h0 e1 hS hAX hf hL hF
    obtain ⟨t2, a1, b1⟩ := kx E ce q u t T'.heap (locs ++ L) e1.symm (by rw [← e2]; exact X'.warmed.alike) hp hb k1 k2 k3 (by rw [e1]; exact hce) hcv hcl T' rfl X'
    exact ⟨t2, st.trans a1, b1⟩
theorem vx_callv {S SX : Type} {post : S → Prop} {px : SX → Prop} {B : S → State → Prop} {BX : String → SX → State → Prop} {AX : Nat → Prop} (hr : vx_Run p l e R s m args below meth c H locs cells slots mc ms (F0 m pc ls st0) rest (va_Qv post B A1 a) (vx_X px BX AX) free) (hS : va_S A0 H0 H locs) (hA : ∀ q, q < H.size → A1 q → A0 q) (hf : ∀ q, free q → A0 q) (hAX : ∀ q, q < H.size → AX q → A0 q)
    (kx : ∀ (E : String) (ce : Cell) (q9 : Addr) (u : SX) (t : State) (H1 : Heap) (locs1 : List Loc), t.heap = H1 → s.vm.Alike t.vm → px u → BX E u t → H.size ≤ H1.size → (∀ q : Nat, q < H.size → ¬ AX q → H1[q]? = H[q]?) → va_S A0 H0 H1 locs1 → H1[q9]? = some ce → ce.vm = .none → s.vm.findClass E = some ce.cls → vx_W p l e R s m args below meth c H1 locs1 (cells + mc) (slots + ms) Q (F0 m pc ls rest) q9)
    (kk : ∀ (u : S) (t : State) (H1 : Heap) (locs1 : List Loc), t.heap = H1 → s.vm.Alike t.vm → post u → B u t → H.size ≤ H1.size → (∀ q : Nat, q < H.size → ¬ A1 q → H1[q]? = H[q]?) → va_S A0 H0 H1 locs1 → W p l e R s m args below meth c H1 locs1 (cells + mc) (slots + ms) Q (F0 m (pc + 3) ls (rest))) : W p l e R s m args below meth c H locs cells slots Q (F0 m pc ls st0) := by
  intro T hT X
  rcases hr T hT X with ⟨v, st₀, t, T', L, h0, X', hL, e1, e2, ⟨⟨u, hv, hp, hb⟩, hF⟩, st⟩ | ⟨q, st₀, t, T', L, E, ce, h0, X', hL, e1, e2, ⟨u, hp, hb, hF⟩, hce, hcv, hcl, st⟩
  · cases hv
    obtain ⟨k1, k2, k3⟩ := vx_keep h0 e1 hS hA hf hL hF
    obtain ⟨t2, a1, b1⟩ := kk u t T'.heap (locs ++ L) e1.symm (by rw [← e2]; exact X'.warmed.alike) hp hb k1 k2 k3 T' rfl X'
    exact ⟨t2, st t2 a1, b1⟩
  · obtain ⟨k1, k2, k3⟩ := vx_keep h0 e1 hS hAX hf hL hF
    obtain ⟨t2, a1, b1⟩ := kx E ce q u t T'.heap (locs ++ L) e1.symm (by rw [← e2]; exact X'.warmed.alike) hp hb k1 k2 k3 (by rw [e1]; exact hce) hcv hcl T' rfl X'
    exact ⟨t2, st.trans a1, b1⟩
/-- caught by the row x of this method's table; the rows ahead don't take it -/
theorem vx_catch {own name : String} {E : String} {ce : Cell} {q : Addr} (hown : s.vm.findClass own = some m.cls) (pre : List ExceptionTableEntry) (x : ExceptionTableEntry) (suf : List ExceptionTableEntry) (hsplit : c.exceptionTable.toList = pre ++ x :: suf)
    (hpass : ∀ z ∈ pre, covers z pc = false ∨ (z.catchType ≠ 0 ∧ ∃ nm : String, (Cond.classLink own z.catchType nm).before args s = true ∧ va_Nc E nm s)) (hx : covers x pc = true) (h0 : x.catchType ≠ 0)
    (hlink : (Cond.classLink own x.catchType name).before args s = true) (hcast : (Cond.castable E name).before args s = true) (hcell : H[q]? = some ce) (hv : ce.vm = .none) (hcl : s.vm.findClass E = some ce.cls)
    (kk : W p l e R s m args below meth c H locs cells slots Q (F0 m x.handlerPc ls [.ref q])) : vx_W p l e R s m args below meth c H locs cells slots Q (F0 m pc ls rest) q := by
  intro T hT X
  have hpl : e.platform.magicAccessors = ({} : Platform).magicAccessors := by rw [X.admits.platform]
  obtain ⟨c3, c4, hc3, hc4, hasg⟩ := Cond.castable_spec hcast
  cases Option.some.inj (hc3.symm.trans hcl)
  obtain ⟨c5, hc5, hcl5⟩ := Cond.classLink_spec hown hlink e.platform hpl
  cases Option.some.inj (hc4.symm.trans hc5)
  obtain ⟨vm', X', st⟩ := X.thenCaughtThrough q (g := F0 m pc ls rest) rfl (Steps.refl _) (by rw [hT]; exact hcell) (by rw [hv]; rfl) (by obtain ⟨k9, h9, -⟩ := Vm.findClass_spec hcl; exact ⟨k9, h9⟩) pre x suf hsplit
    (fun z hz => by
      rcases hpass z hz with h | ⟨hz0, nm, hl1, hn1⟩
      · exact Or.inl h
      · obtain ⟨c6, hc6, hcl6⟩ := Cond.classLink_spec hown hl1 e.platform hpl
        obtain ⟨a8, b8, h1, h2, h3⟩ := hn1
        cases Option.some.inj (h1.symm.trans hcl)
        cases Option.some.inj (h2.symm.trans hc6)
        exact Or.inr ⟨hz0, _, hcl6, h3⟩) hx (Or.inr ⟨h0, c4, hcl5, hasg⟩)
  obtain ⟨t, a1, b1⟩ := kk (T.setVm vm') hT X'
  exact ⟨t, st.trans a1, b1⟩
end Rows
section Ends
variable {p : Program} {l : Launch} {e : Env} {R : Room} {s : State} {m : MethodId} {args : Array Value} {below : List Frame} {meth : Method} {c : Code} {H : Heap} {locs : List Loc} {cells slots : Nat} {Q : State → Prop}
variable {mc ms : Nat} {free : Addr → Prop} {A0 A1 : Nat → Prop} {H0 : Heap} {a : Array Value} {ls : Array Slot} {st0 rest : List Value}
variable {Qc : Array Value → State → Outcome → State → Prop} {XC : String → State → State → Prop}
/-- what a body that may throw owes at its end -/
def vx_MQ (below : List Frame) (Qc : Array Value → State → Outcome → State → Prop) (XC : String → State → State → Prop) (a : Array Value) (s : State) (mc ms : Nat) (free : Addr → Prop) : State → Prop := fun t =>
  ∃ o, t.status = .running ∧ Ended t below o ∧ vx_Q Qc XC mc ms free a s o t
theorem vx_ret {g : JFrame} {mc ms : Nat} (k : W p l e R s m args below meth c H locs cells slots (MQ below Qc args s mc ms free) g) : W p l e R s m args below meth c H locs cells slots (vx_MQ below Qc XC args s mc ms free) g := by
  intro T hT X
  obtain ⟨t, a1, o, b1, b2, b3, b4⟩ := k T hT X
  exact ⟨t, a1, o, b1, b2, Or.inl ⟨b3, b4⟩⟩
/-- not caught here: it goes on to the caller -/
theorem vx_widen {g : JFrame} {q : Addr} {k n : Nat} (h1 : cells ≤ k) (h2 : slots ≤ n) (kk : vx_W p l e R s m args below meth c H locs k n Q g q) : vx_W p l e R s m args below meth c H locs cells slots Q g q := fun T hT X => kk T hT (stand_widen X h1 h2)
theorem vx_out {pc : Nat} {E : String} {ce : Cell} {q : Addr} {mc ms : Nat} (hout : ∀ x ∈ c.exceptionTable.toList, covers x pc = false) (hlocks : meth.locks = false) (hcell : H[q]? = some ce) (hv : ce.vm = .none) (hcl : s.vm.findClass E = some ce.cls)
    (hx : ∀ t : State, t.heap = H → s.vm.Alike t.vm → XC E s t) (hf : ∀ z ∈ locs, free z.base) (hc : cells ≤ mc) (hs : slots ≤ ms) :
    vx_W p l e R s m args below meth c H locs cells slots (vx_MQ below Qc XC args s mc ms free) (F0 m pc ls rest) q := by
  intro T hT X
  obtain ⟨st1, hrun, hend, hW, hsm⟩ := X.leaveThrown q (g := F0 m pc ls rest) rfl rfl rfl hout hlocks
  have hcell9 : (T.setFrames (.throwing q :: below)).heap[q]? = some ce := by
    show T.heap[q]? = some ce
    rw [hT]; exact hcell
  exact ⟨_, st1, .threw q, hrun, hend, Or.inr ⟨q, rfl, E, ce, locs, hx _ hT hW.alike, hcell9, hv, hcl, hW, hsm.mono hc hs, hf⟩⟩
theorem vx_frame {U : State} {k n : Nat} (h : s.sameButNew ({ U with vm := s.vm } : State) locs k n) : s.heap.size ≤ U.heap.size ∧ ∀ q : Nat, q < s.heap.size → (∀ z ∈ locs, z.base ≠ q) → U.heap[q]? = s.heap[q]? := by
  obtain ⟨-, h2, -, -, -, h6⟩ := h
  refine ⟨h2, fun q hq hz => ?_⟩
  obtain ⟨c9, e1, e2, e3, e4⟩ := h6 q _ (Array.getElem?_eq_getElem hq)
  have hs : c9.slots = (s.heap[q]).slots := Array.ext_getElem? fun i => e4 i fun hm => hz _ hm rfl
  have h9 : c9 = s.heap[q] := by
    rw [hs] at e2
    exact e2
  have e5 : U.heap[q]? = some c9 := e1
  rw [e5, h9, Array.getElem?_eq_getElem hq]
/-- the words of a throw but the four that speak of the heap -/
def vx_no (w : Cond) : Bool := decide (w ≠ .isRef (.static Bundle.tN "UNASSIGNED_STACK" Bundle.steD)) && decide (w ≠ .isRef (.static Bundle.tN "SUPPRESSED_SENTINEL" Bundle.listD)) && decide (w ≠ .laysStatic Bundle.tN "UNASSIGNED_STACK" Bundle.steD) && decide (w ≠ .laysStatic Bundle.tN "SUPPRESSED_SENTINEL" Bundle.listD)
def vx_at0 (own : String) (ic : Nat) (X : String) (names : List String) : List Cond := (Bundle.ownAtoms0 own ic X names).filter vx_no
def vx_atS (own : String) (ic : Nat) (X : String) (names : List String) : List Cond := (Bundle.ownAtoms own ic X names).filter vx_no
/-- a word that the tables alone decide, or a good one -/
def vx_ot (w : Cond) : Bool := w.onTables || goodWord w
theorem vx_ot_at {args a' : Array Value} {s U : State} {w : Cond} (hW : s.WarmedH U.vm) (hvm : s.vm = U.vm) (hg : vx_ot w = true) (h : w.before args s = true) : w.before a' U = true := by
  simp only [vx_ot, Bool.or_eq_true] at hg
  rcases hg with hg | hg
  · exact va_tabs hg hvm h
  · exact word_at hW (good_of_word hg) h
/-- a list's words: the good ones out of the method's own list, the others by premises of their own -/
theorem vx_hat {args : Array Value} {s : State} {L B : List Cond} (h1 : ∀ w ∈ L.filter goodWord, w.before args s = true) (h2 : ∀ w ∈ L.filter (fun w => !goodWord w), w ∈ B) (h3 : ∀ w ∈ B, w.before args s = true) : ∀ w ∈ L, w.before args s = true := by
  intro w hw
  by_cases g : goodWord w = true
  · exact h1 w (List.mem_filter.mpr ⟨hw, g⟩)
  · refine h3 w (h2 w (List.mem_filter.mpr ⟨hw, ?_⟩))
    show (!goodWord w) = true
    cases hgw : goodWord w
    · rfl
    · exact absurd hgw g
theorem vx_c {args : Array Value} {s : State} {w : Cond} {B : List Cond} (h : w.before args s = true) (t : ∀ w ∈ B, w.before args s = true) : ∀ w' ∈ w :: B, w'.before args s = true := fun w' h' => (List.mem_cons.mp h').elim (fun e => by rw [e]; exact h) (t w')
theorem vx_n {args : Array Value} {s : State} : ∀ w ∈ ([] : List Cond), w.before args s = true := fun _ h => nomatch h
theorem vx_own {args : Array Value} {s : State} {L : List Cond} (h1 : ∀ w ∈ L.filter vx_no, w.before args s = true)
    (hU : (Cond.isRef (.static Bundle.tN "UNASSIGNED_STACK" Bundle.steD)).before args s = true) (hN : (Cond.isRef (.static Bundle.tN "SUPPRESSED_SENTINEL" Bundle.listD)).before args s = true)
    (lU : (Cond.laysStatic Bundle.tN "UNASSIGNED_STACK" Bundle.steD).before args s = true) (lN : (Cond.laysStatic Bundle.tN "SUPPRESSED_SENTINEL" Bundle.listD).before args s = true) : ∀ w ∈ L, w.before args s = true := by
  intro w hw
  by_cases e1 : w = .isRef (.static Bundle.tN "UNASSIGNED_STACK" Bundle.steD)
  · rw [e1]; exact hU
  · by_cases e2 : w = .isRef (.static Bundle.tN "SUPPRESSED_SENTINEL" Bundle.listD)
    · rw [e2]; exact hN
    · by_cases e3 : w = .laysStatic Bundle.tN "UNASSIGNED_STACK" Bundle.steD
      · rw [e3]; exact lU
      · by_cases e4 : w = .laysStatic Bundle.tN "SUPPRESSED_SENTINEL" Bundle.listD
        · rw [e4]; exact lN
        · exact h1 w (List.mem_filter.mpr ⟨hw, by unfold vx_no; rw [decide_eq_true e1, decide_eq_true e2, decide_eq_true e3, decide_eq_true e4]; rfl⟩)
/-- where a static field lies, its class's statics cell in H -/
def vx_L (C n d : String) (A : Nat → Prop) (U : State) (H : Heap) : Prop := ∃ (c : ClassId) (k : Class) (i : Nat) (f : Field) (a : Nat) (cell : Cell), U.vm.findClass C = some c ∧ U.fieldFound? C n d = some (c, k, i, f) ∧ f.isStatic = true ∧ k.statics = some a ∧ H[a]? = some cell ∧ cell.vm.isStatics = true ∧ cell.cls = c ∧ f.slot < cell.slots.size ∧ k.staticTypes[f.slot]? = some f.type ∧ ¬ A a
theorem vx_L.moved {C n d : String} {A : Nat → Prop} {u U : State} {H : Heap} (hvm : u.vm.Alike U.vm) (h : vx_L C n d A u H) : vx_L C n d A U H := by
  obtain ⟨c, k, i, f, a, cell, h1, h2, h3, h4, h5, h6, h7, h8, h9, h10⟩ := h
  obtain ⟨k', hi', he⟩ := State.fieldFound?_setVm hvm h2
  exact ⟨c, k', i, f, a, cell, by rw [hvm.findClass]; exact h1, hi', h3, by rw [he]; exact h4, h5, h6, h7, h8, by rw [he]; exact h9, h10⟩
theorem vx_L.kept {C n d : String} {A : Nat → Prop} {U : State} {H H1 : Heap} (h : vx_L C n d A U H) (hq : ∀ a : Nat, a < H.size → ¬ A a → H1[a]? = H[a]?) : vx_L C n d A U H1 := by
  obtain ⟨c, k, i, f, a, cell, h1, h2, h3, h4, h5, h6, h7, h8, h9, h10⟩ := h
  exact ⟨c, k, i, f, a, cell, h1, h2, h3, h4, by rw [hq a (Array.getElem?_eq_some_iff.mp h5).1 h10]; exact h5, h6, h7, h8, h9, h10⟩
theorem vx_L.narrow {C n d : String} {A B : Nat → Prop} {U : State} {H : Heap} (h : vx_L C n d A U H) (hAB : ∀ q, B q → A q) : vx_L C n d B U H := by
  obtain ⟨c, k, i, f, a, cell, h1, h2, h3, h4, h5, h6, h7, h8, h9, h10⟩ := h
  exact ⟨c, k, i, f, a, cell, h1, h2, h3, h4, h5, h6, h7, h8, h9, fun z => h10 (hAB _ z)⟩
theorem vx_L.word {C n d : String} {A : Nat → Prop} {s : State} {args : Array Value} (h : vx_L C n d A s s.heap) : (Cond.laysStatic C n d).before args s = true := by
  obtain ⟨c, k, i, f, a, cell, h1, h2, h3, h4, h5, h6, h7, h8, h9, -⟩ := h
  show (Cond.laysStatic C n d).holds args s none s [] = true
  exact Cond.laysStatic_of h1 h2 h3 h4 h5 h6 h7 h8 h9
/-- .. and what it holds: null or some reference -/
def vx_Zq (C n d : String) (A : Nat → Prop) (U : State) (H : Heap) : Prop := va_Zq C n d A U H ∧ vx_L C n d A U H
theorem vx_Zq.moved {C n d : String} {A : Nat → Prop} {u U : State} {H : Heap} (hvm : u.vm.Alike U.vm) (h : vx_Zq C n d A u H) : vx_Zq C n d A U H := ⟨va_Zq.moved hvm h.1, vx_L.moved hvm h.2⟩
theorem vx_Zq.kept {C n d : String} {A : Nat → Prop} {U : State} {H H1 : Heap} (h : vx_Zq C n d A U H) (hq : ∀ a : Nat, a < H.size → ¬ A a → H1[a]? = H[a]?) : vx_Zq C n d A U H1 := ⟨va_Zq.kept h.1 hq, vx_L.kept h.2 hq⟩
theorem vx_Zq.narrow {C n d : String} {A B : Nat → Prop} {U : State} {H : Heap} (h : vx_Zq C n d A U H) (hAB : ∀ q, B q → A q) : vx_Zq C n d B U H := ⟨va_Zq.narrow h.1 hAB, vx_L.narrow h.2 hAB⟩
theorem vx_Zqof {args : Array Value} {s : State} {C n d : String} {A : Nat → Prop} (hl : (Cond.laysStatic C n d).before args s = true) (hini : (Cond.initialized C).before args s = true) (h : (Cond.isRef (.static C n d)).before args s = true) (hA : ∀ a : Nat, a < s.heap.size → ¬ A a) : vx_Zq C n d A s s.heap := by
  refine ⟨va_Zqof hl hini h hA, ?_⟩
  obtain ⟨c, k, i, f, a, cell, h1, h2, h3, h4, h5, h6, h7, h8, h9⟩ := Cond.laysStatic_spec hl
  exact ⟨c, k, i, f, a, cell, h1, h2, h3, h4, h5, h6, h7, h8, h9, hA a (Array.getElem?_eq_some_iff.mp h5).1⟩
theorem vx_isRef {C n d : String} {v : Value} {A : Nat → Prop} {s : State} {args : Array Value} (h : va_Z C n d v A s s.heap) (hv : v.isRef = true) : (Cond.isRef (.static C n d)).before args s = true := by
  obtain ⟨cf, kf, fi, f, a, cell, h1, h2, h3, h4, h5, h6, h7, -⟩ := h
  have he : (Term.static C n d).eval args s none [] s = some v := by
    simp [Term.eval, State.fieldNamed?, h1, h2, h4, h5, h6, h7]
  simp only [Cond.before, Cond.holds, Cond.value, he]
  cases v <;> simp_all [Value.isRef]
theorem vx_isRefq {C n d : String} {A : Nat → Prop} {s : State} {args : Array Value} (h : va_Zq C n d A s s.heap) : (Cond.isRef (.static C n d)).before args s = true := by
  rcases h with h | ⟨t, h⟩
  · exact vx_isRef h rfl
  · exact vx_isRef h rfl
/-- the same frame, seen from here: as if the method were called anew in this heap -/
theorem vx_rebase {T : State} (X : Stand p l e R s m args below meth c T locs cells slots) {R' : Room} (hf : R'.frames ≤ R.frames) (hl : R'.locals ≤ R.locals) (hc : cells + R'.cells ≤ R.cells) (hs : slots + R'.slots ≤ R.slots) :
    Stand p l e R' ((T.setVm s.vm).setFrames (.invoking m args :: below)) m args below meth c T [] 0 0 := by
  have htop : (T.setVm s.vm).topJava?.isSome := X.here.top
  have hF : ((T.setVm s.vm).setFrames (.invoking m args :: below)).frames = .invoking m args :: below := State.frames_setFrames _ (State.cur_lt_of_top htop)
  obtain ⟨g₀, hg0⟩ := Option.isSome_iff_exists.mp htop
  obtain ⟨r, hr⟩ := State.topJava?_eq_some.mp hg0
  have hl9 : e.platform.stackLimits (T.setVm s.vm).me = e.platform.stackLimits s.me := X.limits
  have hb9 : (T.setVm s.vm).me.stackBytes = s.me.stackBytes := X.bytes
  refine ⟨X.admits, X.cas, X.clock, hF, ?_, X.hears, X.method, X.code, X.here, X.tail, X.warmed, ?_, ?_, ?_⟩
  · have h := X.room
    have hU : ((T.setVm s.vm).setFrames (.invoking m args :: below)).localsInUse = s.localsInUse := by
      rw [State.localsInUse_invoking hF (meth := meth) (c := c) X.method X.code, State.localsInUse_invoking X.frames X.method X.code]
    simp only [State.hasRoom, Bool.and_eq_true, decide_eq_true_eq] at h ⊢
    obtain ⟨⟨⟨⟨h1, h2, h3, h4, h5, h6⟩, h7⟩, h8⟩, h9⟩ := h
    rw [X.frames, List.length_cons] at h2 h3
    have q1 := X.heapSize
    have q2 := X.used
    simp only [hF, hU, List.length_cons, State.stackLimits_setFrames, State.stackBytes_setFrames, hl9, hb9]
    refine ⟨⟨⟨⟨by omega, by omega, by omega, by omega, by omega, h6⟩, ?_⟩, ?_⟩, X.book⟩
    · show T.heap.size + R'.cells ≤ e.platform.maxCells
      omega
    · show T.slotsUsed + R'.slots ≤ e.platform.maxSlots
      omega
  · rw [State.stackLimits_setFrames]; rfl
  · rw [State.stackBytes_setFrames]; rfl
  · refine ⟨?_, Nat.le_refl _, Nat.le_refl _, ?_, ?_, fun a c9 h9 => ⟨c9, h9, rfl, rfl, fun _ _ => rfl⟩⟩
    · obtain ⟨t, ht, -⟩ := State.frames_cons hr
      show T.setVm s.vm = { ((T.setVm s.vm).setFrames (.invoking m args :: below)).setFrames (T.setVm s.vm).frames with heap := T.heap, slotsUsed := T.slotsUsed }
      rw [State.setFrames_setFrames, State.setFrames_self ht]
      rfl
    · show T.slotsUsed = T.slotsUsed + ((T.heap.toList.drop T.heap.size).map (·.slots.size)).sum
      rw [List.drop_eq_nil_of_le (Nat.le_of_eq Array.length_toList)]
      rfl
    · show ((T.heap.toList.drop T.heap.size).map (·.slots.size)).sum ≤ 0
      rw [List.drop_eq_nil_of_le (Nat.le_of_eq Array.length_toList)]
      exact Nat.le_refl _
/-- 'throw new E()': new; dup; invokespecial; athrow -/
theorem vx_throw0 {cc : ByteArray} {pc : Nat} (hexec : p.tables.exec = Jvm.exec) (hb : c.code = cc) (hl : l.stackTraces = false) {own cls : String} {names : List String} {ik ic mc ms : Nat} {A : Nat → Prop}
    (hown : s.vm.findClass own = some m.cls) (hcls : Bundle.fit cls = true) (hnames : ∀ n ∈ names, Bundle.fit n = true)
    (hk : (Cond.classLink own ik cls).before args s = true) (hini : (Cond.initialized cls).before args s = true) (hat : ∀ w ∈ vx_at0 own ic cls names, w.before args s = true)
    (hgood : ∀ w ∈ Cond.classLink own ik cls :: Cond.initialized cls :: vx_at0 own ic cls names, vx_ot w = true)
    (hU : vx_Zq Bundle.tN "UNASSIGNED_STACK" Bundle.steD A s s.heap) (hN : vx_Zq Bundle.tN "SUPPRESSED_SENTINEL" Bundle.listD A s s.heap) (hS : va_S A s.heap H locs) (hsize : ls.size = c.maxLocals)
    (d0 : decode cc pc = .ok (.new ik, 3)) (d3 : decode cc (pc + 3) = .ok (.dup, 1)) (d4 : decode cc (pc + 4) = .ok (.invokespecial ic, 3)) (d7 : decode cc (pc + 7) = .ok (.athrow, 1))
    (hout : ∀ x ∈ c.exceptionTable.toList, covers x (pc + 7) = false)
    (hRframes : names.length + 3 < R.frames) (hRlocals : (rest.map fun v => v.category).sum + (13 * (names.length + 1) + 42) ≤ R.locals) (hRcells : cells + 1 ≤ R.cells) (hRslots : slots + 6 ≤ R.slots) (hlocks : meth.locks = false)
    (hx : ∀ t : State, s.vm.Alike t.vm → H.size ≤ t.heap.size → (∀ q : Nat, q < H.size → t.heap[q]? = H[q]?) → XC cls s t)
    (hf : ∀ z ∈ locs, free z.base) (hc : cells + 1 ≤ mc) (hs : slots + 6 ≤ ms) :
    W p l e R s m args below meth c H locs cells slots (vx_MQ below Qc XC args s mc ms free) (F0 m pc ls rest) := by
  intro T hT X
  have htr : e.platform.stackTraces = false := (show e.platform.stackTraces = l.stackTraces by rw [X.admits.platform]).trans hl
  have Y := vx_rebase X (R' := { frames := R.frames, locals := R.locals, cells := 1, slots := 6 }) (Nat.le_refl _) (Nat.le_refl _) hRcells hRslots
  obtain ⟨s', hA⟩ : ∃ z, z = (T.setVm s.vm).setFrames (.invoking m args :: below) := ⟨_, rfl⟩
  rw [← hA] at Y
  have hvm : s'.vm = s.vm := by rw [hA]; rfl
  have hhp : s'.heap = H := by rw [hA]; exact hT
  have hW0 : s.WarmedH s'.vm := by rw [hvm]; exact State.WarmedH.refl s
  have hat' : ∀ w ∈ vx_at0 own ic cls names, w.before args s' = true := fun w hw => vx_ot_at hW0 hvm.symm (hgood w (List.mem_cons_of_mem _ (List.mem_cons_of_mem _ hw))) (hat w hw)
  have hk' : (Cond.classLink own ik cls).before args s' = true := vx_ot_at hW0 hvm.symm (hgood _ List.mem_cons_self) hk
  have hini' : (Cond.initialized cls).before args s' = true := vx_ot_at hW0 hvm.symm (hgood _ (List.mem_cons_of_mem _ List.mem_cons_self)) hini
  have hU' : vx_Zq Bundle.tN "UNASSIGNED_STACK" Bundle.steD A s' s'.heap := by rw [hhp]; exact vx_Zq.moved hW0.alike (hU.kept hS.2.1)
  have hN' : vx_Zq Bundle.tN "SUPPRESSED_SENTINEL" Bundle.listD A s' s'.heap := by rw [hhp]; exact vx_Zq.moved hW0.alike (hN.kept hS.2.1)
  have h : ∀ w ∈ Bundle.ownAtoms0 own ic cls names, w.before args s' = true := vx_own hat' (vx_isRefq hU'.1) (vx_isRefq hN'.1) hU'.2.word hN'.2.word
  have hown' : s'.vm.findClass own = some m.cls := by rw [hvm]; exact hown
  have hins : (Cond.instantiable cls 6).before args s' = true := h _ (by simp [Bundle.ownAtoms0])
  obtain ⟨vm₁, cX, kX, hfX, hkX, -, -, X₁, st1⟩ := Y.newCold hexec (own := own) (C := cls) (index := ik) (n := 6) hown' hk' hins hini'
    (g := F0 m pc ls rest) rfl (by rw [hb]; exact d0) (Nat.le_refl _) (Nat.le_refl _)
  generalize hT1 : (T.setVm vm₁).pushCell { cls := cX, slots := kX.instanceTypes.map defaultValue, vm := .none } = T1 at X₁ st1
  have hcat : (Value.ref T.heap.size).category = 1 := rfl
  have hcellA : T1.heap[T.heap.size]? = some (freshCell cX kX) := by rw [← hT1]; exact State.heap_pushCell_size _ _
  have d3' : decode c.code (pc + 3) = .ok (.dup, 1) := by rw [hb]; exact d3
  obtain ⟨U, hsteps, hrun, hend, hW, hsame, ce, hce, hO⟩ := X₁.ctorThrow0 hexec htr (own := own) (cls := cls) (names := names) (ic := ic) hown' hcls hnames h (fun x hx => nomatch hx) hfX hkX hcellA (by rw [hhp, hT]; exact Nat.le_refl _)
    (g := { method := m, pc := pc + 4, locals := ls, stack := .ref T.heap.size :: .ref T.heap.size :: rest, locked := none }) rfl hsize rfl rfl (rest := rest) rfl
    (by rw [hb]; exact d4) (by rw [hb]; exact d7) hout hRframes (by simp only [List.map_cons, List.sum_cons, hcat]; omega) hlocks
  obtain ⟨f1, f2⟩ := vx_frame hsame
  rw [hhp] at f1 f2
  have hWs : s.WarmedH U.vm := State.WarmedH.trans hW0 hW
  have hcl : s.vm.findClass cls = some ce.cls := by
    have h9 := hO.cls
    rw [hvm] at h9
    exact h9
  have hall : s.sameButNew ({ U with vm := s.vm } : State) locs mc ms := by
    subst hA
    obtain ⟨e1, e2⟩ := hsame
    rw [State.setFrames_setFrames] at e1
    have h2 : (T.setVm s.vm).sameButNew ({ U with vm := s.vm } : State) [] (0 + 1) (0 + 6) := ⟨e1, e2⟩
    have h3 := X.same.trans h2
    rw [List.append_nil] at h3
    exact h3.mono hc hs
  refine ⟨U, ?_, .threw T.heap.size, hrun, hend, Or.inr ⟨T.heap.size, rfl, cls, ce, locs, hx U hWs.alike f1 (fun q hq => f2 q hq (fun z hz => nomatch hz)), hce, hO.vm, hcl, hWs, hall, hf⟩⟩
  refine st1 _ ?_
  show Steps p.tables e below (T1.setTop { method := m, pc := pc + 3, locals := ls, stack := .ref T.heap.size :: rest, locked := none }) _
  jvm_step X₁.here [X₁.here.top, hexec, d3', Value.category]
  exact hsteps
/-- 'throw new E("text")': new; dup; ldc; invokespecial; athrow -/
theorem vx_throwS {cc : ByteArray} {pc : Nat} (hexec : p.tables.exec = Jvm.exec) (hb : c.code = cc) (hl : l.stackTraces = false) {own cls text : String} {names : List String} {ik is ic mc ms sa : Nat} {A : Nat → Prop}
    (hown : s.vm.findClass own = some m.cls) (hcls : Bundle.fit cls = true) (hnames : ∀ n ∈ names, Bundle.fit n = true)
    (hk : (Cond.classLink own ik cls).before args s = true) (hini : (Cond.initialized cls).before args s = true) (hstr : vk_R own is text sa s) (hat : ∀ w ∈ vx_atS own ic cls names, w.before args s = true)
    (hgood : ∀ w ∈ Cond.classLink own ik cls :: Cond.initialized cls :: vx_atS own ic cls names, vx_ot w = true)
    (hU : vx_Zq Bundle.tN "UNASSIGNED_STACK" Bundle.steD A s s.heap) (hN : vx_Zq Bundle.tN "SUPPRESSED_SENTINEL" Bundle.listD A s s.heap) (hS : va_S A s.heap H locs) (hsize : ls.size = c.maxLocals)
    (d0 : decode cc pc = .ok (.new ik, 3)) (d3 : decode cc (pc + 3) = .ok (.dup, 1)) (d4 : decode cc (pc + 4) = .ok (.ldc is, 2)) (d6 : decode cc (pc + 6) = .ok (.invokespecial ic, 3)) (d9 : decode cc (pc + 9) = .ok (.athrow, 1))
    (hout : ∀ x ∈ c.exceptionTable.toList, covers x (pc + 9) = false)
    (hRframes : names.length + 3 < R.frames) (hRlocals : (rest.map fun v => v.category).sum + (13 * (names.length + 1) + 43) ≤ R.locals) (hRcells : cells + 1 ≤ R.cells) (hRslots : slots + 6 ≤ R.slots) (hlocks : meth.locks = false)
    (hx : ∀ t : State, s.vm.Alike t.vm → H.size ≤ t.heap.size → (∀ q : Nat, q < H.size → t.heap[q]? = H[q]?) → XC cls s t)
    (hf : ∀ z ∈ locs, free z.base) (hc : cells + 1 ≤ mc) (hs : slots + 6 ≤ ms) :
    W p l e R s m args below meth c H locs cells slots (vx_MQ below Qc XC args s mc ms free) (F0 m pc ls rest) := by
  intro T hT X
  have htr : e.platform.stackTraces = false := (show e.platform.stackTraces = l.stackTraces by rw [X.admits.platform]).trans hl
  have Y := vx_rebase X (R' := { frames := R.frames, locals := R.locals, cells := 1, slots := 6 }) (Nat.le_refl _) (Nat.le_refl _) hRcells hRslots
  obtain ⟨s', hA⟩ : ∃ z, z = (T.setVm s.vm).setFrames (.invoking m args :: below) := ⟨_, rfl⟩
  rw [← hA] at Y
  have hvm : s'.vm = s.vm := by rw [hA]; rfl
  have hhp : s'.heap = H := by rw [hA]; exact hT
  have hW0 : s.WarmedH s'.vm := by rw [hvm]; exact State.WarmedH.refl s
  have hat' : ∀ w ∈ vx_atS own ic cls names, w.before args s' = true := fun w hw => vx_ot_at hW0 hvm.symm (hgood w (List.mem_cons_of_mem _ (List.mem_cons_of_mem _ hw))) (hat w hw)
  have hk' : (Cond.classLink own ik cls).before args s' = true := vx_ot_at hW0 hvm.symm (hgood _ List.mem_cons_self) hk
  have hini' : (Cond.initialized cls).before args s' = true := vx_ot_at hW0 hvm.symm (hgood _ (List.mem_cons_of_mem _ List.mem_cons_self)) hini
  have hU' : vx_Zq Bundle.tN "UNASSIGNED_STACK" Bundle.steD A s' s'.heap := by rw [hhp]; exact vx_Zq.moved hW0.alike (hU.kept hS.2.1)
  have hN' : vx_Zq Bundle.tN "SUPPRESSED_SENTINEL" Bundle.listD A s' s'.heap := by rw [hhp]; exact vx_Zq.moved hW0.alike (hN.kept hS.2.1)
  have h : ∀ w ∈ Bundle.ownAtoms own ic cls names, w.before args s' = true := vx_own hat' (vx_isRefq hU'.1) (vx_isRefq hN'.1) hU'.2.word hN'.2.word
  have hown' : s'.vm.findClass own = some m.cls := by rw [hvm]; exact hown
  have hins : (Cond.instantiable cls 6).before args s' = true := h _ (by simp [Bundle.ownAtoms])
  obtain ⟨vm₁, cX, kX, hfX, hkX, -, -, X₁, st1⟩ := Y.newCold hexec (own := own) (C := cls) (index := ik) (n := 6) hown' hk' hins hini'
    (g := F0 m pc ls rest) rfl (by rw [hb]; exact d0) (Nat.le_refl _) (Nat.le_refl _)
  generalize hT1 : (T.setVm vm₁).pushCell { cls := cX, slots := kX.instanceTypes.map defaultValue, vm := .none } = T1 at X₁ st1
  have hcat : (Value.ref T.heap.size).category = 1 := rfl
  have hcellA : T1.heap[T.heap.size]? = some (freshCell cX kX) := by rw [← hT1]; exact State.heap_pushCell_size _ _
  have d3' : decode c.code (pc + 3) = .ok (.dup, 1) := by rw [hb]; exact d3
  have d4' : decode c.code (pc + 4) = .ok (.ldc is, 2) := by rw [hb]; exact d4
  have hstr' : vk_R own is text sa s' := vk_R.warm hW0 hstr
  obtain ⟨U, hsteps, hrun, hend, hW, hsame, ce, hce, hO⟩ := X₁.ctorThrowS hexec htr (own := own) (cls := cls) (names := names) (ic := ic) hown' hcls hnames h (fun x hx => nomatch hx) hfX hkX hcellA (by rw [hhp, hT]; exact Nat.le_refl _) (msg := .ref sa) rfl
    (g := { method := m, pc := pc + 6, locals := ls, stack := .ref sa :: .ref T.heap.size :: .ref T.heap.size :: rest, locked := none }) rfl hsize rfl rfl (rest := rest) rfl
    (by rw [hb]; exact d6) (by rw [hb]; exact d9) hout hRframes (by simp only [List.map_cons, List.sum_cons, hcat]; omega) hlocks
  obtain ⟨f1, f2⟩ := vx_frame hsame
  rw [hhp] at f1 f2
  have hWs : s.WarmedH U.vm := State.WarmedH.trans hW0 hW
  have hcl : s.vm.findClass cls = some ce.cls := by
    have h9 := hO.cls
    rw [hvm] at h9
    exact h9
  have hall : s.sameButNew ({ U with vm := s.vm } : State) locs mc ms := by
    subst hA
    obtain ⟨e1, e2⟩ := hsame
    rw [State.setFrames_setFrames] at e1
    have h2 : (T.setVm s.vm).sameButNew ({ U with vm := s.vm } : State) [] (0 + 1) (0 + 6) := ⟨e1, e2⟩
    have h3 := X.same.trans h2
    rw [List.append_nil] at h3
    exact h3.mono hc hs
  refine ⟨U, ?_, .threw T.heap.size, hrun, hend, Or.inr ⟨T.heap.size, rfl, cls, ce, locs, hx U hWs.alike f1 (fun q hq => f2 q hq (fun z hz => nomatch hz)), hce, hO.vm, hcl, hWs, hall, hf⟩⟩
  refine st1 _ ?_
  show Steps p.tables e below (T1.setTop { method := m, pc := pc + 3, locals := ls, stack := .ref T.heap.size :: rest, locked := none }) _
  jvm_step X₁.here [X₁.here.top, hexec, d3', Value.category]
  exact X₁.ldcString hexec (own := own) (text := text) (index := is) (a := sa) hown' hstr'.1 hstr'.2
    (g := { method := m, pc := pc + 4, locals := ls, stack := .ref T.heap.size :: .ref T.heap.size :: rest, locked := none }) rfl d4' _ hsteps
/-- 'throw new E("text")', the text by a wide index -/
theorem vx_throwSW {cc : ByteArray} {pc : Nat} (hexec : p.tables.exec = Jvm.exec) (hb : c.code = cc) (hl : l.stackTraces = false) {own cls text : String} {names : List String} {ik is ic mc ms sa : Nat} {A : Nat → Prop}
    (hown : s.vm.findClass own = some m.cls) (hcls : Bundle.fit cls = true) (hnames : ∀ n ∈ names, Bundle.fit n = true)
    (hk : (Cond.classLink own ik cls).before args s = true) (hini : (Cond.initialized cls).before args s = true) (hstr : vk_R own is text sa s) (hat : ∀ w ∈ vx_atS own ic cls names, w.before args s = true)
    (hgood : ∀ w ∈ Cond.classLink own ik cls :: Cond.initialized cls :: vx_atS own ic cls names, vx_ot w = true)
    (hU : vx_Zq Bundle.tN "UNASSIGNED_STACK" Bundle.steD A s s.heap) (hN : vx_Zq Bundle.tN "SUPPRESSED_SENTINEL" Bundle.listD A s s.heap) (hS : va_S A s.heap H locs) (hsize : ls.size = c.maxLocals)
    (d0 : decode cc pc = .ok (.new ik, 3)) (d3 : decode cc (pc + 3) = .ok (.dup, 1)) (d4 : decode cc (pc + 4) = .ok (.ldc_w is, 3)) (d7 : decode cc (pc + 7) = .ok (.invokespecial ic, 3)) (d10 : decode cc (pc + 10) = .ok (.athrow, 1))
    (hout : ∀ x ∈ c.exceptionTable.toList, covers x (pc + 10) = false)
    (hRframes : names.length + 3 < R.frames) (hRlocals : (rest.map fun v => v.category).sum + (13 * (names.length + 1) + 43) ≤ R.locals) (hRcells : cells + 1 ≤ R.cells) (hRslots : slots + 6 ≤ R.slots) (hlocks : meth.locks = false)
    (hx : ∀ t : State, s.vm.Alike t.vm → H.size ≤ t.heap.size → (∀ q : Nat, q < H.size → t.heap[q]? = H[q]?) → XC cls s t)
    (hf : ∀ z ∈ locs, free z.base) (hc : cells + 1 ≤ mc) (hs : slots + 6 ≤ ms) :
    W p l e R s m args below meth c H locs cells slots (vx_MQ below Qc XC args s mc ms free) (F0 m pc ls rest) := by
  intro T hT X
  have htr : e.platform.stackTraces = false := (show e.platform.stackTraces = l.stackTraces by rw [X.admits.platform]).trans hl
  have Y := vx_rebase X (R' := { frames := R.frames, locals := R.locals, cells := 1, slots := 6 }) (Nat.le_refl _) (Nat.le_refl _) hRcells hRslots
  obtain ⟨s', hA⟩ : ∃ z, z = (T.setVm s.vm).setFrames (.invoking m args :: below) := ⟨_, rfl⟩
  rw [← hA] at Y
  have hvm : s'.vm = s.vm := by rw [hA]; rfl
  have hhp : s'.heap = H := by rw [hA]; exact hT
  have hW0 : s.WarmedH s'.vm := by rw [hvm]; exact State.WarmedH.refl s
  have hat' : ∀ w ∈ vx_atS own ic cls names, w.before args s' = true := fun w hw => vx_ot_at hW0 hvm.symm (hgood w (List.mem_cons_of_mem _ (List.mem_cons_of_mem _ hw))) (hat w hw)
  have hk' : (Cond.classLink own ik cls).before args s' = true := vx_ot_at hW0 hvm.symm (hgood _ List.mem_cons_self) hk
  have hini' : (Cond.initialized cls).before args s' = true := vx_ot_at hW0 hvm.symm (hgood _ (List.mem_cons_of_mem _ List.mem_cons_self)) hini
  have hU' : vx_Zq Bundle.tN "UNASSIGNED_STACK" Bundle.steD A s' s'.heap := by rw [hhp]; exact vx_Zq.moved hW0.alike (hU.kept hS.2.1)
  have hN' : vx_Zq Bundle.tN "SUPPRESSED_SENTINEL" Bundle.listD A s' s'.heap := by rw [hhp]; exact vx_Zq.moved hW0.alike (hN.kept hS.2.1)
  have h : ∀ w ∈ Bundle.ownAtoms own ic cls names, w.before args s' = true := vx_own hat' (vx_isRefq hU'.1) (vx_isRefq hN'.1) hU'.2.word hN'.2.word
  have hown' : s'.vm.findClass own = some m.cls := by rw [hvm]; exact hown
  have hins : (Cond.instantiable cls 6).before args s' = true := h _ (by simp [Bundle.ownAtoms])
  obtain ⟨vm₁, cX, kX, hfX, hkX, -, -, X₁, st1⟩ := Y.newCold hexec (own := own) (C := cls) (index := ik) (n := 6) hown' hk' hins hini'
    (g := F0 m pc ls rest) rfl (by rw [hb]; exact d0) (Nat.le_refl _) (Nat.le_refl _)
  generalize hT1 : (T.setVm vm₁).pushCell { cls := cX, slots := kX.instanceTypes.map defaultValue, vm := .none } = T1 at X₁ st1
  have hcat : (Value.ref T.heap.size).category = 1 := rfl
  have hcellA : T1.heap[T.heap.size]? = some (freshCell cX kX) := by rw [← hT1]; exact State.heap_pushCell_size _ _
  have d3' : decode c.code (pc + 3) = .ok (.dup, 1) := by rw [hb]; exact d3
  have d4' : decode c.code (pc + 4) = .ok (.ldc_w is, 3) := by rw [hb]; exact d4
  have hstr' : vk_R own is text sa s' := vk_R.warm hW0 hstr
  obtain ⟨U, hsteps, hrun, hend, hW, hsame, ce, hce, hO⟩ := X₁.ctorThrowS hexec htr (own := own) (cls := cls) (names := names) (ic := ic) hown' hcls hnames h (fun x hx => nomatch hx) hfX hkX hcellA (by rw [hhp, hT]; exact Nat.le_refl _) (msg := .ref sa) rfl
    (g := { method := m, pc := pc + 7, locals := ls, stack := .ref sa :: .ref T.heap.size :: .ref T.heap.size :: rest, locked := none }) rfl hsize rfl rfl (rest := rest) rfl
    (by rw [hb]; exact d7) (by rw [hb]; exact d10) hout hRframes (by simp only [List.map_cons, List.sum_cons, hcat]; omega) hlocks
  obtain ⟨f1, f2⟩ := vx_frame hsame
  rw [hhp] at f1 f2
  have hWs : s.WarmedH U.vm := State.WarmedH.trans hW0 hW
  have hcl : s.vm.findClass cls = some ce.cls := by
    have h9 := hO.cls
    rw [hvm] at h9
    exact h9
  have hall : s.sameButNew ({ U with vm := s.vm } : State) locs mc ms := by
    subst hA
    obtain ⟨e1, e2⟩ := hsame
    rw [State.setFrames_setFrames] at e1
    have h2 : (T.setVm s.vm).sameButNew ({ U with vm := s.vm } : State) [] (0 + 1) (0 + 6) := ⟨e1, e2⟩
    have h3 := X.same.trans h2
    rw [List.append_nil] at h3
    exact h3.mono hc hs
  refine ⟨U, ?_, .threw T.heap.size, hrun, hend, Or.inr ⟨T.heap.size, rfl, cls, ce, locs, hx U hWs.alike f1 (fun q hq => f2 q hq (fun z hz => nomatch hz)), hce, hO.vm, hcl, hWs, hall, hf⟩⟩
  refine st1 _ ?_
  show Steps p.tables e below (T1.setTop { method := m, pc := pc + 3, locals := ls, stack := .ref T.heap.size :: rest, locked := none }) _
  jvm_step X₁.here [X₁.here.top, hexec, d3', Value.category]
  exact X₁.ldcStringW hexec (own := own) (text := text) (index := is) (a := sa) hown' hstr'.1 hstr'.2
    (g := { method := m, pc := pc + 4, locals := ls, stack := .ref T.heap.size :: .ref T.heap.size :: rest, locked := none }) rfl d4' _ hsteps
end Ends
section Bodies
variable {l : Launch}
theorem vx_ofW {y : MethodName} {ws ws' : List Cond} {rm : Room} {Pc : Array Value → State → Prop} {Qc : Array Value → State → Outcome → State → Prop} {XC : String → State → State → Prop} {mc ms : Nat} {free : Addr → Prop} {cc : ByteArray} {maxL : Nat} {ret : Option FieldType}
    (hy : plainName y.cls = true) (hw : ws = Cond.code y cc maxL ret :: ws')
    (body : ∀ p e s m args below meth c s₁, BodyLoose p l y (headSpec ws rm) cc maxL ret e s m args below meth c s₁ → c.maxLocals = maxL → (∀ x ∈ c.exceptionTable.toList, False) → Pc args s →
      W p l e (headSpec ws rm).room s m args below meth c s.heap [] 0 0 (vx_MQ below Qc XC args s mc ms free) (entryFrame m args maxL)) : vx_Met l y ws rm Pc Qc XC mc ms free := by
  refine MetFree.of_bodyS (code := cc) (maxLocals := maxL) (ret := ret) hy ?_ ?_
  · intro args s m h hn
    obtain ⟨meth, c, h1, h2, h3, h4, h5, h6, -, -⟩ := Cond.code_spec hn (atoms_spec (ws := ws) h _ (by rw [hw]; exact List.mem_cons_self))
    exact ⟨meth, c, h1, h2, h3, h4, h5, h6⟩
  · intro p e s m args below meth c s₁ B hml hP _
    have hh0 : s₁.heap = s.heap := by rw [B.state]; rfl
    have ht : ∀ x ∈ c.exceptionTable.toList, False := by
      obtain ⟨meth9, c9, h1, h2, -, -, -, -, h7, -⟩ := Cond.code_spec B.named (atoms_spec (ws := ws) B.pre _ (by rw [hw]; exact List.mem_cons_self))
      cases Option.some.inj (h1.symm.trans B.method)
      cases Option.some.inj (h2.symm.trans (Stand.of_body B).code)
      intro x hx
      rw [Array.isEmpty_iff.mp h7] at hx
      cases hx
    obtain ⟨t, a1, o, b1, b2, b3⟩ := body p e s m args below meth c s₁ B hml ht hP s₁ hh0 (Stand.of_body B)
    exact ⟨t, o, a1, b1, b2, b3⟩
/-- the table of a body with handlers -/
theorem vx_table {p : Program} {x y : MethodName} {S : Spec} {cc bytes : ByteArray} {maxL maxL' : Nat} {ret ret' : Option FieldType} {e : Env} {s s₁ : State} {m : MethodId} {args : Array Value} {below : List Frame} {meth : Method} {c : Code} {hh : List (Nat × Nat × Nat × Nat)}
    (B : BodyLoose p l y S cc maxL ret e s m args below meth c s₁) (h : (Cond.codeWith y bytes maxL' ret' hh).before args s = true) : c.exceptionTable.toList = tableOf hh := by
  obtain ⟨m9, meth9, c9, hn9, h1, h2, -, -, h6, -⟩ := Cond.codeWith_spec h
  cases Option.some.inj (hn9.symm.trans B.named)
  cases Option.some.inj (h1.symm.trans B.method)
  cases Option.some.inj (h2.symm.trans (Stand.of_body B).code)
  rw [← h6, table_eq]
end Bodies
end VXA
/-! ===== END ===== -/
/-! ===== BEGIN a static call of a method with an exception table ===== -/
section VXS
variable {p : Program} {l : Launch} {e : Env} {R : Room} {s : State} {m : MethodId} {args : Array Value} {below : List Frame} {meth : Method} {c : Code} {T : State} {H : Heap} {locs : List Loc} {cells slots : Nat}
abbrev vx_CSW (R : Room) (s : State) (args : Array Value) (own : String) (index : Nat) (y : MethodName) (bytes : ByteArray) (maxL : Nat) (ret : Option FieldType) (hh : List (Nat × Nat × Nat × Nat)) (ws : List Cond) (rm : Room) (mc ms n : Nat) : Prop :=
  (rm.cells = mc ∧ rm.slots = ms ∧ rm.frames + 1 ≤ R.frames ∧ 8 + (maxL + 11) + rm.locals ≤ R.locals ∧ (∀ w ∈ ws, ∀ (a' : Array Value) (U : State), s.WarmedH U.vm → w.before a' U = true) ∧ Cond.codeWith y bytes maxL ret hh ∈ ws) ∧
  (Cond.codeWith y bytes maxL ret hh).before args s = true ∧ (Cond.initialized y.cls).before args s = true ∧ (y.cls ≠ "java/lang/invoke/MethodHandle" ∧ y.cls ≠ "java/lang/invoke/VarHandle") ∧
  (∀ sig, parseMethodDescriptor y.desc = some sig → n = sig.parameters.length) ∧ (Cond.methodLink own index y).before args s = true ∧ (Cond.static y).before args s = true
theorem vx_cwSW {own : String} {index maxL mc ms : Nat} {y : MethodName} {bytes : ByteArray} {ret : Option FieldType} {hh : List (Nat × Nat × Nat × Nat)} {Ts ws ws' : List Cond} {rm : Room} (n : Nat) (ht : ∀ w ∈ Ts, w.before args s = true) (hT : GoodIn Ts (va_wsS own index y ws)) (hw : ws = Cond.codeWith y bytes maxL ret hh :: ws') (hrc : rm.cells = mc) (hrs : rm.slots = ms)
    (hd : y.cls ≠ "java/lang/invoke/MethodHandle" ∧ y.cls ≠ "java/lang/invoke/VarHandle" ∧ (parseMethodDescriptor y.desc).map (fun d => d.parameters.length) = some n) (hR : rm.frames + 1 ≤ R.frames ∧ 8 + (maxL + 11) + rm.locals ≤ R.locals) :
    vx_CSW R s args own index y bytes maxL ret hh ws rm mc ms n := by
  have ok : ∀ w ∈ va_wsS own index y ws, w.before args s = true := fun w h => ht w (hT w h).1
  have hG : GoodIn Ts ws := fun w h => hT w (by unfold va_wsS; exact List.mem_append_right _ h)
  have hc : Cond.codeWith y bytes maxL ret hh ∈ ws := by rw [hw]; exact List.mem_cons_self
  refine ⟨⟨hrc, hrs, hR.1, hR.2, pay_in ht hG, hc⟩, ht _ (hG _ hc).1, ok _ (by simp [va_wsS]), ⟨hd.1, hd.2.1⟩, fun sig h => ?_, ok _ (by simp [va_wsS]), ok _ (by simp [va_wsS])⟩
  have h2 := hd.2.2
  rw [h] at h2
  exact (Option.some.inj h2).symm
theorem vx_callSW (X : Stand p l e R s m args below meth c T locs cells slots) (hexec : p.tables.exec = Jvm.exec) {own : String} {index : Nat} {y : MethodName} {bytes : ByteArray} {maxL : Nat} {ret : Option FieldType} {hh : List (Nat × Nat × Nat × Nat)}
    (hown : s.vm.findClass own = some m.cls) (hlink : (Cond.methodLink own index y).before args s = true) (hstat : (Cond.static y).before args s = true) (hinit : (Cond.initialized y.cls).before args s = true)
    (hcode : (Cond.codeWith y bytes maxL ret hh).before args s = true) (hy : y.cls ≠ "java/lang/invoke/MethodHandle" ∧ y.cls ≠ "java/lang/invoke/VarHandle")
    {W9 : Nat} {Pre : Pt → Array Value → Prop} {Post : Pt → Array Value → Option Value → Pt → Prop} (hK : Back l R p e below s args y 3 W9 Pre Post)
    {g : JFrame} (hg : g.method = m) (hsize : g.locals.size = c.maxLocals) {argsL rest : List Value} (hlen : ∀ sig, parseMethodDescriptor y.desc = some sig → argsL.length = sig.parameters.length)
    (hstack : g.stack = argsL.reverse ++ rest) (hW : 2 * g.monitorRoom + (rest.map fun v => v.category).sum ≤ W9) (hdg : decode c.code g.pc = .ok (.invokestatic index, 3))
    (hpre : ∀ vm₁, s.WarmedH vm₁ → Pre ⟨T.setVm vm₁, locs, cells, slots⟩ argsL.toArray) :
    ∃ (v : Option Value) (vm₁ : Vm) (B : Pt), s.WarmedH vm₁ ∧ Stand p l e R s m args below meth c B.U B.locs B.cells B.slots ∧ Post ⟨T.setVm vm₁, locs, cells, slots⟩ argsL.toArray v B ∧
      ∀ target, Steps p.tables e below (B.U.setTop { g with pc := g.pc + 3, stack := v.toList ++ rest }) target → Steps p.tables e below (T.setTop g) target := by
  obtain ⟨mk, methM, cM, hnamed, hmethM, -, -, -, -, -, -, hsigM⟩ := Cond.codeWith_spec hcode
  have hstatic : methM.isStatic = true := Cond.static_spec hnamed hmethM hstat
  obtain ⟨kP, hkP, -⟩ := className_of_methodNamed hnamed
  have hinitP : kP.init = .initialized := Cond.initialized_spec (findClass_of_methodNamed hnamed) hkP hinit
  obtain ⟨vm₁, X₁, hstep₁⟩ := X.invokestatic hexec hown hlink hnamed hmethM hstatic hkP hinitP hy (g := g) hg (argsL := argsL) (rest := rest) (hlen _ hsigM) hstack hdg
  obtain ⟨v, B, X', hpost, hsteps⟩ := hK m meth c ⟨T.setVm vm₁, locs, cells, slots⟩ { g with stack := rest } (.invokestatic index) mk argsL.toArray X₁ hg hsize hdg hW (X₁.named hnamed) (hpre vm₁ X₁.warmed)
  exact ⟨v, vm₁, B, X₁.warmed, X', hpost, fun target h => hstep₁ _ fun acts => by rw [doInvoke_state]; exact hsteps.trans h⟩
theorem vx_runSW {y : MethodName} {bytes cc : ByteArray} {maxL nL mc ms n index : Nat} {ret : Option FieldType} {hh : List (Nat × Nat × Nat × Nat)} {ws : List Cond} {rm : Room} {Pc : Array Value → State → Prop} {Qc : Array Value → State → Outcome → State → Prop} {free : Addr → Prop} {Ts : List Cond} {own : String} {As rest : List Value} {g : JFrame}
    (S : CallFix p m c cc nL s args Ts own) (hM : Met l y ws rm Pc Qc mc ms free) (cw : vx_CSW R s args own index y bytes maxL ret hh ws rm mc ms n) (hp : PreS s H Pc As)
    (hg : g.method = m) (hn : As.length = n) (hsize : g.locals.size = nL) (hstack : g.stack = As.reverse ++ rest) (hW : 2 * g.monitorRoom + (rest.map fun v => v.category).sum ≤ 8) (hdg : decode cc g.pc = .ok (.invokestatic index, 3)) (hf : cells + mc ≤ R.cells ∧ slots + ms ≤ R.slots) :
    va_Run p l e R s m args below meth c H locs cells slots mc ms g rest (Qc As.toArray) (free) := by
  obtain ⟨⟨hrc, hrs, hfr, hlo, hws, hcw⟩, hcode, hini, hy, hlen, hl, hstt⟩ := cw
  have hK : Back l R p e below s args y 3 8 (PreOf R mc ms Pc) (PostOf Qc mc ms free) := va_backW (hh := hh) (bytes := bytes) (maxL := maxL) (ret := ret) hM hp.1 hrc hrs hfr hlo hws hcw (fun a' U hW => word_at hW (Or.inl (by first | rfl | simp [Cond.onTables, Cond.keeps, Cond.steady])) hini)
  obtain ⟨hx, hb, hml, ho, -⟩ := S
  intro T hT X
  obtain ⟨v, vm₁, ⟨U', l2, c2, s2⟩, hW₁, X', ⟨g', mk, t, L, e1, e2, hq, h1, hL, h2, h3⟩, st⟩ := vx_callSW X hx (hh := hh) (bytes := bytes) (maxL := maxL) (ret := ret) ho hl hstt hini hcode hy hK hg (hsize.trans hml.symm) (argsL := As) (rest := rest) (fun sig h => hn.trans (hlen sig h)) hstack hW (by rw [hb]; exact hdg)
    (fun vm₁ hW₁ => ⟨hf.1, hf.2, hp.2 (T.setVm vm₁) hT hW₁⟩)
  dsimp only [Pt.U, Pt.locs, Pt.cells, Pt.slots] at X' e1 e2 h1 h2 h3 st
  subst h1; subst h2; subst h3
  exact ⟨v, (T.setVm vm₁).calling g' mk As.toArray, t, U', L, hT, X', hL, e1, e2, hq, st⟩
/-- not caught here, past rows that name other classes: it goes on to the caller -/
theorem vx_outP {p : Program} {l : Launch} {e : Env} {R : Room} {s : State} {m : MethodId} {args : Array Value} {below : List Frame} {meth : Method} {c : Code} {H : Heap} {locs : List Loc} {cells slots : Nat} {free : Addr → Prop} {ls : Array Slot} {rest : List Value} {Qc : Array Value → State → Outcome → State → Prop} {XC : String → State → State → Prop}
    {pc : Nat} {own E : String} {ce : Cell} {q : Addr} {mc ms : Nat} (hown : s.vm.findClass own = some m.cls) (hlocks : meth.locks = false)
    (hpass : ∀ z ∈ c.exceptionTable.toList, covers z pc = false ∨ (z.catchType ≠ 0 ∧ ∃ nm : String, (Cond.classLink own z.catchType nm).before args s = true ∧ va_Nc E nm s)) (hcell : H[q]? = some ce) (hv : ce.vm = .none) (hcl : s.vm.findClass E = some ce.cls)
    (hx : ∀ t : State, t.heap = H → s.vm.Alike t.vm → XC E s t) (hf : ∀ z ∈ locs, free z.base) (hc : cells ≤ mc) (hs : slots ≤ ms) :
    vx_W p l e R s m args below meth c H locs cells slots (vx_MQ below Qc XC args s mc ms free) (F0 m pc ls rest) q := by
  intro T hT X
  have hpl : e.platform.magicAccessors = ({} : Platform).magicAccessors := by rw [X.admits.platform]
  obtain ⟨vm', hW', X', st⟩ := X.outThrough hlocks q (g := F0 m pc ls rest) rfl rfl rfl (cell := ce) (by rw [hT]; exact hcell) (by rw [hv]; rfl)
    (by obtain ⟨k9, h9, -⟩ := Vm.findClass_spec hcl; exact ⟨k9, h9⟩) (fun z hz => by
      rcases hpass z hz with h | ⟨hz0, nm, hl1, hn1⟩
      · exact Or.inl h
      · obtain ⟨c6, hc6, hcl6⟩ := Cond.classLink_spec hown hl1 e.platform hpl
        obtain ⟨a8, b8, h1, h2, h3⟩ := hn1
        cases Option.some.inj (h1.symm.trans hcl)
        cases Option.some.inj (h2.symm.trans hc6)
        exact Or.inr ⟨hz0, _, hcl6, h3⟩)
  obtain ⟨g₀, hfr⟩ := X'.frames_eq
  have hcell9 : ((T.setVm vm').setFrames (.throwing q :: below)).heap[q]? = some ce := by
    show T.heap[q]? = some ce
    rw [hT]; exact hcell
  have hend : Ended ((T.setVm vm').setFrames (.throwing q :: below)) below (.threw q) := State.frames_setFrames _ (State.cur_lt_of_frames hfr)
  refine ⟨(T.setVm vm').setFrames (.throwing q :: below), ?_, .threw q, X'.here.running, hend, Or.inr ⟨q, rfl, E, ce, locs, hx _ hT (X'.ends _).1.alike, hcell9, hv, hcl, (X'.ends _).1, (X'.ends _).2.mono hc hs, hf⟩⟩
  rw [X.pushThrowing_eq]
  exact st
/-- a thing of a world lies in the heap -/
theorem vx_lt {D : va_G} {cl : List vw_C} {ws : va_W} {H1 : Heap} (h : va_P D cl ws H1) {k : Nat} {q : Nat × va_E} (hk : ws[k]? = some q) : q.1 < H1.size := (h k q hk).lt
end VXS
/-! ===== END ===== -/
/-! ===== BEGIN methods with a table of their own: called by a name, returning or throwing ===== -/
section VXH
/-! vx_backW, vx_callVX, vx_callSX, vx_callVW, vx_runVW, vx_runVX, vx_runSX, vx_ofWH follow the same proofs as their sisters above (Free/Laws.lean, Shelf42/LK1.lean); vx_outP calls Shelf42/NT130.lean (outThrough). -/
section
variable {l : Launch} {R : Room} {p : Program} {e : Env} {below : List Frame} {s : State} {sargs : Array Value} {y : MethodName} {len W9 : Nat}
theorem vx_backW {ws : List Cond} {rm : Room} {Pc : Array Value → State → Prop} {Qc : Array Value → State → Outcome → State → Prop} {XC : String → State → State → Prop} {mc ms : Nat} {free : Addr → Prop} {bytes : ByteArray} {maxL : Nat} {ret : Option FieldType} {hh : List (Nat × Nat × Nat × Nat)}
    (hM : vx_Met l y ws rm Pc Qc XC mc ms free) (hblind : FrameBlind Pc) (hrc : rm.cells = mc) (hrs : rm.slots = ms)
    (hframes : rm.frames + 1 ≤ R.frames) (hlocals : W9 + (maxL + 11) + rm.locals ≤ R.locals)
    (hws : ∀ w ∈ ws, ∀ a' U, s.WarmedH U.vm → w.before a' U = true) (hcode : Cond.codeWith y bytes maxL ret hh ∈ ws) (hinit : ∀ a' U, s.WarmedH U.vm → (Cond.initialized y.cls).before a' U = true) :
    vx_Back l R p e below s sargs y len W9 (PreOf R mc ms Pc) (PostOf Qc mc ms free) (vx_Post XC mc ms free) := by
  intro m meth c A g ig mk a X hg hsize hdg hW hn hp
  have h1 : (headSpec ws rm).pre.before a A.U = true := atoms_intro fun w hw => hws w hw _ _ X.warmed
  have h2 : (Cond.codeWith y bytes maxL ret hh).before a A.U = true := hws _ hcode _ _ X.warmed
  have h3 : (Cond.initialized y.cls).before a A.U = true := hinit _ _ X.warmed
  have h4 : A.cells + (headSpec ws rm).room.cells ≤ R.cells := by rw [show (headSpec ws rm).room.cells = mc from hrc]; exact hp.1
  have h5 : A.slots + (headSpec ws rm).room.slots ≤ R.slots := by rw [show (headSpec ws rm).room.slots = ms from hrs]; exact hp.2.1
  have hPc : Pc a (A.U.calling g mk a) := hblind _ _ _ _ hp.2.2
  obtain ⟨U, Ls, c0, s0⟩ := A
  dsimp only [Pt.U, Pt.locs, Pt.cells, Pt.slots] at h1 h2 h3 h4 h5 X hn hPc ⊢
  obtain ⟨m9, methY, cY, hn9, hmY, hcY, -, hlY, -⟩ := Cond.codeWith_spec h2
  cases Option.some.inj (hn9.symm.trans hn)
  obtain ⟨kY, hkY, -⟩ := className_of_methodNamed hn
  have hinitY : kY.init = .initialized := Cond.initialized_spec (findClass_of_methodNamed hn) hkY h3
  have h : At U g.method c below := by rw [hg]; exact X.here
  have hlocals9 : W9 + (maxL + 11) + (headSpec ws rm).room.locals ≤ R.locals := hlocals
  have happ : (headSpec ws rm).appliesLoose y e.platform (U.calling g mk a) = true :=
    Spec.appliesLoose_calling (g := g) h hdg hn hkY hinitY
      (X.room_calling (g := g) (R' := (headSpec ws rm).room) hsize hmY hcY hframes (by rw [hlY]; omega) h4 h5) h1
  obtain ⟨mid, hmid⟩ := h.above
  have hfr : (U.setTop g).frames = (.java g :: mid) ++ below := by rw [State.frames_setTop' g h.top, hmid]; rfl
  obtain ⟨o, s₂, hsteps, -, hend, hq⟩ := Steps.callFree hM p X.admits X.cas X.clock (acts := []) hfr happ hPc trivial
  have hq' : vx_Q Qc XC mc ms free a (U.calling g mk a) o s₂ := hq
  rw [State.frames_setTop' g h.top] at hend
  obtain ⟨g₀, hg0⟩ := Option.isSome_iff_exists.mp h.top
  obtain ⟨r, hr⟩ := State.topJava?_eq_some.mp hg0
  have hr' : (({ U with heap := s₂.heap, slotsUsed := s₂.slotsUsed } : State).setVm s₂.vm).frames = .java g₀ :: r := hr
  rcases hq' with ⟨hqc, L, hfe, hL⟩ | ⟨q, rfl, E, ce, L, hx, hce, hcv, hcl, hW₂, hsm, hL⟩
  · obtain ⟨⟨v, rfl⟩, hW₂, e2, q2, q3, q4, q5, q6⟩ := id hfe
    have e3 : s₂ = ({ (U.calling g mk a).setFrames s₂.frames with heap := s₂.heap, slotsUsed := s₂.slotsUsed } : State).setVm s₂.vm := by
      have : s₂ = ({ s₂ with vm := (U.calling g mk a).vm } : State).setVm s₂.vm := rfl
      rw [e2] at this
      exact this
    obtain ⟨c₂, i₂, len₂, hc₂, hd₂, hf₂⟩ := hend
    have hW' : U.WarmedH s₂.vm := hW₂
    have hcc : c₂ = c := by
      have h1 : s₂.code? g.method = U.code? g.method := by
        rw [State.code?_eq, State.code?_eq, hW'.alike.method?]
      exact Option.some.inj (hc₂.symm.trans (h1.trans h.code))
    subst hcc
    have hlen : len₂ = len := by rw [hdg] at hd₂; cases hd₂; rfl
    subst hlen
    have hs₂ : s₂ = (({ U with heap := s₂.heap, slotsUsed := s₂.slotsUsed } : State).setVm s₂.vm).setTop { g with pc := g.pc + len₂, stack := v.toList ++ g.stack } := by
      refine e3.trans ?_
      rw [hf₂, State.calling_eq h.top, State.setFrames_setFrames, State.setTop_of_frames _ hr', hr]
      rfl
    have hsame : U.sameButNew ({ U with heap := s₂.heap, slotsUsed := s₂.slotsUsed } : State) L mc ms := by
      refine ⟨?_, q2, q3, q4, q5, q6⟩
      obtain ⟨t, ht, -⟩ := State.frames_cons hr
      show ({ U with heap := s₂.heap, slotsUsed := s₂.slotsUsed } : State) = { U.setFrames U.frames with heap := s₂.heap, slotsUsed := s₂.slotsUsed }
      rw [State.setFrames_self ht]
    subst hg
    refine Or.inl ⟨v, ⟨(({ U with heap := s₂.heap, slotsUsed := s₂.slotsUsed } : State).setVm s₂.vm), Ls ++ L, c0 + mc, s0 + ms⟩,
      ⟨X.admits, X.cas, X.clock, X.frames, X.room, X.hears, X.method, X.code, (X.here.setHeapUsed s₂.heap s₂.slotsUsed).setVm hW'.alike, X.tail, State.WarmedH.trans X.warmed hW', X.limits, X.bytes, X.same.trans (hsame.setVm s.vm)⟩,
      ⟨g, mk, s₂, L, rfl, rfl, hqc, rfl, hL, rfl, rfl⟩, ?_⟩
    show Steps p.tables e below _ ((({ U with heap := s₂.heap, slotsUsed := s₂.slotsUsed } : State).setVm s₂.vm).setTop { g with pc := g.pc + len₂, stack := v.toList ++ g.stack })
    rw [← hs₂]
    exact hsteps
  · obtain ⟨e2, q2, q3, q4, q5, q6⟩ := id hsm
    have e3 : s₂ = ({ (U.calling g mk a).setFrames s₂.frames with heap := s₂.heap, slotsUsed := s₂.slotsUsed } : State).setVm s₂.vm := by
      have : s₂ = ({ s₂ with vm := (U.calling g mk a).vm } : State).setVm s₂.vm := rfl
      rw [e2] at this
      exact this
    have hf₂ : s₂.frames = .throwing q :: .java g :: U.frames.tail := hend
    have hW' : U.WarmedH s₂.vm := hW₂
    have hs₂ : s₂ = ((({ U with heap := s₂.heap, slotsUsed := s₂.slotsUsed } : State).setVm s₂.vm).setTop g).pushFrame (.throwing q) := by
      refine e3.trans ?_
      rw [hf₂, State.calling_eq h.top, State.setFrames_setFrames, State.pushFrame, State.frames_setTop _ hr', State.setTop_of_frames _ hr', State.setFrames_setFrames, hr]
      rfl
    have hsame : U.sameButNew ({ U with heap := s₂.heap, slotsUsed := s₂.slotsUsed } : State) L mc ms := by
      refine ⟨?_, q2, q3, q4, q5, q6⟩
      obtain ⟨t, ht, -⟩ := State.frames_cons hr
      show ({ U with heap := s₂.heap, slotsUsed := s₂.slotsUsed } : State) = { U.setFrames U.frames with heap := s₂.heap, slotsUsed := s₂.slotsUsed }
      rw [State.setFrames_self ht]
    subst hg
    refine Or.inr ⟨q, ⟨(({ U with heap := s₂.heap, slotsUsed := s₂.slotsUsed } : State).setVm s₂.vm), Ls ++ L, c0 + mc, s0 + ms⟩,
      ⟨X.admits, X.cas, X.clock, X.frames, X.room, X.hears, X.method, X.code, (X.here.setHeapUsed s₂.heap s₂.slotsUsed).setVm hW'.alike, X.tail, State.WarmedH.trans X.warmed hW', X.limits, X.bytes, X.same.trans (hsame.setVm s.vm)⟩,
      ⟨g, mk, s₂, L, E, ce, rfl, rfl, hx, hce, hcv, hcl, rfl, hL, rfl, rfl⟩, ?_⟩
    show Steps p.tables e below _ (((({ U with heap := s₂.heap, slotsUsed := s₂.slotsUsed } : State).setVm s₂.vm).setTop g).pushFrame (.throwing q))
    rw [← hs₂]
    exact hsteps
end
variable {p : Program} {l : Launch} {e : Env} {R : Room} {s : State} {m : MethodId} {args : Array Value} {below : List Frame} {meth : Method} {c : Code} {T : State} {H : Heap} {locs : List Loc} {cells slots : Nat}
theorem vx_callVX (X : Stand p l e R s m args below meth c T locs cells slots) (hexec : p.tables.exec = Jvm.exec) {own C : String} {index : Nat} {y : MethodName} {bytes : ByteArray} {maxL : Nat} {ret : Option FieldType} {hh : List (Nat × Nat × Nat × Nat)}
    (hown : s.vm.findClass own = some m.cls) (hlink : (Cond.methodLink own index y).before args s = true) (hinst : (Cond.instanceMethod y).before args s = true) (hsel : (Cond.selects C y y).before args s = true)
    (hcode : (Cond.codeWith y bytes maxL ret hh).before args s = true) (hy : y.cls ≠ "java/lang/invoke/MethodHandle" ∧ y.cls ≠ "java/lang/invoke/VarHandle")
    {W9 : Nat} {Pre : Pt → Array Value → Prop} {Post : Pt → Array Value → Option Value → Pt → Prop} {PostX : Pt → Array Value → Addr → Pt → Prop} (hK : vx_Back l R p e below s args y 3 W9 Pre Post PostX)
    {b : Addr} {cellB : Cell} (hcell : T.heap[b]? = some cellB) (hobj : cellB.vm.isStatics = false) (hcls : s.vm.findClass C = some cellB.cls)
    {g : JFrame} (hg : g.method = m) (hsize : g.locals.size = c.maxLocals) {argsL rest : List Value} (hlen : ∀ sig, parseMethodDescriptor y.desc = some sig → argsL.length = sig.parameters.length)
    (hstack : g.stack = argsL.reverse ++ .ref b :: rest) (hW : 2 * g.monitorRoom + (rest.map fun v => v.category).sum ≤ W9) (hdg : decode c.code g.pc = .ok (.invokevirtual index, 3))
    (hpre : ∀ vm₁, s.WarmedH vm₁ → Pre ⟨T.setVm vm₁, locs, cells, slots⟩ (Value.ref b :: argsL).toArray) :
    (∃ (v : Option Value) (vm₁ : Vm) (B : Pt), s.WarmedH vm₁ ∧ Stand p l e R s m args below meth c B.U B.locs B.cells B.slots ∧ Post ⟨T.setVm vm₁, locs, cells, slots⟩ (Value.ref b :: argsL).toArray v B ∧
      ∀ target, Steps p.tables e below (B.U.setTop { g with pc := g.pc + 3, stack := v.toList ++ rest }) target → Steps p.tables e below (T.setTop g) target) ∨
    (∃ (q : Addr) (vm₁ : Vm) (B : Pt), s.WarmedH vm₁ ∧ Stand p l e R s m args below meth c B.U B.locs B.cells B.slots ∧ PostX ⟨T.setVm vm₁, locs, cells, slots⟩ (Value.ref b :: argsL).toArray q B ∧
      Steps p.tables e below (T.setTop g) ((B.U.setTop { g with stack := rest }).pushFrame (.throwing q))) := by
  obtain ⟨mk, methM, hnamed, hmethM, hstM, habM⟩ := Cond.instanceMethod_spec hinst
  obtain ⟨m8, methM', cM, hn8, hmethM', -, -, -, -, -, -, hsigM⟩ := Cond.codeWith_spec hcode
  cases Option.some.inj (hn8.symm.trans hnamed)
  cases hmethM.symm.trans hmethM'
  obtain ⟨c2, r2, m2, q1, q2, q3, q4, kP, hkP, hkPi⟩ := Cond.selects_spec hsel
  cases hcls.symm.trans q1
  cases (State.methodFound?_of_named hnamed hy).symm.trans q2
  cases hnamed.symm.trans q3
  have hselP : selectMethod e.platform s.vm cellB.cls mk = .method mk := by rw [Launch.admits_selectMethod X.admits]; exact q4
  obtain ⟨vm₁, X₁, hstep₁⟩ := X.invokevirtual hexec hown hlink hnamed hmethM hstM hkP hkPi hy (a := b) (cell := cellB) hcell
    (fun z h => by rw [h] at hobj; cases hobj) hselP hmethM habM hkP hkPi (g := g) hg (argsL := argsL) (rest := rest) (hlen _ hsigM) hstack hdg
  rcases hK m meth c ⟨T.setVm vm₁, locs, cells, slots⟩ { g with stack := rest } (.invokevirtual index) mk (Value.ref b :: argsL).toArray X₁ hg hsize hdg hW (X₁.named hnamed) (hpre vm₁ X₁.warmed) with ⟨v, B, X', hpost, hsteps⟩ | ⟨q, B, X', hpost, hsteps⟩
  · exact Or.inl ⟨v, vm₁, B, X₁.warmed, X', hpost, fun target h => hstep₁ _ fun acts => by rw [doInvoke_state]; exact hsteps.trans h⟩
  · exact Or.inr ⟨q, vm₁, B, X₁.warmed, X', hpost, hstep₁ _ fun acts => by rw [doInvoke_state]; exact hsteps⟩
theorem vx_callSX (X : Stand p l e R s m args below meth c T locs cells slots) (hexec : p.tables.exec = Jvm.exec) {own : String} {index : Nat} {y : MethodName} {bytes : ByteArray} {maxL : Nat} {ret : Option FieldType} {hh : List (Nat × Nat × Nat × Nat)}
    (hown : s.vm.findClass own = some m.cls) (hlink : (Cond.methodLink own index y).before args s = true) (hstat : (Cond.static y).before args s = true) (hinit : (Cond.initialized y.cls).before args s = true)
    (hcode : (Cond.codeWith y bytes maxL ret hh).before args s = true) (hy : y.cls ≠ "java/lang/invoke/MethodHandle" ∧ y.cls ≠ "java/lang/invoke/VarHandle")
    {W9 : Nat} {Pre : Pt → Array Value → Prop} {Post : Pt → Array Value → Option Value → Pt → Prop} {PostX : Pt → Array Value → Addr → Pt → Prop} (hK : vx_Back l R p e below s args y 3 W9 Pre Post PostX)
    {g : JFrame} (hg : g.method = m) (hsize : g.locals.size = c.maxLocals) {argsL rest : List Value} (hlen : ∀ sig, parseMethodDescriptor y.desc = some sig → argsL.length = sig.parameters.length)
    (hstack : g.stack = argsL.reverse ++ rest) (hW : 2 * g.monitorRoom + (rest.map fun v => v.category).sum ≤ W9) (hdg : decode c.code g.pc = .ok (.invokestatic index, 3))
    (hpre : ∀ vm₁, s.WarmedH vm₁ → Pre ⟨T.setVm vm₁, locs, cells, slots⟩ argsL.toArray) :
    (∃ (v : Option Value) (vm₁ : Vm) (B : Pt), s.WarmedH vm₁ ∧ Stand p l e R s m args below meth c B.U B.locs B.cells B.slots ∧ Post ⟨T.setVm vm₁, locs, cells, slots⟩ argsL.toArray v B ∧
      ∀ target, Steps p.tables e below (B.U.setTop { g with pc := g.pc + 3, stack := v.toList ++ rest }) target → Steps p.tables e below (T.setTop g) target) ∨
    (∃ (q : Addr) (vm₁ : Vm) (B : Pt), s.WarmedH vm₁ ∧ Stand p l e R s m args below meth c B.U B.locs B.cells B.slots ∧ PostX ⟨T.setVm vm₁, locs, cells, slots⟩ argsL.toArray q B ∧
      Steps p.tables e below (T.setTop g) ((B.U.setTop { g with stack := rest }).pushFrame (.throwing q))) := by
  obtain ⟨mk, methM, cM, hnamed, hmethM, -, -, -, -, -, -, hsigM⟩ := Cond.codeWith_spec hcode
  have hstatic : methM.isStatic = true := Cond.static_spec hnamed hmethM hstat
  obtain ⟨kP, hkP, -⟩ := className_of_methodNamed hnamed
  have hinitP : kP.init = .initialized := Cond.initialized_spec (findClass_of_methodNamed hnamed) hkP hinit
  obtain ⟨vm₁, X₁, hstep₁⟩ := X.invokestatic hexec hown hlink hnamed hmethM hstatic hkP hinitP hy (g := g) hg (argsL := argsL) (rest := rest) (hlen _ hsigM) hstack hdg
  rcases hK m meth c ⟨T.setVm vm₁, locs, cells, slots⟩ { g with stack := rest } (.invokestatic index) mk argsL.toArray X₁ hg hsize hdg hW (X₁.named hnamed) (hpre vm₁ X₁.warmed) with ⟨v, B, X', hpost, hsteps⟩ | ⟨q, B, X', hpost, hsteps⟩
  · exact Or.inl ⟨v, vm₁, B, X₁.warmed, X', hpost, fun target h => hstep₁ _ fun acts => by rw [doInvoke_state]; exact hsteps.trans h⟩
  · exact Or.inr ⟨q, vm₁, B, X₁.warmed, X', hpost, hstep₁ _ fun acts => by rw [doInvoke_state]; exact hsteps⟩
theorem vx_callVW (X : Stand p l e R s m args below meth c T locs cells slots) (hexec : p.tables.exec = Jvm.exec) {own C : String} {index : Nat} {y : MethodName} {bytes : ByteArray} {maxL : Nat} {ret : Option FieldType} {hh : List (Nat × Nat × Nat × Nat)}
    (hown : s.vm.findClass own = some m.cls) (hlink : (Cond.methodLink own index y).before args s = true) (hinst : (Cond.instanceMethod y).before args s = true) (hsel : (Cond.selects C y y).before args s = true)
    (hcode : (Cond.codeWith y bytes maxL ret hh).before args s = true) (hy : y.cls ≠ "java/lang/invoke/MethodHandle" ∧ y.cls ≠ "java/lang/invoke/VarHandle")
    {W9 : Nat} {Pre : Pt → Array Value → Prop} {Post : Pt → Array Value → Option Value → Pt → Prop} (hK : Back l R p e below s args y 3 W9 Pre Post)
    {b : Addr} {cellB : Cell} (hcell : T.heap[b]? = some cellB) (hobj : cellB.vm.isStatics = false) (hcls : s.vm.findClass C = some cellB.cls)
    {g : JFrame} (hg : g.method = m) (hsize : g.locals.size = c.maxLocals) {argsL rest : List Value} (hlen : ∀ sig, parseMethodDescriptor y.desc = some sig → argsL.length = sig.parameters.length)
    (hstack : g.stack = argsL.reverse ++ .ref b :: rest) (hW : 2 * g.monitorRoom + (rest.map fun v => v.category).sum ≤ W9) (hdg : decode c.code g.pc = .ok (.invokevirtual index, 3))
    (hpre : ∀ vm₁, s.WarmedH vm₁ → Pre ⟨T.setVm vm₁, locs, cells, slots⟩ (Value.ref b :: argsL).toArray) :
    ∃ (v : Option Value) (vm₁ : Vm) (B : Pt), s.WarmedH vm₁ ∧ Stand p l e R s m args below meth c B.U B.locs B.cells B.slots ∧ Post ⟨T.setVm vm₁, locs, cells, slots⟩ (Value.ref b :: argsL).toArray v B ∧
      ∀ target, Steps p.tables e below (B.U.setTop { g with pc := g.pc + 3, stack := v.toList ++ rest }) target → Steps p.tables e below (T.setTop g) target := by
  obtain ⟨mk, methM, hnamed, hmethM, hstM, habM⟩ := Cond.instanceMethod_spec hinst
  obtain ⟨m8, methM', cM, hn8, hmethM', -, -, -, -, -, -, hsigM⟩ := Cond.codeWith_spec hcode
  cases Option.some.inj (hn8.symm.trans hnamed)
  cases hmethM.symm.trans hmethM'
  obtain ⟨c2, r2, m2, q1, q2, q3, q4, kP, hkP, hkPi⟩ := Cond.selects_spec hsel
  cases hcls.symm.trans q1
  cases (State.methodFound?_of_named hnamed hy).symm.trans q2
  cases hnamed.symm.trans q3
  have hselP : selectMethod e.platform s.vm cellB.cls mk = .method mk := by rw [Launch.admits_selectMethod X.admits]; exact q4
  obtain ⟨vm₁, X₁, hstep₁⟩ := X.invokevirtual hexec hown hlink hnamed hmethM hstM hkP hkPi hy (a := b) (cell := cellB) hcell
    (fun z h => by rw [h] at hobj; cases hobj) hselP hmethM habM hkP hkPi (g := g) hg (argsL := argsL) (rest := rest) (hlen _ hsigM) hstack hdg
  obtain ⟨v, B, X', hpost, hsteps⟩ := hK m meth c ⟨T.setVm vm₁, locs, cells, slots⟩ { g with stack := rest } (.invokevirtual index) mk (Value.ref b :: argsL).toArray X₁ hg hsize hdg hW (X₁.named hnamed) (hpre vm₁ X₁.warmed)
  exact ⟨v, vm₁, B, X₁.warmed, X', hpost, fun target h => hstep₁ _ fun acts => by rw [doInvoke_state]; exact hsteps.trans h⟩
abbrev vx_CVW (R : Room) (s : State) (args : Array Value) (own C : String) (index : Nat) (y : MethodName) (bytes : ByteArray) (maxL : Nat) (ret : Option FieldType) (hh : List (Nat × Nat × Nat × Nat)) (ws : List Cond) (rm : Room) (mc ms n : Nat) : Prop :=
  (rm.cells = mc ∧ rm.slots = ms ∧ rm.frames + 1 ≤ R.frames ∧ 8 + (maxL + 11) + rm.locals ≤ R.locals ∧ (∀ w ∈ ws, ∀ (a' : Array Value) (U : State), s.WarmedH U.vm → w.before a' U = true) ∧ Cond.codeWith y bytes maxL ret hh ∈ ws) ∧
  (Cond.codeWith y bytes maxL ret hh).before args s = true ∧ (Cond.initialized y.cls).before args s = true ∧ (y.cls ≠ "java/lang/invoke/MethodHandle" ∧ y.cls ≠ "java/lang/invoke/VarHandle") ∧
  (∀ sig, parseMethodDescriptor y.desc = some sig → n = sig.parameters.length) ∧ (Cond.methodLink own index y).before args s = true ∧ (Cond.instanceMethod y).before args s = true ∧ (Cond.selects C y y).before args s = true
theorem vx_cwVW {own C : String} {index maxL mc ms : Nat} {y : MethodName} {bytes : ByteArray} {ret : Option FieldType} {hh : List (Nat × Nat × Nat × Nat)} {Ts ws ws' : List Cond} {rm : Room} (n : Nat) (ht : ∀ w ∈ Ts, w.before args s = true) (hT : GoodIn Ts (wsV own index C y ws)) (hw : ws = Cond.codeWith y bytes maxL ret hh :: ws') (hrc : rm.cells = mc) (hrs : rm.slots = ms)
    (hd : y.cls = C ∧ y.cls ≠ "java/lang/invoke/MethodHandle" ∧ y.cls ≠ "java/lang/invoke/VarHandle" ∧ (parseMethodDescriptor y.desc).map (fun d => d.parameters.length) = some n) (hR : rm.frames + 1 ≤ R.frames ∧ 8 + (maxL + 11) + rm.locals ≤ R.locals) :
    vx_CVW R s args own C index y bytes maxL ret hh ws rm mc ms n := by
  obtain ⟨hC, hd⟩ := hd
  subst hC
  have ok : ∀ w ∈ wsV own index y.cls y ws, w.before args s = true := fun w h => ht w (hT w h).1
  have hG : GoodIn Ts ws := fun w h => hT w (by unfold wsV; exact List.mem_append_right _ h)
  have hc : Cond.codeWith y bytes maxL ret hh ∈ ws := by rw [hw]; exact List.mem_cons_self
  refine ⟨⟨hrc, hrs, hR.1, hR.2, pay_in ht hG, hc⟩, ht _ (hG _ hc).1, ok _ (by simp [wsV]), ⟨hd.1, hd.2.1⟩, fun sig h => ?_, ok _ (by simp [wsV]), ok _ (by simp [wsV]), ok _ (by simp [wsV])⟩
  have h2 := hd.2.2
  rw [h] at h2
  exact (Option.some.inj h2).symm
theorem vx_runVW {y : MethodName} {bytes cc : ByteArray} {maxL nL mc ms n index : Nat} {ret : Option FieldType} {hh : List (Nat × Nat × Nat × Nat)} {ws : List Cond} {rm : Room} {Pc : Array Value → State → Prop} {Qc : Array Value → State → Outcome → State → Prop} {free : Addr → Prop} {Ts : List Cond} {own C : String} {b : Addr} {As rest : List Value} {g : JFrame}
    (S : CallFix p m c cc nL s args Ts own) (hM : Met l y ws rm Pc Qc mc ms free) (cw : vx_CVW R s args own C index y bytes maxL ret hh ws rm mc ms n) (hp : PreV s H C b Pc As)
    (hg : g.method = m) (hn : As.length = n) (hsize : g.locals.size = nL) (hstack : g.stack = As.reverse ++ .ref b :: rest) (hW : 2 * g.monitorRoom + (rest.map fun v => v.category).sum ≤ 8) (hdg : decode cc g.pc = .ok (.invokevirtual index, 3)) (hf : cells + mc ≤ R.cells ∧ slots + ms ≤ R.slots) :
    va_Run p l e R s m args below meth c H locs cells slots mc ms g rest (Qc (Value.ref b :: As).toArray) free := by
  obtain ⟨⟨hrc, hrs, hfr, hlo, hws, hcw⟩, hcode, hini, hy, hlen, hl, hin, hse⟩ := cw
  have hK : Back l R p e below s args y 3 8 (PreOf R mc ms Pc) (PostOf Qc mc ms free) := va_backW (hh := hh) (bytes := bytes) (maxL := maxL) (ret := ret) hM hp.1 hrc hrs hfr hlo hws hcw (fun a' U hW => word_at hW (Or.inl (by first | rfl | simp [Cond.onTables, Cond.keeps, Cond.steady])) hini)
  obtain ⟨hx, hb, hml, ho, -⟩ := S
  obtain ⟨-, ⟨cellB, hcB, hoB, hclB⟩, hPc⟩ := hp
  intro T hT X
  obtain ⟨v, vm₁, ⟨U', l2, c2, s2⟩, hW₁, X', ⟨g', mk, t, L, e1, e2, hq, h1, hL, h2, h3⟩, st⟩ := vx_callVW X hx (C := C) (hh := hh) (bytes := bytes) (maxL := maxL) (ret := ret) ho hl hin hse hcode hy hK (by rw [hT]; exact hcB) hoB hclB hg (hsize.trans hml.symm) (argsL := As) (rest := rest) (fun sig h => hn.trans (hlen sig h)) hstack hW (by rw [hb]; exact hdg)
    (fun vm₁ hW₁ => ⟨hf.1, hf.2, hPc (T.setVm vm₁) hT hW₁⟩)
  dsimp only [Pt.U, Pt.locs, Pt.cells, Pt.slots] at X' e1 e2 h1 h2 h3 st
  subst h1; subst h2; subst h3
  exact ⟨v, (T.setVm vm₁).calling g' mk (Value.ref b :: As).toArray, t, U', L, hT, X', hL, e1, e2, hq, st⟩
section
variable {y : MethodName} {bytes cc : ByteArray} {maxL nL mc ms n index : Nat} {ret : Option FieldType} {ws : List Cond} {rm : Room} {Pc : Array Value → State → Prop} {Qc : Array Value → State → Outcome → State → Prop} {XC : String → State → State → Prop} {free : Addr → Prop} {Ts : List Cond} {own C : String} {b : Addr} {As rest : List Value} {g : JFrame}
theorem vx_runVX {hh : List (Nat × Nat × Nat × Nat)} (S : CallFix p m c cc nL s args Ts own) (hM : vx_Met l y ws rm Pc Qc XC mc ms free) (cw : vx_CVW R s args own C index y bytes maxL ret hh ws rm mc ms n) (hp : PreV s H C b Pc As)
    (hg : g.method = m) (hn : As.length = n) (hsize : g.locals.size = nL) (hstack : g.stack = As.reverse ++ .ref b :: rest) (hW : 2 * g.monitorRoom + (rest.map fun v => v.category).sum ≤ 8) (hdg : decode cc g.pc = .ok (.invokevirtual index, 3)) (hf : cells + mc ≤ R.cells ∧ slots + ms ≤ R.slots) :
    vx_Run p l e R s m args below meth c H locs cells slots mc ms g rest (Qc (Value.ref b :: As).toArray) XC free := by
  obtain ⟨⟨hrc, hrs, hfr, hlo, hws, hcw⟩, hcode, hini, hy, hlen, hl, hin, hse⟩ := cw
  have hK : vx_Back l R p e below s args y 3 8 (PreOf R mc ms Pc) (PostOf Qc mc ms free) (vx_Post XC mc ms free) := vx_backW (hh := hh) (bytes := bytes) (maxL := maxL) (ret := ret) hM hp.1 hrc hrs hfr hlo hws hcw (fun a' U hW => word_at hW (Or.inl (by first | rfl | simp [Cond.onTables, Cond.keeps, Cond.steady])) hini)
  obtain ⟨hx, hb, hml, ho, -⟩ := S
  obtain ⟨-, ⟨cellB, hcB, hoB, hclB⟩, hPc⟩ := hp
  intro T hT X
  rcases vx_callVX X hx (C := C) (hh := hh) (bytes := bytes) (maxL := maxL) (ret := ret) ho hl hin hse hcode hy hK (by rw [hT]; exact hcB) hoB hclB hg (hsize.trans hml.symm) (argsL := As) (rest := rest) (fun sig h => hn.trans (hlen sig h)) hstack hW (by rw [hb]; exact hdg)
    (fun vm₁ hW₁ => ⟨hf.1, hf.2, hPc (T.setVm vm₁) hT hW₁⟩) with ⟨v, vm₁, ⟨U', l2, c2, s2⟩, hW₁, X', ⟨g', mk, t, L, e1, e2, hq, h1, hL, h2, h3⟩, st⟩ | ⟨q, vm₁, ⟨U', l2, c2, s2⟩, hW₁, X', ⟨g', mk, t, L, E, ce, e1, e2, hq, hce, hcv, hcl, h1, hL, h2, h3⟩, st⟩
  · dsimp only [Pt.U, Pt.locs, Pt.cells, Pt.slots] at X' e1 e2 h1 h2 h3 st
    subst h1; subst h2; subst h3
    exact Or.inl ⟨v, (T.setVm vm₁).calling g' mk (Value.ref b :: As).toArray, t, U', L, hT, X', hL, e1, e2, hq, st⟩
  · dsimp only [Pt.U, Pt.locs, Pt.cells, Pt.slots] at X' e1 e2 h1 h2 h3 st hcl
    subst h1; subst h2; subst h3
    exact Or.inr ⟨q, (T.setVm vm₁).calling g' mk (Value.ref b :: As).toArray, t, U', L, E, ce, hT, X', hL, e1, e2, hq, hce, hcv, vx_cls hW₁ hcl, st⟩
theorem vx_runSX {hh : List (Nat × Nat × Nat × Nat)} (S : CallFix p m c cc nL s args Ts own) (hM : vx_Met l y ws rm Pc Qc XC mc ms free) (cw : vx_CSW R s args own index y bytes maxL ret hh ws rm mc ms n) (hp : PreS s H Pc As)
    (hg : g.method = m) (hn : As.length = n) (hsize : g.locals.size = nL) (hstack : g.stack = As.reverse ++ rest) (hW : 2 * g.monitorRoom + (rest.map fun v => v.category).sum ≤ 8) (hdg : decode cc g.pc = .ok (.invokestatic index, 3)) (hf : cells + mc ≤ R.cells ∧ slots + ms ≤ R.slots) :
    vx_Run p l e R s m args below meth c H locs cells slots mc ms g rest (Qc As.toArray) XC free := by
  obtain ⟨⟨hrc, hrs, hfr, hlo, hws, hcw⟩, hcode, hini, hy, hlen, hl, hstt⟩ := cw
  have hK : vx_Back l R p e below s args y 3 8 (PreOf R mc ms Pc) (PostOf Qc mc ms free) (vx_Post XC mc ms free) := vx_backW (hh := hh) (bytes := bytes) (maxL := maxL) (ret := ret) hM hp.1 hrc hrs hfr hlo hws hcw (fun a' U hW => word_at hW (Or.inl (by first | rfl | simp [Cond.onTables, Cond.keeps, Cond.steady])) hini)
  obtain ⟨hx, hb, hml, ho, -⟩ := S
  intro T hT X
  rcases vx_callSX X hx (hh := hh) (bytes := bytes) (maxL := maxL) (ret := ret) ho hl hstt hini hcode hy hK hg (hsize.trans hml.symm) (argsL := As) (rest := rest) (fun sig h => hn.trans (hlen sig h)) hstack hW (by rw [hb]; exact hdg)
    (fun vm₁ hW₁ => ⟨hf.1, hf.2, hp.2 (T.setVm vm₁) hT hW₁⟩) with ⟨v, vm₁, ⟨U', l2, c2, s2⟩, hW₁, X', ⟨g', mk, t, L, e1, e2, hq, h1, hL, h2, h3⟩, st⟩ | ⟨q, vm₁, ⟨U', l2, c2, s2⟩, hW₁, X', ⟨g', mk, t, L, E, ce, e1, e2, hq, hce, hcv, hcl, h1, hL, h2, h3⟩, st⟩
  · dsimp only [Pt.U, Pt.locs, Pt.cells, Pt.slots] at X' e1 e2 h1 h2 h3 st
    subst h1; subst h2; subst h3
    exact Or.inl ⟨v, (T.setVm vm₁).calling g' mk As.toArray, t, U', L, hT, X', hL, e1, e2, hq, st⟩
  · dsimp only [Pt.U, Pt.locs, Pt.cells, Pt.slots] at X' e1 e2 h1 h2 h3 st hcl
    subst h1; subst h2; subst h3
    exact Or.inr ⟨q, (T.setVm vm₁).calling g' mk As.toArray, t, U', L, E, ce, hT, X', hL, e1, e2, hq, hce, hcv, vx_cls hW₁ hcl, st⟩
end
end VXH
theorem vx_ofWH {l : Launch} {y : MethodName} {ws ws' : List Cond} {rm : Room} {Pc : Array Value → State → Prop} {Qc : Array Value → State → Outcome → State → Prop} {XC : String → State → State → Prop} {mc ms : Nat} {free : Addr → Prop} {cc : ByteArray} {maxL : Nat} {ret : Option FieldType} {hh : List (Nat × Nat × Nat × Nat)}
    (hy : plainName y.cls = true) (hw : ws = Cond.codeWith y cc maxL ret hh :: ws')
    (body : ∀ p e s m args below meth c s₁, BodyLoose p l y (headSpec ws rm) cc maxL ret e s m args below meth c s₁ → c.maxLocals = maxL → Pc args s →
      W p l e (headSpec ws rm).room s m args below meth c s.heap [] 0 0 (vx_MQ below Qc XC args s mc ms free) (entryFrame m args maxL)) : vx_Met l y ws rm Pc Qc XC mc ms free := by
  refine MetFree.of_bodyS (code := cc) (maxLocals := maxL) (ret := ret) hy ?_ ?_
  · intro args s m h hn
    obtain ⟨m9, meth, c, hn9, h1, h2, h3, h4, -, h5, h6, -⟩ := Cond.codeWith_spec (atoms_spec (ws := ws) h _ (by rw [hw]; exact List.mem_cons_self))
    cases hn.symm.trans hn9
    exact ⟨meth, c, h1, h2, h3, h4, h5, h6⟩
  · intro p e s m args below meth c s₁ B hml hP _
    have hh0 : s₁.heap = s.heap := by rw [B.state]; rfl
    obtain ⟨t, a1, o, b1, b2, b3⟩ := body p e s m args below meth c s₁ B hml hP s₁ hh0 (Stand.of_body B)
    exact ⟨t, o, a1, b1, b2, b3⟩
/-! ===== END ===== -/
end
section
def RX0 : String := "ZipCanopy$Layout"
def TX0 : u_T := fun k => match k with
  | 0 => ("ZipCanopy$Layout", "platforms", "[LZipCanopy$Platform;", true)
  | 1 => ("ZipCanopy$Layout", "lines", "[LZipCanopy$Line;", true)
  | 2 => ("ZipCanopy$Layout", "riders", "[LZipCanopy$Rider;", true)
  | 3 => ("ZipCanopy$Layout", "winds", "[I", true)
  | 4 => ("ZipCanopy$Layout", "platformCount", "I", false)
  | 5 => ("ZipCanopy$Layout", "lineCount", "I", false)
  | _ => ("ZipCanopy$Layout", "riderCount", "I", false)
def tyX0 : Nat → FieldType := fun k => match k with
  | 0 => .array (.object "ZipCanopy$Platform")
  | 1 => .array (.object "ZipCanopy$Line")
  | 2 => .array (.object "ZipCanopy$Rider")
  | 3 => .array .int
  | 4 => .int
  | 5 => .int
  | _ => .int
abbrev wsX00 : List Cond := u_ws RX0 TX0 7
theorem nmX0 : ∀ a, a < 7 → ∀ b, b < 7 → a ≠ b → (TX0 a).2.1 ≠ (TX0 b).2.1 := by decide +kernel
theorem tyX0_ok : ∀ k, k < 7 → parseFieldDescriptor (TX0 k).2.2.1 = some (tyX0 k) := by decide +kernel
abbrev cX0_init : ByteArray := prog_2_method_1_code
def yX0_init : MethodName := ⟨RX0, "<init>", "()V"⟩
abbrev cX0_hasPlatformAt : ByteArray := prog_2_method_2_code
def yX0_hasPlatformAt : MethodName := ⟨RX0, "hasPlatformAt", "(II)Z"⟩
abbrev cX0_isLower : ByteArray := prog_2_method_3_code
def yX0_isLower : MethodName := ⟨RX0, "isLower", "(II)Z"⟩
abbrev cX0_addPlatform : ByteArray := prog_2_method_4_code
def yX0_addPlatform : MethodName := ⟨RX0, "addPlatform", "(III)I"⟩
abbrev cX0_addLine : ByteArray := prog_2_method_5_code
def yX0_addLine : MethodName := ⟨RX0, "addLine", "(III)I"⟩
abbrev cX0_addRider : ByteArray := prog_2_method_6_code
def yX0_addRider : MethodName := ⟨RX0, "addRider", "(III)I"⟩
abbrev cX0_linesWithTop : ByteArray := prog_2_method_7_code
def yX0_linesWithTop : MethodName := ⟨RX0, "linesWithTop", "(I)I"⟩
abbrev cX0_linesWithBottom : ByteArray := prog_2_method_8_code
def yX0_linesWithBottom : MethodName := ⟨RX0, "linesWithBottom", "(I)I"⟩
abbrev cX0_isClosed : ByteArray := prog_2_method_9_code
def yX0_isClosed : MethodName := ⟨RX0, "isClosed", "(LZipCanopy$Line;I)Z"⟩
def RX1 : String := "ZipCanopy$Line"
def TX1 : u_T := fun k => match k with
  | 0 => ("ZipCanopy$Line", "top", "I", false)
  | 1 => ("ZipCanopy$Line", "bottom", "I", false)
  | 2 => ("ZipCanopy$Line", "most", "I", false)
  | 3 => ("ZipCanopy$Line", "length", "I", false)
  | _ => ("ZipCanopy$Line", "drop", "I", false)
def tyX1 : Nat → FieldType := fun k => match k with
  | 0 => .int
  | 1 => .int
  | 2 => .int
  | 3 => .int
  | _ => .int
abbrev wsX10 : List Cond := u_ws RX1 TX1 5
theorem nmX1 : ∀ a, a < 5 → ∀ b, b < 5 → a ≠ b → (TX1 a).2.1 ≠ (TX1 b).2.1 := by decide +kernel
theorem tyX1_ok : ∀ k, k < 5 → parseFieldDescriptor (TX1 k).2.2.1 = some (tyX1 k) := by decide +kernel
abbrev cX1_init : ByteArray := prog_3_method_1_code
def yX1_init : MethodName := ⟨RX1, "<init>", "()V"⟩
abbrev cX1_carries : ByteArray := prog_3_method_2_code
def yX1_carries : MethodName := ⟨RX1, "carries", "(I)Z"⟩
abbrev cX1_getsStuck : ByteArray := prog_3_method_3_code
def yX1_getsStuck : MethodName := ⟨RX1, "getsStuck", "(I)Z"⟩
abbrev cX1_rideMinutes : ByteArray := prog_3_method_4_code
def yX1_rideMinutes : MethodName := ⟨RX1, "rideMinutes", "(I)I"⟩
abbrev cX1_pullMinutes : ByteArray := prog_3_method_5_code
def yX1_pullMinutes : MethodName := ⟨RX1, "pullMinutes", "()I"⟩
def RX2 : String := "ZipCanopy$Platform"
def TX2 : u_T := fun k => match k with
  | 0 => ("ZipCanopy$Platform", "x", "I", false)
  | 1 => ("ZipCanopy$Platform", "y", "I", false)
  | _ => ("ZipCanopy$Platform", "height", "I", false)
def tyX2 : Nat → FieldType := fun k => match k with
  | 0 => .int
  | 1 => .int
  | _ => .int
abbrev wsX20 : List Cond := u_ws RX2 TX2 3
theorem nmX2 : ∀ a, a < 3 → ∀ b, b < 3 → a ≠ b → (TX2 a).2.1 ≠ (TX2 b).2.1 := by decide +kernel
theorem tyX2_ok : ∀ k, k < 3 → parseFieldDescriptor (TX2 k).2.2.1 = some (tyX2 k) := by decide +kernel
abbrev cX2_init : ByteArray := prog_4_method_1_code
def yX2_init : MethodName := ⟨RX2, "<init>", "()V"⟩
abbrev cX2_distanceTo : ByteArray := prog_4_method_2_code
def yX2_distanceTo : MethodName := ⟨RX2, "distanceTo", "(LZipCanopy$Platform;)I"⟩
def RX3 : String := "ZipCanopy$Rider"
def TX3 : u_T := fun k => match k with
  | 0 => ("ZipCanopy$Rider", "route", "LZipCanopy$Route;", true)
  | 1 => ("ZipCanopy$Rider", "goal", "I", false)
  | 2 => ("ZipCanopy$Rider", "weight", "I", false)
  | _ => ("ZipCanopy$Rider", "patience", "I", false)
def tyX3 : Nat → FieldType := fun k => match k with
  | 0 => .object "ZipCanopy$Route"
  | 1 => .int
  | 2 => .int
  | _ => .int
abbrev wsX30 : List Cond := u_ws RX3 TX3 4
theorem nmX3 : ∀ a, a < 4 → ∀ b, b < 4 → a ≠ b → (TX3 a).2.1 ≠ (TX3 b).2.1 := by decide +kernel
theorem tyX3_ok : ∀ k, k < 4 → parseFieldDescriptor (TX3 k).2.2.1 = some (tyX3 k) := by decide +kernel
abbrev cX3_init : ByteArray := prog_5_method_1_code
def yX3_init : MethodName := ⟨RX3, "<init>", "()V"⟩
abbrev cX3_planRoute : ByteArray := prog_5_method_2_code
def yX3_planRoute : MethodName := ⟨RX3, "planRoute", "(LZipCanopy$Layout;)V"⟩
def RX4 : String := "ZipCanopy$Route"
def TX4 : u_T := fun k => match k with
  | 0 => ("ZipCanopy$Route", "lines", "[I", true)
  | _ => ("ZipCanopy$Route", "first", "[I", true)
def tyX4 : Nat → FieldType := fun k => match k with
  | 0 => .array .int
  | _ => .array .int
abbrev wsX40 : List Cond := u_ws RX4 TX4 2
theorem nmX4 : ∀ a, a < 2 → ∀ b, b < 2 → a ≠ b → (TX4 a).2.1 ≠ (TX4 b).2.1 := by decide +kernel
theorem tyX4_ok : ∀ k, k < 2 → parseFieldDescriptor (TX4 k).2.2.1 = some (tyX4 k) := by decide +kernel
abbrev cX4_init : ByteArray := prog_6_method_1_code
def yX4_init : MethodName := ⟨RX4, "<init>", "()V"⟩
abbrev cX4_plan : ByteArray := prog_6_method_2_code
def yX4_plan : MethodName := ⟨RX4, "plan", "(LZipCanopy$Layout;II)V"⟩
abbrev cX4_extend : ByteArray := prog_6_method_3_code
def yX4_extend : MethodName := ⟨RX4, "extend", "(LZipCanopy$Line;III)V"⟩
abbrev cX4_linesFrom : ByteArray := prog_6_method_4_code
def yX4_linesFrom : MethodName := ⟨RX4, "linesFrom", "(I)I"⟩
abbrev cX4_firstFrom : ByteArray := prog_6_method_5_code
def yX4_firstFrom : MethodName := ⟨RX4, "firstFrom", "(I)I"⟩
def RX5 : String := "ZipCanopy$Traffic"
def TX5 : u_T := fun k => match k with
  | 0 => ("ZipCanopy$Traffic", "layout", "LZipCanopy$Layout;", true)
  | 1 => ("ZipCanopy$Traffic", "trips", "[LZipCanopy$Trip;", true)
  | 2 => ("ZipCanopy$Traffic", "trolleys", "[LZipCanopy$Trolleys;", true)
  | 3 => ("ZipCanopy$Traffic", "waiting", "[I", true)
  | 4 => ("ZipCanopy$Traffic", "waitingCount", "I", false)
  | _ => ("ZipCanopy$Traffic", "minute", "I", false)
def tyX5 : Nat → FieldType := fun k => match k with
  | 0 => .object "ZipCanopy$Layout"
  | 1 => .array (.object "ZipCanopy$Trip")
  | 2 => .array (.object "ZipCanopy$Trolleys")
  | 3 => .array .int
  | 4 => .int
  | _ => .int
abbrev wsX50 : List Cond := u_ws RX5 TX5 6
theorem nmX5 : ∀ a, a < 6 → ∀ b, b < 6 → a ≠ b → (TX5 a).2.1 ≠ (TX5 b).2.1 := by decide +kernel
theorem tyX5_ok : ∀ k, k < 6 → parseFieldDescriptor (TX5 k).2.2.1 = some (tyX5 k) := by decide +kernel
abbrev cX5_init : ByteArray := prog_7_method_1_code
def yX5_init : MethodName := ⟨RX5, "<init>", "(LZipCanopy$Layout;)V"⟩
abbrev cX5_copyFrom : ByteArray := prog_7_method_2_code
def yX5_copyFrom : MethodName := ⟨RX5, "copyFrom", "(LZipCanopy$Traffic;)V"⟩
abbrev cX5_addTrolleys : ByteArray := prog_7_method_3_code
def yX5_addTrolleys : MethodName := ⟨RX5, "addTrolleys", "(II)V"⟩
abbrev cX5_reach : ByteArray := prog_7_method_4_code
def yX5_reach : MethodName := ⟨RX5, "reach", "(II)V"⟩
abbrev cX5_goOn : ByteArray := prog_7_method_5_code
def yX5_goOn : MethodName := ⟨RX5, "goOn", "(I)I"⟩
abbrev cX5_passMinute : ByteArray := prog_7_method_6_code
def yX5_passMinute : MethodName := ⟨RX5, "passMinute", "()V"⟩
abbrev cX5_moveTrolleys : ByteArray := prog_7_method_7_code
def yX5_moveTrolleys : MethodName := ⟨RX5, "moveTrolleys", "(LZipCanopy$Line;LZipCanopy$Trolleys;)V"⟩
abbrev cX5_beginRide : ByteArray := prog_7_method_8_code
def yX5_beginRide : MethodName := ⟨RX5, "beginRide", "(LZipCanopy$Line;I)V"⟩
abbrev cX5_firstWaitingFor : ByteArray := prog_7_method_9_code
def yX5_firstWaitingFor : MethodName := ⟨RX5, "firstWaitingFor", "(I)I"⟩
abbrev cX5_leaveWaiting : ByteArray := prog_7_method_10_code
def yX5_leaveWaiting : MethodName := ⟨RX5, "leaveWaiting", "(I)V"⟩
abbrev cX5_tireWaiting : ByteArray := prog_7_method_11_code
def yX5_tireWaiting : MethodName := ⟨RX5, "tireWaiting", "()V"⟩
abbrev cX5_givesUp : ByteArray := prog_7_method_12_code
def yX5_givesUp : MethodName := ⟨RX5, "givesUp", "(LZipCanopy$Rider;LZipCanopy$Trip;)Z"⟩
abbrev cX5_queueLength : ByteArray := prog_7_method_13_code
def yX5_queueLength : MethodName := ⟨RX5, "queueLength", "(I)I"⟩
abbrev cX5_inQueue : ByteArray := prog_7_method_14_code
def yX5_inQueue : MethodName := ⟨RX5, "inQueue", "(II)I"⟩
abbrev cX5_arrivedAt : ByteArray := prog_7_method_15_code
def yX5_arrivedAt : MethodName := ⟨RX5, "arrivedAt", "(I)I"⟩
abbrev cX5_ridersIn : ByteArray := prog_7_method_16_code
def yX5_ridersIn : MethodName := ⟨RX5, "ridersIn", "(I)I"⟩
abbrev cX5_trolleysInAll : ByteArray := prog_7_method_17_code
def yX5_trolleysInAll : MethodName := ⟨RX5, "trolleysInAll", "()I"⟩
abbrev cX5_ridesInAll : ByteArray := prog_7_method_18_code
def yX5_ridesInAll : MethodName := ⟨RX5, "ridesInAll", "()I"⟩
def RX6 : String := "ZipCanopy$Trip"
def TX6 : u_T := fun k => match k with
  | 0 => ("ZipCanopy$Trip", "state", "I", false)
  | 1 => ("ZipCanopy$Trip", "platform", "I", false)
  | 2 => ("ZipCanopy$Trip", "line", "I", false)
  | 3 => ("ZipCanopy$Trip", "minutes", "I", false)
  | 4 => ("ZipCanopy$Trip", "taken", "I", false)
  | _ => ("ZipCanopy$Trip", "arrival", "I", false)
def tyX6 : Nat → FieldType := fun k => match k with
  | 0 => .int
  | 1 => .int
  | 2 => .int
  | 3 => .int
  | 4 => .int
  | _ => .int
abbrev wsX60 : List Cond := u_ws RX6 TX6 6
theorem nmX6 : ∀ a, a < 6 → ∀ b, b < 6 → a ≠ b → (TX6 a).2.1 ≠ (TX6 b).2.1 := by decide +kernel
theorem tyX6_ok : ∀ k, k < 6 → parseFieldDescriptor (TX6 k).2.2.1 = some (tyX6 k) := by decide +kernel
abbrev cX6_init : ByteArray := prog_8_method_1_code
def yX6_init : MethodName := ⟨RX6, "<init>", "()V"⟩
abbrev cX6_copyFrom : ByteArray := prog_8_method_2_code
def yX6_copyFrom : MethodName := ⟨RX6, "copyFrom", "(LZipCanopy$Trip;)V"⟩
abbrev cX6_isUnderWay : ByteArray := prog_8_method_3_code
def yX6_isUnderWay : MethodName := ⟨RX6, "isUnderWay", "()Z"⟩
abbrev cX6_beginWait : ByteArray := prog_8_method_4_code
def yX6_beginWait : MethodName := ⟨RX6, "beginWait", "(I)V"⟩
abbrev cX6_beginRide : ByteArray := prog_8_method_5_code
def yX6_beginRide : MethodName := ⟨RX6, "beginRide", "(II)V"⟩
abbrev cX6_arrive : ByteArray := prog_8_method_6_code
def yX6_arrive : MethodName := ⟨RX6, "arrive", "(II)V"⟩
abbrev cX6_giveUp : ByteArray := prog_8_method_7_code
def yX6_giveUp : MethodName := ⟨RX6, "giveUp", "()V"⟩
def RX7 : String := "ZipCanopy$Trolleys"
def TX7 : u_T := fun k => match k with
  | 0 => ("ZipCanopy$Trolleys", "atTop", "I", false)
  | 1 => ("ZipCanopy$Trolleys", "away", "I", false)
  | 2 => ("ZipCanopy$Trolleys", "riders", "[I", true)
  | 3 => ("ZipCanopy$Trolleys", "minutesLeft", "[I", true)
  | 4 => ("ZipCanopy$Trolleys", "rides", "I", false)
  | _ => ("ZipCanopy$Trolleys", "stuck", "I", false)
def tyX7 : Nat → FieldType := fun k => match k with
  | 0 => .int
  | 1 => .int
  | 2 => .array .int
  | 3 => .array .int
  | 4 => .int
  | _ => .int
abbrev wsX70 : List Cond := u_ws RX7 TX7 6
theorem nmX7 : ∀ a, a < 6 → ∀ b, b < 6 → a ≠ b → (TX7 a).2.1 ≠ (TX7 b).2.1 := by decide +kernel
theorem tyX7_ok : ∀ k, k < 6 → parseFieldDescriptor (TX7 k).2.2.1 = some (tyX7 k) := by decide +kernel
abbrev cX7_init : ByteArray := prog_9_method_1_code
def yX7_init : MethodName := ⟨RX7, "<init>", "()V"⟩
abbrev cX7_copyFrom : ByteArray := prog_9_method_2_code
def yX7_copyFrom : MethodName := ⟨RX7, "copyFrom", "(LZipCanopy$Trolleys;)V"⟩
abbrev cX7_inAll : ByteArray := prog_9_method_3_code
def yX7_inAll : MethodName := ⟨RX7, "inAll", "()I"⟩
abbrev cX7_ridden : ByteArray := prog_9_method_4_code
def yX7_ridden : MethodName := ⟨RX7, "ridden", "()I"⟩
abbrev cX7_canLeaveTop : ByteArray := prog_9_method_5_code
def yX7_canLeaveTop : MethodName := ⟨RX7, "canLeaveTop", "()Z"⟩
abbrev cX7_leaveTop : ByteArray := prog_9_method_6_code
def yX7_leaveTop : MethodName := ⟨RX7, "leaveTop", "(II)V"⟩
abbrev cX7_beginPull : ByteArray := prog_9_method_7_code
def yX7_beginPull : MethodName := ⟨RX7, "beginPull", "(II)V"⟩
abbrev cX7_dropPulled : ByteArray := prog_9_method_8_code
def yX7_dropPulled : MethodName := ⟨RX7, "dropPulled", "()V"⟩
def RX8 : String := "ZipCanopy"
def TX8 : u_T := fun k => match k with
  | 0 => ("ZipCanopy", "layout", "LZipCanopy$Layout;", true)
  | 1 => ("ZipCanopy", "now", "LZipCanopy$Traffic;", true)
  | 2 => ("ZipCanopy", "ahead", "LZipCanopy$Traffic;", true)
  | _ => ("ZipCanopy", "asked", "LZipCanopy$Route;", true)
def tyX8 : Nat → FieldType := fun k => match k with
  | 0 => .object "ZipCanopy$Layout"
  | 1 => .object "ZipCanopy$Traffic"
  | 2 => .object "ZipCanopy$Traffic"
  | _ => .object "ZipCanopy$Route"
abbrev wsX80 : List Cond := u_ws RX8 TX8 4
theorem nmX8 : ∀ a, a < 4 → ∀ b, b < 4 → a ≠ b → (TX8 a).2.1 ≠ (TX8 b).2.1 := by decide +kernel
theorem tyX8_ok : ∀ k, k < 4 → parseFieldDescriptor (TX8 k).2.2.1 = some (tyX8 k) := by decide +kernel
abbrev cX8_init : ByteArray := prog_1_method_1_code
def yX8_init : MethodName := ⟨RX8, "<init>", "()V"⟩
abbrev cX8_build : ByteArray := prog_1_method_2_code
def yX8_build : MethodName := ⟨RX8, "build", "(III)I"⟩
abbrev cX8_span : ByteArray := prog_1_method_3_code
def yX8_span : MethodName := ⟨RX8, "span", "(IIII)I"⟩
abbrev cX8_add : ByteArray := prog_1_method_4_code
def yX8_add : MethodName := ⟨RX8, "add", "(I)I"⟩
abbrev cX8_setWind : ByteArray := prog_1_method_5_code
def yX8_setWind : MethodName := ⟨RX8, "setWind", "(II)I"⟩
abbrev cX8_platform : ByteArray := prog_1_method_6_code
def yX8_platform : MethodName := ⟨RX8, "platform", "(II)I"⟩
abbrev cX8_line : ByteArray := prog_1_method_7_code
def yX8_line : MethodName := ⟨RX8, "line", "(II)I"⟩
abbrev cX8_ride : ByteArray := prog_1_method_8_code
def yX8_ride : MethodName := ⟨RX8, "ride", "(II)I"⟩
abbrev cX8_come : ByteArray := prog_1_method_9_code
def yX8_come : MethodName := ⟨RX8, "come", "(IIII)I"⟩
abbrev cX8_rider : ByteArray := prog_1_method_10_code
def yX8_rider : MethodName := ⟨RX8, "rider", "(II)I"⟩
abbrev cX8_queue : ByteArray := prog_1_method_11_code
def yX8_queue : MethodName := ⟨RX8, "queue", "(II)I"⟩
abbrev cX8_pass : ByteArray := prog_1_method_12_code
def yX8_pass : MethodName := ⟨RX8, "pass", "(I)I"⟩
abbrev cX8_count : ByteArray := prog_1_method_13_code
def yX8_count : MethodName := ⟨RX8, "count", "(I)I"⟩
abbrev cX8_way : ByteArray := prog_1_method_14_code
def yX8_way : MethodName := ⟨RX8, "way", "(III)I"⟩
abbrev cX8_arrives : ByteArray := prog_1_method_15_code
def yX8_arrives : MethodName := ⟨RX8, "arrives", "(I)I"⟩
abbrev cX8_advise : ByteArray := prog_1_method_16_code
def yX8_advise : MethodName := ⟨RX8, "advise", "(I)I"⟩
abbrev cX8_mean : ByteArray := prog_1_method_17_code
def yX8_mean : MethodName := ⟨RX8, "mean", "()D"⟩
abbrev cX8_digest : ByteArray := prog_1_method_18_code
def yX8_digest : MethodName := ⟨RX8, "digest", "()J"⟩
abbrev cX8_within : ByteArray := prog_1_method_19_code
def yX8_within : MethodName := ⟨RX8, "within", "(III)Z"⟩
abbrev cX8_isWeight : ByteArray := prog_1_method_20_code
def yX8_isWeight : MethodName := ⟨RX8, "isWeight", "(I)Z"⟩
abbrev cX8_isPlatform : ByteArray := prog_1_method_21_code
def yX8_isPlatform : MethodName := ⟨RX8, "isPlatform", "(I)Z"⟩
abbrev cX8_isLine : ByteArray := prog_1_method_22_code
def yX8_isLine : MethodName := ⟨RX8, "isLine", "(I)Z"⟩
abbrev cX8_isRider : ByteArray := prog_1_method_23_code
def yX8_isRider : MethodName := ⟨RX8, "isRider", "(I)Z"⟩
abbrev cX8_arrivalsWithOneMore : ByteArray := prog_1_method_24_code
def yX8_arrivalsWithOneMore : MethodName := ⟨RX8, "arrivalsWithOneMore", "(II)I"⟩
abbrev cX8_digestPlatform : ByteArray := prog_1_method_25_code
def yX8_digestPlatform : MethodName := ⟨RX8, "digestPlatform", "(JI)J"⟩
abbrev cX8_platformFact : ByteArray := prog_1_method_26_code
def yX8_platformFact : MethodName := ⟨RX8, "platformFact", "(II)I"⟩
abbrev cX8_lineFact : ByteArray := prog_1_method_27_code
def yX8_lineFact : MethodName := ⟨RX8, "lineFact", "(II)I"⟩
abbrev cX8_riderFact : ByteArray := prog_1_method_28_code
def yX8_riderFact : MethodName := ⟨RX8, "riderFact", "(II)I"⟩
abbrev cX8_countFact : ByteArray := prog_1_method_29_code
def yX8_countFact : MethodName := ⟨RX8, "countFact", "(I)I"⟩
def RX9 : String := "ZipCanopyModel$State"
def TX9 : u_T := fun k => match k with
  | 0 => ("ZipCanopyModel$State", "minute", "I", false)
  | 1 => ("ZipCanopyModel$State", "trolleys", "[I", true)
  | 2 => ("ZipCanopyModel$State", "out", "[I", true)
  | 3 => ("ZipCanopyModel$State", "with", "[I", true)
  | 4 => ("ZipCanopyModel$State", "left", "[I", true)
  | 5 => ("ZipCanopyModel$State", "rides", "[I", true)
  | 6 => ("ZipCanopyModel$State", "stuck", "[I", true)
  | 7 => ("ZipCanopyModel$State", "size", "[I", true)
  | 8 => ("ZipCanopyModel$State", "queue", "[I", true)
  | 9 => ("ZipCanopyModel$State", "is", "[I", true)
  | 10 => ("ZipCanopyModel$State", "at", "[I", true)
  | 11 => ("ZipCanopyModel$State", "waited", "[I", true)
  | 12 => ("ZipCanopyModel$State", "taken", "[I", true)
  | 13 => ("ZipCanopyModel$State", "arrival", "[I", true)
  | _ => ("ZipCanopyModel$State", "this$0", "LZipCanopyModel;", true)
def tyX9 : Nat → FieldType := fun k => match k with
  | 0 => .int
  | 1 => .array .int
  | 2 => .array .int
  | 3 => .array .int
  | 4 => .array .int
  | 5 => .array .int
  | 6 => .array .int
  | 7 => .array .int
  | 8 => .array .int
  | 9 => .array .int
  | 10 => .array .int
  | 11 => .array .int
  | 12 => .array .int
  | 13 => .array .int
  | _ => .object "ZipCanopyModel"
abbrev wsX90 : List Cond := u_ws RX9 TX9 15
theorem nmX9 : ∀ a, a < 15 → ∀ b, b < 15 → a ≠ b → (TX9 a).2.1 ≠ (TX9 b).2.1 := by decide +kernel
theorem tyX9_ok : ∀ k, k < 15 → parseFieldDescriptor (TX9 k).2.2.1 = some (tyX9 k) := by decide +kernel
abbrev cX9_init : ByteArray := prog_12_method_1_code
def yX9_init : MethodName := ⟨RX9, "<init>", "(LZipCanopyModel;)V"⟩
abbrev cX9_copy : ByteArray := prog_12_method_2_code
def yX9_copy : MethodName := ⟨RX9, "copy", "([I[I)V"⟩
abbrev cX9_become : ByteArray := prog_12_method_3_code
def yX9_become : MethodName := ⟨RX9, "become", "(LZipCanopyModel$State;)V"⟩
abbrev cX9_many : ByteArray := prog_12_method_4_code
def yX9_many : MethodName := ⟨RX9, "many", "(I)I"⟩
abbrev cX9_come : ByteArray := prog_12_method_5_code
def yX9_come : MethodName := ⟨RX9, "come", "(II)V"⟩
abbrev cX9_strike : ByteArray := prog_12_method_6_code
def yX9_strike : MethodName := ⟨RX9, "strike", "(I)V"⟩
abbrev cX9_pass : ByteArray := prog_12_method_7_code
def yX9_pass : MethodName := ⟨RX9, "pass", "()I"⟩
abbrev cX9_roll : ByteArray := prog_12_method_8_code
def yX9_roll : MethodName := ⟨RX9, "roll", "(I)V"⟩
abbrev cX9_begin : ByteArray := prog_12_method_9_code
def yX9_begin : MethodName := ⟨RX9, "begin", "(I)V"⟩
abbrev cX9_leftOf : ByteArray := prog_12_method_10_code
def yX9_leftOf : MethodName := ⟨RX9, "leftOf", "(I)I"⟩
abbrev cX9_riding : ByteArray := prog_12_method_11_code
def yX9_riding : MethodName := ⟨RX9, "riding", "(I)I"⟩
def RX10 : String := "ZipCanopyModel"
def TX10 : u_T := fun k => match k with
  | 0 => ("ZipCanopyModel", "thrown", "I", false)
  | 1 => ("ZipCanopyModel", "platforms", "I", false)
  | 2 => ("ZipCanopyModel", "x", "[I", true)
  | 3 => ("ZipCanopyModel", "y", "[I", true)
  | 4 => ("ZipCanopyModel", "height", "[I", true)
  | 5 => ("ZipCanopyModel", "lines", "I", false)
  | 6 => ("ZipCanopyModel", "top", "[I", true)
  | 7 => ("ZipCanopyModel", "bottom", "[I", true)
  | 8 => ("ZipCanopyModel", "most", "[I", true)
  | 9 => ("ZipCanopyModel", "wind", "[I", true)
  | 10 => ("ZipCanopyModel", "riders", "I", false)
  | 11 => ("ZipCanopyModel", "weight", "[I", true)
  | 12 => ("ZipCanopyModel", "patience", "[I", true)
  | 13 => ("ZipCanopyModel", "goal", "[I", true)
  | 14 => ("ZipCanopyModel", "s", "LZipCanopyModel$State;", true)
  | _ => ("ZipCanopyModel", "ahead", "LZipCanopyModel$State;", true)
def tyX10 : Nat → FieldType := fun k => match k with
  | 0 => .int
  | 1 => .int
  | 2 => .array .int
  | 3 => .array .int
  | 4 => .array .int
  | 5 => .int
  | 6 => .array .int
  | 7 => .array .int
  | 8 => .array .int
  | 9 => .array .int
  | 10 => .int
  | 11 => .array .int
  | 12 => .array .int
  | 13 => .array .int
  | 14 => .object "ZipCanopyModel$State"
  | _ => .object "ZipCanopyModel$State"
abbrev wsX100 : List Cond := u_ws RX10 TX10 16
theorem nmX10 : ∀ a, a < 16 → ∀ b, b < 16 → a ≠ b → (TX10 a).2.1 ≠ (TX10 b).2.1 := by decide +kernel
theorem tyX10_ok : ∀ k, k < 16 → parseFieldDescriptor (TX10 k).2.2.1 = some (tyX10 k) := by decide +kernel
abbrev cX10_init : ByteArray := prog_11_method_1_code
def yX10_init : MethodName := ⟨RX10, "<init>", "()V"⟩
abbrev cX10_thrown : ByteArray := prog_11_method_2_code
def yX10_thrown : MethodName := ⟨RX10, "thrown", "()I"⟩
abbrev cX10_no : ByteArray := prog_11_method_3_code
def yX10_no : MethodName := ⟨RX10, "no", "(I)I"⟩
abbrev cX10_isIn : ByteArray := prog_11_method_4_code
def yX10_isIn : MethodName := ⟨RX10, "isIn", "(III)Z"⟩
abbrev cX10_isPlatform : ByteArray := prog_11_method_5_code
def yX10_isPlatform : MethodName := ⟨RX10, "isPlatform", "(I)Z"⟩
abbrev cX10_isLine : ByteArray := prog_11_method_6_code
def yX10_isLine : MethodName := ⟨RX10, "isLine", "(I)Z"⟩
abbrev cX10_lengthOf : ByteArray := prog_11_method_7_code
def yX10_lengthOf : MethodName := ⟨RX10, "lengthOf", "(I)I"⟩
abbrev cX10_dropOf : ByteArray := prog_11_method_8_code
def yX10_dropOf : MethodName := ⟨RX10, "dropOf", "(I)I"⟩
abbrev cX10_isClosed : ByteArray := prog_11_method_9_code
def yX10_isClosed : MethodName := ⟨RX10, "isClosed", "(II)Z"⟩
abbrev cX10_rideOf : ByteArray := prog_11_method_10_code
def yX10_rideOf : MethodName := ⟨RX10, "rideOf", "(II)I"⟩
abbrev cX10_fewest : ByteArray := prog_11_method_11_code
def yX10_fewest : MethodName := ⟨RX10, "fewest", "(III)I"⟩
abbrev cX10_first : ByteArray := prog_11_method_12_code
def yX10_first : MethodName := ⟨RX10, "first", "(III)I"⟩
abbrev cX10_build : ByteArray := prog_11_method_13_code
def yX10_build : MethodName := ⟨RX10, "build", "(III)I"⟩
abbrev cX10_span : ByteArray := prog_11_method_14_code
def yX10_span : MethodName := ⟨RX10, "span", "(IIII)I"⟩
abbrev cX10_add : ByteArray := prog_11_method_15_code
def yX10_add : MethodName := ⟨RX10, "add", "(I)I"⟩
abbrev cX10_setWind : ByteArray := prog_11_method_16_code
def yX10_setWind : MethodName := ⟨RX10, "setWind", "(II)I"⟩
abbrev cX10_platformTold : ByteArray := prog_11_method_17_code
def yX10_platformTold : MethodName := ⟨RX10, "platformTold", "(II)I"⟩
abbrev cX10_platform : ByteArray := prog_11_method_18_code
def yX10_platform : MethodName := ⟨RX10, "platform", "(II)I"⟩
abbrev cX10_lineTold : ByteArray := prog_11_method_19_code
def yX10_lineTold : MethodName := ⟨RX10, "lineTold", "(II)I"⟩
abbrev cX10_line : ByteArray := prog_11_method_20_code
def yX10_line : MethodName := ⟨RX10, "line", "(II)I"⟩
abbrev cX10_ride : ByteArray := prog_11_method_21_code
def yX10_ride : MethodName := ⟨RX10, "ride", "(II)I"⟩
abbrev cX10_come : ByteArray := prog_11_method_22_code
def yX10_come : MethodName := ⟨RX10, "come", "(IIII)I"⟩
abbrev cX10_riderTold : ByteArray := prog_11_method_23_code
def yX10_riderTold : MethodName := ⟨RX10, "riderTold", "(II)I"⟩
abbrev cX10_rider : ByteArray := prog_11_method_24_code
def yX10_rider : MethodName := ⟨RX10, "rider", "(II)I"⟩
abbrev cX10_queue : ByteArray := prog_11_method_25_code
def yX10_queue : MethodName := ⟨RX10, "queue", "(II)I"⟩
abbrev cX10_pass : ByteArray := prog_11_method_26_code
def yX10_pass : MethodName := ⟨RX10, "pass", "(I)I"⟩
abbrev cX10_counted : ByteArray := prog_11_method_27_code
def yX10_counted : MethodName := ⟨RX10, "counted", "(I)I"⟩
abbrev cX10_count : ByteArray := prog_11_method_28_code
def yX10_count : MethodName := ⟨RX10, "count", "(I)I"⟩
abbrev cX10_way : ByteArray := prog_11_method_29_code
def yX10_way : MethodName := ⟨RX10, "way", "(III)I"⟩
abbrev cX10_arrives : ByteArray := prog_11_method_30_code
def yX10_arrives : MethodName := ⟨RX10, "arrives", "(I)I"⟩
abbrev cX10_arrivedIn : ByteArray := prog_11_method_31_code
def yX10_arrivedIn : MethodName := ⟨RX10, "arrivedIn", "(I)I"⟩
abbrev cX10_advise : ByteArray := prog_11_method_32_code
def yX10_advise : MethodName := ⟨RX10, "advise", "(I)I"⟩
abbrev cX10_mean : ByteArray := prog_11_method_33_code
def yX10_mean : MethodName := ⟨RX10, "mean", "()D"⟩
abbrev cX10_digest : ByteArray := prog_11_method_34_code
def yX10_digest : MethodName := ⟨RX10, "digest", "()J"⟩
def RJ9 : String := "java/lang/Math"
def TJ9 : u_T := fun k => match k with
  | _ => ("", "", "", false)
def tyJ9 : Nat → FieldType := fun k => match k with
  | _ => .int
abbrev wsJ90 : List Cond := u_ws RJ9 TJ9 0
theorem nmJ9 : ∀ a, a < 0 → ∀ b, b < 0 → a ≠ b → (TJ9 a).2.1 ≠ (TJ9 b).2.1 := by decide +kernel
theorem tyJ9_ok : ∀ k, k < 0 → parseFieldDescriptor (TJ9 k).2.2.1 = some (tyJ9 k) := by decide +kernel
abbrev cJ9_floorMod_7cf53 : ByteArray := prog_17_method_50_code
def yJ9_floorMod_7cf53 : MethodName := ⟨RJ9, "floorMod", "(II)I"⟩
abbrev cJ9_abs_0f7a4 : ByteArray := prog_17_method_59_code
def yJ9_abs_0f7a4 : MethodName := ⟨RJ9, "abs", "(I)I"⟩
abbrev cJ9_max_7cf53 : ByteArray := prog_17_method_65_code
def yJ9_max_7cf53 : MethodName := ⟨RJ9, "max", "(II)I"⟩
def RJ0 : String := "java/lang/String"
def TJ0 : u_T := fun k => match k with
  | _ => ("", "", "", false)
def tyJ0 : Nat → FieldType := fun k => match k with
  | _ => .int
abbrev wsJ00 : List Cond := u_ws RJ0 TJ0 0
theorem nmJ0 : ∀ a, a < 0 → ∀ b, b < 0 → a ≠ b → (TJ0 a).2.1 ≠ (TJ0 b).2.1 := by decide +kernel
theorem tyJ0_ok : ∀ k, k < 0 → parseFieldDescriptor (TJ0 k).2.2.1 = some (tyJ0 k) := by decide +kernel
def RJ10 : String := "java/lang/System"
def TJ10 : u_T := fun k => match k with
  | _ => ("", "", "", false)
def tyJ10 : Nat → FieldType := fun k => match k with
  | _ => .int
abbrev wsJ100 : List Cond := u_ws RJ10 TJ10 0
theorem nmJ10 : ∀ a, a < 0 → ∀ b, b < 0 → a ≠ b → (TJ10 a).2.1 ≠ (TJ10 b).2.1 := by decide +kernel
theorem tyJ10_ok : ∀ k, k < 0 → parseFieldDescriptor (TJ10 k).2.2.1 = some (tyJ10 k) := by decide +kernel
def RL : String := "ZipCanopyLaw"
abbrev cL_build : ByteArray := method_3_code
def yL_build : MethodName := ⟨RL, "build", "(LZipCanopy;III[J)I"⟩
abbrev cL_span : ByteArray := method_4_code
def yL_span : MethodName := ⟨RL, "span", "(LZipCanopy;IIII[J)I"⟩
abbrev cL_add : ByteArray := method_5_code
def yL_add : MethodName := ⟨RL, "add", "(LZipCanopy;I[J)I"⟩
abbrev cL_setWind : ByteArray := method_6_code
def yL_setWind : MethodName := ⟨RL, "setWind", "(LZipCanopy;II[J)I"⟩
abbrev cL_platform : ByteArray := method_7_code
def yL_platform : MethodName := ⟨RL, "platform", "(LZipCanopy;II[J)I"⟩
abbrev cL_line : ByteArray := method_8_code
def yL_line : MethodName := ⟨RL, "line", "(LZipCanopy;II[J)I"⟩
abbrev cL_ride : ByteArray := method_9_code
def yL_ride : MethodName := ⟨RL, "ride", "(LZipCanopy;II[J)I"⟩
abbrev cL_come : ByteArray := method_10_code
def yL_come : MethodName := ⟨RL, "come", "(LZipCanopy;IIII[J)I"⟩
abbrev cL_rider : ByteArray := method_11_code
def yL_rider : MethodName := ⟨RL, "rider", "(LZipCanopy;II[J)I"⟩
abbrev cL_queue : ByteArray := method_12_code
def yL_queue : MethodName := ⟨RL, "queue", "(LZipCanopy;II[J)I"⟩
abbrev cL_pass : ByteArray := method_13_code
def yL_pass : MethodName := ⟨RL, "pass", "(LZipCanopy;I[J)I"⟩
abbrev cL_count : ByteArray := method_14_code
def yL_count : MethodName := ⟨RL, "count", "(LZipCanopy;I[J)I"⟩
abbrev cL_way : ByteArray := method_15_code
def yL_way : MethodName := ⟨RL, "way", "(LZipCanopy;III[J)I"⟩
abbrev cL_arrives : ByteArray := method_16_code
def yL_arrives : MethodName := ⟨RL, "arrives", "(LZipCanopy;I[J)I"⟩
abbrev cL_advise : ByteArray := method_17_code
def yL_advise : MethodName := ⟨RL, "advise", "(LZipCanopy;I[J)I"⟩
abbrev cL_law : ByteArray := code
def yL_law : MethodName := ⟨RL, "law", "([I)Z"⟩
abbrev vwCl : List vw_C := [(RX0, TX0, 7), (RX1, TX1, 5), (RX2, TX2, 3), (RX3, TX3, 4), (RX4, TX4, 2), (RX5, TX5, 6), (RX6, TX6, 6), (RX7, TX7, 6), (RX8, TX8, 4), (RX9, TX9, 15), (RX10, TX10, 16)]
end
section
/-! the words that every method of this claim is given: the good ones of the tables; the nest mates' words beside them -/
def zbig : List Cond := lw_tbl.filter goodWord
theorem zgood : ∀ w ∈ zbig, goodWord w = true := fun w h => (List.mem_filter.mp h).2
theorem zbig_in : ∀ w ∈ zbig, w ∈ lw_tbl := fun w h => (List.mem_filter.mp h).1
theorem zin {w : Cond} (i : Nat) (h : lw_tbl[i]? = some w) (hg : goodWord w = true) : w ∈ zbig := List.mem_filter.mpr ⟨List.mem_of_getElem? h, hg⟩
theorem zbig_good {ws : List Cond} (h : ∀ w ∈ ws, w ∈ zbig) : GoodIn zbig ws := fun w hw => ⟨h w hw, good_of_word (zgood w (h w hw))⟩
def zisN : Cond → Bool
  | .fieldLinkNest _ _ _ _ _ _ => true
  | .methodLinkNest _ _ _ _ => true
  | _ => false
def znl : List Cond := lw_tbl.filter zisN
theorem znin {w : Cond} (i : Nat) (h : lw_tbl[i]? = some w) (hg : zisN w = true) : w ∈ znl := List.mem_filter.mpr ⟨List.mem_of_getElem? h, hg⟩
theorem znl_moved {s U : State} (hW : s.WarmedH U.vm) (h : ∀ w ∈ znl, va_Nw w s) : ∀ w ∈ znl, va_Nw w U := by
  intro w hw
  have h1 := (List.mem_filter.mp hw).2
  have h2 := h w hw
  cases w <;> first | exact va_Nw.warmF hW h2 | exact va_Nw.warmM hW h2 | exact absurd h1 (by decide) | (simp [zisN] at h1)
theorem znl_same {u U : State} (hv : u.vm = U.vm) (h : ∀ w ∈ znl, va_Nw w u) : ∀ w ∈ znl, va_Nw w U := by
  intro w hw
  have h1 := (List.mem_filter.mp hw).2
  have h2 := h w hw
  cases w <;> first | exact va_Nw.same rfl hv h2 | (simp [zisN] at h1)
theorem znl_start {s : State} {args : Array Value} (h : ∀ w ∈ lw_tbl, w.before args s = true) : ∀ w ∈ znl, va_Nw w s := by
  intro w hw
  have h1 := (List.mem_filter.mp hw).2
  have h2 := h w (List.mem_filter.mp hw).1
  cases w <;> first | exact va_Nw.of rfl h2 | (simp [zisN] at h1)
/-! a field, by its link word: to be read, to be written (an int); the same over a nest mate's word -/
def zF (own : String) (index ci k : Nat) : Prop := ∃ (C : String) (T : u_T) (N : Nat), vwCl[ci]? = some (C, T, N) ∧ k < N ∧ (∀ w ∈ u_ws C T N, w ∈ zbig) ∧ Cond.fieldLink own index (T k).1 (T k).2.1 (T k).2.2.1 ∈ zbig
def zFN (own : String) (index ci k : Nat) : Prop := ∃ (C : String) (T : u_T) (N : Nat) (host : String), vwCl[ci]? = some (C, T, N) ∧ k < N ∧ (∀ w ∈ u_ws C T N, w ∈ zbig) ∧ Cond.fieldLinkNest own index (T k).1 (T k).2.1 (T k).2.2.1 host ∈ znl
def zFw (own : String) (index ci k : Nat) : Prop := ∃ (C : String) (T : u_T) (N : Nat) (ty : Nat → FieldType), vwCl[ci]? = some (C, T, N) ∧ k < N ∧ (∀ w ∈ u_ws C T N, w ∈ zbig) ∧ Cond.fieldLink own index (T k).1 (T k).2.1 (T k).2.2.1 ∈ zbig ∧ (∀ k, k < N → parseFieldDescriptor (T k).2.2.1 = some (ty k)) ∧ (∀ a, a < N → ∀ b, b < N → a ≠ b → (T a).2.1 ≠ (T b).2.1) ∧ (T k).2.2.2 = false ∧ parseFieldDescriptor (T k).2.2.1 = some .int
def zLV (own : String) (index : Nat) (y : MethodName) (bytes : ByteArray) (maxL : Nat) (ret : Option FieldType) (n : Nat) : Prop :=
  (∀ w ∈ ([.methodLink own index y, .instanceMethod y, .selects y.cls y y, .initialized y.cls, .code y bytes maxL ret] : List Cond), w ∈ zbig) ∧ y.cls ≠ "java/lang/invoke/MethodHandle" ∧ y.cls ≠ "java/lang/invoke/VarHandle" ∧ (parseMethodDescriptor y.desc).map (fun d => d.parameters.length) = some n
def zLVN (own : String) (index : Nat) (y : MethodName) (bytes : ByteArray) (maxL : Nat) (ret : Option FieldType) (n : Nat) : Prop :=
  (∃ host : String, Cond.methodLinkNest own index y host ∈ znl) ∧ (∀ w ∈ ([.instanceMethod y, .selects y.cls y y, .initialized y.cls, .code y bytes maxL ret] : List Cond), w ∈ zbig) ∧ y.cls ≠ "java/lang/invoke/MethodHandle" ∧ y.cls ≠ "java/lang/invoke/VarHandle" ∧ (parseMethodDescriptor y.desc).map (fun d => d.parameters.length) = some n
def zLS (own : String) (index : Nat) (y : MethodName) (bytes : ByteArray) (maxL : Nat) (ret : Option FieldType) (n : Nat) : Prop :=
  (∀ w ∈ ([.methodLink own index y, .static y, .initialized y.cls, .code y bytes maxL ret] : List Cond), w ∈ zbig) ∧ y.cls ≠ "java/lang/invoke/MethodHandle" ∧ y.cls ≠ "java/lang/invoke/VarHandle" ∧ (parseMethodDescriptor y.desc).map (fun d => d.parameters.length) = some n
def zLSN (own : String) (index : Nat) (y : MethodName) (bytes : ByteArray) (maxL : Nat) (ret : Option FieldType) (n : Nat) : Prop :=
  (∃ host : String, Cond.methodLinkNest own index y host ∈ znl) ∧ (∀ w ∈ ([.static y, .initialized y.cls, .code y bytes maxL ret] : List Cond), w ∈ zbig) ∧ y.cls ≠ "java/lang/invoke/MethodHandle" ∧ y.cls ≠ "java/lang/invoke/VarHandle" ∧ (parseMethodDescriptor y.desc).map (fun d => d.parameters.length) = some n
def zLI (own : String) (index : Nat) (y : MethodName) (bytes : ByteArray) (maxL : Nat) (n : Nat) : Prop :=
  (∀ w ∈ ([.methodLink own index y, .instanceMethod y, .initialized y.cls, .code y bytes maxL none] : List Cond), w ∈ zbig) ∧ y.name = "<init>" ∧ y.cls ≠ "java/lang/invoke/MethodHandle" ∧ y.cls ≠ "java/lang/invoke/VarHandle" ∧ (parseMethodDescriptor y.desc).map (fun d => d.parameters.length) = some n
def zLIN (own : String) (index : Nat) (y : MethodName) (bytes : ByteArray) (maxL : Nat) (n : Nat) : Prop :=
  (∃ host : String, Cond.methodLinkNest own index y host ∈ znl) ∧ (∀ w ∈ ([.instanceMethod y, .initialized y.cls, .code y bytes maxL none] : List Cond), w ∈ zbig) ∧ y.name = "<init>" ∧ y.cls ≠ "java/lang/invoke/MethodHandle" ∧ y.cls ≠ "java/lang/invoke/VarHandle" ∧ (parseMethodDescriptor y.desc).map (fun d => d.parameters.length) = some n
theorem zc1 {P : Cond → Prop} {a : Cond} {l : List Cond} (h : P a) (t : ∀ w ∈ l, P w) : ∀ w ∈ a :: l, P w := List.forall_mem_cons.mpr ⟨h, t⟩
theorem zc0 {P : Cond → Prop} : ∀ w ∈ ([] : List Cond), P w := fun _ h => absurd h List.not_mem_nil
theorem zwX0 : ∀ w ∈ u_ws RX0 TX0 7, w ∈ zbig := by
  show ∀ w ∈ [u_lay RX0 TX0 0, u_lay RX0 TX0 1, u_lay RX0 TX0 2, u_lay RX0 TX0 3, u_lay RX0 TX0 4, u_lay RX0 TX0 5, u_lay RX0 TX0 6], w ∈ zbig
  exact zc1 (zin 189 (by decide +kernel) rfl) (zc1 (zin 191 (by decide +kernel) rfl) (zc1 (zin 193 (by decide +kernel) rfl) (zc1 (zin 195 (by decide +kernel) rfl) (zc1 (zin 197 (by decide +kernel) rfl) (zc1 (zin 199 (by decide +kernel) rfl) (zc1 (zin 201 (by decide +kernel) rfl) zc0))))))
theorem zwX1 : ∀ w ∈ u_ws RX1 TX1 5, w ∈ zbig := by
  show ∀ w ∈ [u_lay RX1 TX1 0, u_lay RX1 TX1 1, u_lay RX1 TX1 2, u_lay RX1 TX1 3, u_lay RX1 TX1 4], w ∈ zbig
  exact zc1 (zin 116 (by decide +kernel) rfl) (zc1 (zin 118 (by decide +kernel) rfl) (zc1 (zin 120 (by decide +kernel) rfl) (zc1 (zin 122 (by decide +kernel) rfl) (zc1 (zin 124 (by decide +kernel) rfl) zc0))))
theorem zwX2 : ∀ w ∈ u_ws RX2 TX2 3, w ∈ zbig := by
  show ∀ w ∈ [u_lay RX2 TX2 0, u_lay RX2 TX2 1, u_lay RX2 TX2 2], w ∈ zbig
  exact zc1 (zin 87 (by decide +kernel) rfl) (zc1 (zin 89 (by decide +kernel) rfl) (zc1 (zin 91 (by decide +kernel) rfl) zc0))
theorem zwX3 : ∀ w ∈ u_ws RX3 TX3 4, w ∈ zbig := by
  show ∀ w ∈ [u_lay RX3 TX3 0, u_lay RX3 TX3 1, u_lay RX3 TX3 2, u_lay RX3 TX3 3], w ∈ zbig
  exact zc1 (zin 159 (by decide +kernel) rfl) (zc1 (zin 161 (by decide +kernel) rfl) (zc1 (zin 163 (by decide +kernel) rfl) (zc1 (zin 165 (by decide +kernel) rfl) zc0)))
theorem zwX4 : ∀ w ∈ u_ws RX4 TX4 2, w ∈ zbig := by
  show ∀ w ∈ [u_lay RX4 TX4 0, u_lay RX4 TX4 1], w ∈ zbig
  exact zc1 (zin 140 (by decide +kernel) rfl) (zc1 (zin 142 (by decide +kernel) rfl) zc0)
theorem zwX5 : ∀ w ∈ u_ws RX5 TX5 6, w ∈ zbig := by
  show ∀ w ∈ [u_lay RX5 TX5 0, u_lay RX5 TX5 1, u_lay RX5 TX5 2, u_lay RX5 TX5 3, u_lay RX5 TX5 4, u_lay RX5 TX5 5], w ∈ zbig
  exact zc1 (zin 289 (by decide +kernel) rfl) (zc1 (zin 291 (by decide +kernel) rfl) (zc1 (zin 293 (by decide +kernel) rfl) (zc1 (zin 295 (by decide +kernel) rfl) (zc1 (zin 297 (by decide +kernel) rfl) (zc1 (zin 299 (by decide +kernel) rfl) zc0)))))
theorem zwX6 : ∀ w ∈ u_ws RX6 TX6 6, w ∈ zbig := by
  show ∀ w ∈ [u_lay RX6 TX6 0, u_lay RX6 TX6 1, u_lay RX6 TX6 2, u_lay RX6 TX6 3, u_lay RX6 TX6 4, u_lay RX6 TX6 5], w ∈ zbig
  exact zc1 (zin 234 (by decide +kernel) rfl) (zc1 (zin 236 (by decide +kernel) rfl) (zc1 (zin 238 (by decide +kernel) rfl) (zc1 (zin 240 (by decide +kernel) rfl) (zc1 (zin 242 (by decide +kernel) rfl) (zc1 (zin 244 (by decide +kernel) rfl) zc0)))))
theorem zwX7 : ∀ w ∈ u_ws RX7 TX7 6, w ∈ zbig := by
  show ∀ w ∈ [u_lay RX7 TX7 0, u_lay RX7 TX7 1, u_lay RX7 TX7 2, u_lay RX7 TX7 3, u_lay RX7 TX7 4, u_lay RX7 TX7 5], w ∈ zbig
  exact zc1 (zin 267 (by decide +kernel) rfl) (zc1 (zin 269 (by decide +kernel) rfl) (zc1 (zin 271 (by decide +kernel) rfl) (zc1 (zin 273 (by decide +kernel) rfl) (zc1 (zin 275 (by decide +kernel) rfl) (zc1 (zin 277 (by decide +kernel) rfl) zc0)))))
theorem zwX8 : ∀ w ∈ u_ws RX8 TX8 4, w ∈ zbig := by
  show ∀ w ∈ [u_lay RX8 TX8 0, u_lay RX8 TX8 1, u_lay RX8 TX8 2, u_lay RX8 TX8 3], w ∈ zbig
  exact zc1 (zin 308 (by decide +kernel) rfl) (zc1 (zin 310 (by decide +kernel) rfl) (zc1 (zin 312 (by decide +kernel) rfl) (zc1 (zin 314 (by decide +kernel) rfl) zc0)))
theorem zwX9 : ∀ w ∈ u_ws RX9 TX9 15, w ∈ zbig := by
  show ∀ w ∈ [u_lay RX9 TX9 0, u_lay RX9 TX9 1, u_lay RX9 TX9 2, u_lay RX9 TX9 3, u_lay RX9 TX9 4, u_lay RX9 TX9 5, u_lay RX9 TX9 6, u_lay RX9 TX9 7, u_lay RX9 TX9 8, u_lay RX9 TX9 9, u_lay RX9 TX9 10, u_lay RX9 TX9 11, u_lay RX9 TX9 12, u_lay RX9 TX9 13, u_lay RX9 TX9 14], w ∈ zbig
  exact zc1 (zin 848 (by decide +kernel) rfl) (zc1 (zin 850 (by decide +kernel) rfl) (zc1 (zin 852 (by decide +kernel) rfl) (zc1 (zin 854 (by decide +kernel) rfl) (zc1 (zin 856 (by decide +kernel) rfl) (zc1 (zin 858 (by decide +kernel) rfl) (zc1 (zin 860 (by decide +kernel) rfl) (zc1 (zin 862 (by decide +kernel) rfl) (zc1 (zin 864 (by decide +kernel) rfl) (zc1 (zin 866 (by decide +kernel) rfl) (zc1 (zin 868 (by decide +kernel) rfl) (zc1 (zin 870 (by decide +kernel) rfl) (zc1 (zin 872 (by decide +kernel) rfl) (zc1 (zin 874 (by decide +kernel) rfl) (zc1 (zin 876 (by decide +kernel) rfl) zc0))))))))))))))
theorem zwX10 : ∀ w ∈ u_ws RX10 TX10 16, w ∈ zbig := by
  show ∀ w ∈ [u_lay RX10 TX10 0, u_lay RX10 TX10 1, u_lay RX10 TX10 2, u_lay RX10 TX10 3, u_lay RX10 TX10 4, u_lay RX10 TX10 5, u_lay RX10 TX10 6, u_lay RX10 TX10 7, u_lay RX10 TX10 8, u_lay RX10 TX10 9, u_lay RX10 TX10 10, u_lay RX10 TX10 11, u_lay RX10 TX10 12, u_lay RX10 TX10 13, u_lay RX10 TX10 14, u_lay RX10 TX10 15], w ∈ zbig
  exact zc1 (zin 902 (by decide +kernel) rfl) (zc1 (zin 904 (by decide +kernel) rfl) (zc1 (zin 906 (by decide +kernel) rfl) (zc1 (zin 908 (by decide +kernel) rfl) (zc1 (zin 910 (by decide +kernel) rfl) (zc1 (zin 912 (by decide +kernel) rfl) (zc1 (zin 914 (by decide +kernel) rfl) (zc1 (zin 916 (by decide +kernel) rfl) (zc1 (zin 918 (by decide +kernel) rfl) (zc1 (zin 920 (by decide +kernel) rfl) (zc1 (zin 922 (by decide +kernel) rfl) (zc1 (zin 924 (by decide +kernel) rfl) (zc1 (zin 926 (by decide +kernel) rfl) (zc1 (zin 928 (by decide +kernel) rfl) (zc1 (zin 930 (by decide +kernel) rfl) (zc1 (zin 932 (by decide +kernel) rfl) zc0)))))))))))))))
theorem zfX8_10 : zF RX8 10 8 0 := ⟨_, _, _, rfl, by decide, zwX8, zin 304 (by decide +kernel) rfl⟩
theorem zfX8_21 : zF RX8 21 8 1 := ⟨_, _, _, rfl, by decide, zwX8, zin 305 (by decide +kernel) rfl⟩
theorem zfX8_25 : zF RX8 25 8 2 := ⟨_, _, _, rfl, by decide, zwX8, zin 306 (by decide +kernel) rfl⟩
theorem zfX8_31 : zF RX8 31 8 3 := ⟨_, _, _, rfl, by decide, zwX8, zin 307 (by decide +kernel) rfl⟩
theorem zfX8_50 : zF RX8 50 0 4 := ⟨_, _, _, rfl, by decide, zwX0, zin 181 (by decide +kernel) rfl⟩
theorem zgX8_50 : zFw RX8 50 0 4 := ⟨_, _, _, tyX0, rfl, by decide, zwX0, zin 181 (by decide +kernel) rfl, tyX0_ok, nmX0, rfl, by decide +kernel⟩
theorem zfX8_77 : zF RX8 77 0 5 := ⟨_, _, _, rfl, by decide, zwX0, zin 184 (by decide +kernel) rfl⟩
theorem zgX8_77 : zFw RX8 77 0 5 := ⟨_, _, _, tyX0, rfl, by decide, zwX0, zin 184 (by decide +kernel) rfl, tyX0_ok, nmX0, rfl, by decide +kernel⟩
theorem zfX8_94 : zF RX8 94 5 2 := ⟨_, _, _, rfl, by decide, zwX5, zin 284 (by decide +kernel) rfl⟩
theorem zfX8_110 : zF RX8 110 0 3 := ⟨_, _, _, rfl, by decide, zwX0, zin 178 (by decide +kernel) rfl⟩
theorem zfX8_130 : zF RX8 130 0 1 := ⟨_, _, _, rfl, by decide, zwX0, zin 173 (by decide +kernel) rfl⟩
theorem zfX8_150 : zF RX8 150 0 6 := ⟨_, _, _, rfl, by decide, zwX0, zin 188 (by decide +kernel) rfl⟩
theorem zgX8_150 : zFw RX8 150 0 6 := ⟨_, _, _, tyX0, rfl, by decide, zwX0, zin 188 (by decide +kernel) rfl, tyX0_ok, nmX0, rfl, by decide +kernel⟩
theorem zfX8_200 : zF RX8 200 5 1 := ⟨_, _, _, rfl, by decide, zwX5, zin 282 (by decide +kernel) rfl⟩
theorem zfX8_213 : zF RX8 213 6 5 := ⟨_, _, _, rfl, by decide, zwX6, zin 233 (by decide +kernel) rfl⟩
theorem zgX8_213 : zFw RX8 213 6 5 := ⟨_, _, _, tyX6, rfl, by decide, zwX6, zin 233 (by decide +kernel) rfl, tyX6_ok, nmX6, rfl, by decide +kernel⟩
theorem zfX8_221 : zF RX8 221 6 0 := ⟨_, _, _, rfl, by decide, zwX6, zin 221 (by decide +kernel) rfl⟩
theorem zgX8_221 : zFw RX8 221 6 0 := ⟨_, _, _, tyX6, rfl, by decide, zwX6, zin 221 (by decide +kernel) rfl, tyX6_ok, nmX6, rfl, by decide +kernel⟩
theorem zfX8_232 : zF RX8 232 0 0 := ⟨_, _, _, rfl, by decide, zwX0, zin 169 (by decide +kernel) rfl⟩
theorem zfX8_236 : zF RX8 236 2 0 := ⟨_, _, _, rfl, by decide, zwX2, zin 81 (by decide +kernel) rfl⟩
theorem zgX8_236 : zFw RX8 236 2 0 := ⟨_, _, _, tyX2, rfl, by decide, zwX2, zin 81 (by decide +kernel) rfl, tyX2_ok, nmX2, rfl, by decide +kernel⟩
theorem zfX8_241 : zF RX8 241 2 1 := ⟨_, _, _, rfl, by decide, zwX2, zin 84 (by decide +kernel) rfl⟩
theorem zgX8_241 : zFw RX8 241 2 1 := ⟨_, _, _, tyX2, rfl, by decide, zwX2, zin 84 (by decide +kernel) rfl, tyX2_ok, nmX2, rfl, by decide +kernel⟩
theorem zfX8_244 : zF RX8 244 2 2 := ⟨_, _, _, rfl, by decide, zwX2, zin 86 (by decide +kernel) rfl⟩
theorem zgX8_244 : zFw RX8 244 2 2 := ⟨_, _, _, tyX2, rfl, by decide, zwX2, zin 86 (by decide +kernel) rfl, tyX2_ok, nmX2, rfl, by decide +kernel⟩
theorem zfX8_256 : zF RX8 256 1 0 := ⟨_, _, _, rfl, by decide, zwX1, zin 102 (by decide +kernel) rfl⟩
theorem zgX8_256 : zFw RX8 256 1 0 := ⟨_, _, _, tyX1, rfl, by decide, zwX1, zin 102 (by decide +kernel) rfl, tyX1_ok, nmX1, rfl, by decide +kernel⟩
theorem zfX8_259 : zF RX8 259 1 1 := ⟨_, _, _, rfl, by decide, zwX1, zin 106 (by decide +kernel) rfl⟩
theorem zgX8_259 : zFw RX8 259 1 1 := ⟨_, _, _, tyX1, rfl, by decide, zwX1, zin 106 (by decide +kernel) rfl, tyX1_ok, nmX1, rfl, by decide +kernel⟩
theorem zfX8_262 : zF RX8 262 1 2 := ⟨_, _, _, rfl, by decide, zwX1, zin 109 (by decide +kernel) rfl⟩
theorem zgX8_262 : zFw RX8 262 1 2 := ⟨_, _, _, tyX1, rfl, by decide, zwX1, zin 109 (by decide +kernel) rfl, tyX1_ok, nmX1, rfl, by decide +kernel⟩
theorem zfX8_265 : zF RX8 265 1 3 := ⟨_, _, _, rfl, by decide, zwX1, zin 112 (by decide +kernel) rfl⟩
theorem zgX8_265 : zFw RX8 265 1 3 := ⟨_, _, _, tyX1, rfl, by decide, zwX1, zin 112 (by decide +kernel) rfl, tyX1_ok, nmX1, rfl, by decide +kernel⟩
theorem zfX8_268 : zF RX8 268 1 4 := ⟨_, _, _, rfl, by decide, zwX1, zin 115 (by decide +kernel) rfl⟩
theorem zgX8_268 : zFw RX8 268 1 4 := ⟨_, _, _, tyX1, rfl, by decide, zwX1, zin 115 (by decide +kernel) rfl, tyX1_ok, nmX1, rfl, by decide +kernel⟩
theorem zfX8_271 : zF RX8 271 7 0 := ⟨_, _, _, rfl, by decide, zwX7, zin 254 (by decide +kernel) rfl⟩
theorem zgX8_271 : zFw RX8 271 7 0 := ⟨_, _, _, tyX7, rfl, by decide, zwX7, zin 254 (by decide +kernel) rfl, tyX7_ok, nmX7, rfl, by decide +kernel⟩
theorem zfX8_277 : zF RX8 277 7 4 := ⟨_, _, _, rfl, by decide, zwX7, zin 263 (by decide +kernel) rfl⟩
theorem zgX8_277 : zFw RX8 277 7 4 := ⟨_, _, _, tyX7, rfl, by decide, zwX7, zin 263 (by decide +kernel) rfl, tyX7_ok, nmX7, rfl, by decide +kernel⟩
theorem zfX8_280 : zF RX8 280 7 5 := ⟨_, _, _, rfl, by decide, zwX7, zin 266 (by decide +kernel) rfl⟩
theorem zgX8_280 : zFw RX8 280 7 5 := ⟨_, _, _, tyX7, rfl, by decide, zwX7, zin 266 (by decide +kernel) rfl, tyX7_ok, nmX7, rfl, by decide +kernel⟩
theorem zfX8_283 : zF RX8 283 5 5 := ⟨_, _, _, rfl, by decide, zwX5, zin 288 (by decide +kernel) rfl⟩
theorem zgX8_283 : zFw RX8 283 5 5 := ⟨_, _, _, tyX5, rfl, by decide, zwX5, zin 288 (by decide +kernel) rfl, tyX5_ok, nmX5, rfl, by decide +kernel⟩
theorem zfX8_290 : zF RX8 290 0 2 := ⟨_, _, _, rfl, by decide, zwX0, zin 176 (by decide +kernel) rfl⟩
theorem zfX8_294 : zF RX8 294 3 2 := ⟨_, _, _, rfl, by decide, zwX3, zin 155 (by decide +kernel) rfl⟩
theorem zgX8_294 : zFw RX8 294 3 2 := ⟨_, _, _, tyX3, rfl, by decide, zwX3, zin 155 (by decide +kernel) rfl, tyX3_ok, nmX3, rfl, by decide +kernel⟩
theorem zfX8_299 : zF RX8 299 3 3 := ⟨_, _, _, rfl, by decide, zwX3, zin 158 (by decide +kernel) rfl⟩
theorem zgX8_299 : zFw RX8 299 3 3 := ⟨_, _, _, tyX3, rfl, by decide, zwX3, zin 158 (by decide +kernel) rfl, tyX3_ok, nmX3, rfl, by decide +kernel⟩
theorem zfX8_302 : zF RX8 302 3 1 := ⟨_, _, _, rfl, by decide, zwX3, zin 151 (by decide +kernel) rfl⟩
theorem zgX8_302 : zFw RX8 302 3 1 := ⟨_, _, _, tyX3, rfl, by decide, zwX3, zin 151 (by decide +kernel) rfl, tyX3_ok, nmX3, rfl, by decide +kernel⟩
theorem zfX8_305 : zF RX8 305 6 1 := ⟨_, _, _, rfl, by decide, zwX6, zin 224 (by decide +kernel) rfl⟩
theorem zgX8_305 : zFw RX8 305 6 1 := ⟨_, _, _, tyX6, rfl, by decide, zwX6, zin 224 (by decide +kernel) rfl, tyX6_ok, nmX6, rfl, by decide +kernel⟩
theorem zfX8_308 : zF RX8 308 6 2 := ⟨_, _, _, rfl, by decide, zwX6, zin 226 (by decide +kernel) rfl⟩
theorem zgX8_308 : zFw RX8 308 6 2 := ⟨_, _, _, tyX6, rfl, by decide, zwX6, zin 226 (by decide +kernel) rfl, tyX6_ok, nmX6, rfl, by decide +kernel⟩
theorem zfX8_311 : zF RX8 311 6 3 := ⟨_, _, _, rfl, by decide, zwX6, zin 229 (by decide +kernel) rfl⟩
theorem zgX8_311 : zFw RX8 311 6 3 := ⟨_, _, _, tyX6, rfl, by decide, zwX6, zin 229 (by decide +kernel) rfl, tyX6_ok, nmX6, rfl, by decide +kernel⟩
theorem zfX8_314 : zF RX8 314 3 0 := ⟨_, _, _, rfl, by decide, zwX3, zin 147 (by decide +kernel) rfl⟩
theorem zfX8_325 : zF RX8 325 6 4 := ⟨_, _, _, rfl, by decide, zwX6, zin 231 (by decide +kernel) rfl⟩
theorem zgX8_325 : zFw RX8 325 6 4 := ⟨_, _, _, tyX6, rfl, by decide, zwX6, zin 231 (by decide +kernel) rfl, tyX6_ok, nmX6, rfl, by decide +kernel⟩
theorem zfX0_11 : zF RX0 11 0 0 := ⟨_, _, _, rfl, by decide, zwX0, zin 168 (by decide +kernel) rfl⟩
theorem zfX0_19 : zF RX0 19 0 1 := ⟨_, _, _, rfl, by decide, zwX0, zin 170 (by decide +kernel) rfl⟩
theorem zfX0_25 : zF RX0 25 0 2 := ⟨_, _, _, rfl, by decide, zwX0, zin 174 (by decide +kernel) rfl⟩
theorem zfX0_29 : zF RX0 29 0 3 := ⟨_, _, _, rfl, by decide, zwX0, zin 177 (by decide +kernel) rfl⟩
theorem zfX0_36 : zF RX0 36 0 4 := ⟨_, _, _, rfl, by decide, zwX0, zin 179 (by decide +kernel) rfl⟩
theorem zgX0_36 : zFw RX0 36 0 4 := ⟨_, _, _, tyX0, rfl, by decide, zwX0, zin 179 (by decide +kernel) rfl, tyX0_ok, nmX0, rfl, by decide +kernel⟩
theorem zfX0_40 : zF RX0 40 2 0 := ⟨_, _, _, rfl, by decide, zwX2, zin 80 (by decide +kernel) rfl⟩
theorem zgX0_40 : zFw RX0 40 2 0 := ⟨_, _, _, tyX2, rfl, by decide, zwX2, zin 80 (by decide +kernel) rfl, tyX2_ok, nmX2, rfl, by decide +kernel⟩
theorem zfX0_43 : zF RX0 43 2 1 := ⟨_, _, _, rfl, by decide, zwX2, zin 83 (by decide +kernel) rfl⟩
theorem zgX0_43 : zFw RX0 43 2 1 := ⟨_, _, _, tyX2, rfl, by decide, zwX2, zin 83 (by decide +kernel) rfl, tyX2_ok, nmX2, rfl, by decide +kernel⟩
theorem zfX0_46 : zF RX0 46 2 2 := ⟨_, _, _, rfl, by decide, zwX2, zin 85 (by decide +kernel) rfl⟩
theorem zgX0_46 : zFw RX0 46 2 2 := ⟨_, _, _, tyX2, rfl, by decide, zwX2, zin 85 (by decide +kernel) rfl, tyX2_ok, nmX2, rfl, by decide +kernel⟩
theorem zfX0_49 : zF RX0 49 0 5 := ⟨_, _, _, rfl, by decide, zwX0, zin 185 (by decide +kernel) rfl⟩
theorem zgX0_49 : zFw RX0 49 0 5 := ⟨_, _, _, tyX0, rfl, by decide, zwX0, zin 185 (by decide +kernel) rfl, tyX0_ok, nmX0, rfl, by decide +kernel⟩
theorem zfX0_52 : zF RX0 52 1 0 := ⟨_, _, _, rfl, by decide, zwX1, zin 101 (by decide +kernel) rfl⟩
theorem zgX0_52 : zFw RX0 52 1 0 := ⟨_, _, _, tyX1, rfl, by decide, zwX1, zin 101 (by decide +kernel) rfl, tyX1_ok, nmX1, rfl, by decide +kernel⟩
theorem zfX0_55 : zF RX0 55 1 1 := ⟨_, _, _, rfl, by decide, zwX1, zin 104 (by decide +kernel) rfl⟩
theorem zgX0_55 : zFw RX0 55 1 1 := ⟨_, _, _, tyX1, rfl, by decide, zwX1, zin 104 (by decide +kernel) rfl, tyX1_ok, nmX1, rfl, by decide +kernel⟩
theorem zfX0_58 : zF RX0 58 1 2 := ⟨_, _, _, rfl, by decide, zwX1, zin 108 (by decide +kernel) rfl⟩
theorem zgX0_58 : zFw RX0 58 1 2 := ⟨_, _, _, tyX1, rfl, by decide, zwX1, zin 108 (by decide +kernel) rfl, tyX1_ok, nmX1, rfl, by decide +kernel⟩
theorem zfX0_65 : zF RX0 65 1 3 := ⟨_, _, _, rfl, by decide, zwX1, zin 111 (by decide +kernel) rfl⟩
theorem zgX0_65 : zFw RX0 65 1 3 := ⟨_, _, _, tyX1, rfl, by decide, zwX1, zin 111 (by decide +kernel) rfl, tyX1_ok, nmX1, rfl, by decide +kernel⟩
theorem zfX0_68 : zF RX0 68 1 4 := ⟨_, _, _, rfl, by decide, zwX1, zin 114 (by decide +kernel) rfl⟩
theorem zgX0_68 : zFw RX0 68 1 4 := ⟨_, _, _, tyX1, rfl, by decide, zwX1, zin 114 (by decide +kernel) rfl, tyX1_ok, nmX1, rfl, by decide +kernel⟩
theorem zfX0_71 : zF RX0 71 0 6 := ⟨_, _, _, rfl, by decide, zwX0, zin 187 (by decide +kernel) rfl⟩
theorem zgX0_71 : zFw RX0 71 0 6 := ⟨_, _, _, tyX0, rfl, by decide, zwX0, zin 187 (by decide +kernel) rfl, tyX0_ok, nmX0, rfl, by decide +kernel⟩
theorem zfX0_78 : zF RX0 78 3 1 := ⟨_, _, _, rfl, by decide, zwX3, zin 150 (by decide +kernel) rfl⟩
theorem zgX0_78 : zFw RX0 78 3 1 := ⟨_, _, _, tyX3, rfl, by decide, zwX3, zin 150 (by decide +kernel) rfl, tyX3_ok, nmX3, rfl, by decide +kernel⟩
theorem zfX0_81 : zF RX0 81 3 2 := ⟨_, _, _, rfl, by decide, zwX3, zin 153 (by decide +kernel) rfl⟩
theorem zgX0_81 : zFw RX0 81 3 2 := ⟨_, _, _, tyX3, rfl, by decide, zwX3, zin 153 (by decide +kernel) rfl, tyX3_ok, nmX3, rfl, by decide +kernel⟩
theorem zfX0_84 : zF RX0 84 3 3 := ⟨_, _, _, rfl, by decide, zwX3, zin 156 (by decide +kernel) rfl⟩
theorem zgX0_84 : zFw RX0 84 3 3 := ⟨_, _, _, tyX3, rfl, by decide, zwX3, zin 156 (by decide +kernel) rfl, tyX3_ok, nmX3, rfl, by decide +kernel⟩
theorem zfX1_7 : zF RX1 7 1 2 := ⟨_, _, _, rfl, by decide, zwX1, zin 107 (by decide +kernel) rfl⟩
theorem zgX1_7 : zFw RX1 7 1 2 := ⟨_, _, _, tyX1, rfl, by decide, zwX1, zin 107 (by decide +kernel) rfl, tyX1_ok, nmX1, rfl, by decide +kernel⟩
theorem zfX1_13 : zF RX1 13 1 4 := ⟨_, _, _, rfl, by decide, zwX1, zin 113 (by decide +kernel) rfl⟩
theorem zgX1_13 : zFw RX1 13 1 4 := ⟨_, _, _, tyX1, rfl, by decide, zwX1, zin 113 (by decide +kernel) rfl, tyX1_ok, nmX1, rfl, by decide +kernel⟩
theorem zfX1_16 : zF RX1 16 1 3 := ⟨_, _, _, rfl, by decide, zwX1, zin 110 (by decide +kernel) rfl⟩
theorem zgX1_16 : zFw RX1 16 1 3 := ⟨_, _, _, tyX1, rfl, by decide, zwX1, zin 110 (by decide +kernel) rfl, tyX1_ok, nmX1, rfl, by decide +kernel⟩
theorem zfX2_7 : zF RX2 7 2 0 := ⟨_, _, _, rfl, by decide, zwX2, zin 79 (by decide +kernel) rfl⟩
theorem zgX2_7 : zFw RX2 7 2 0 := ⟨_, _, _, tyX2, rfl, by decide, zwX2, zin 79 (by decide +kernel) rfl, tyX2_ok, nmX2, rfl, by decide +kernel⟩
theorem zfX2_19 : zF RX2 19 2 1 := ⟨_, _, _, rfl, by decide, zwX2, zin 82 (by decide +kernel) rfl⟩
theorem zgX2_19 : zFw RX2 19 2 1 := ⟨_, _, _, tyX2, rfl, by decide, zwX2, zin 82 (by decide +kernel) rfl, tyX2_ok, nmX2, rfl, by decide +kernel⟩
theorem zfX3_10 : zF RX3 10 3 0 := ⟨_, _, _, rfl, by decide, zwX3, zin 145 (by decide +kernel) rfl⟩
theorem zfX3_16 : zF RX3 16 3 1 := ⟨_, _, _, rfl, by decide, zwX3, zin 148 (by decide +kernel) rfl⟩
theorem zgX3_16 : zFw RX3 16 3 1 := ⟨_, _, _, tyX3, rfl, by decide, zwX3, zin 148 (by decide +kernel) rfl, tyX3_ok, nmX3, rfl, by decide +kernel⟩
theorem zfX3_20 : zF RX3 20 3 2 := ⟨_, _, _, rfl, by decide, zwX3, zin 152 (by decide +kernel) rfl⟩
theorem zgX3_20 : zFw RX3 20 3 2 := ⟨_, _, _, tyX3, rfl, by decide, zwX3, zin 152 (by decide +kernel) rfl, tyX3_ok, nmX3, rfl, by decide +kernel⟩
theorem zfX4_9 : zF RX4 9 4 0 := ⟨_, _, _, rfl, by decide, zwX4, zin 138 (by decide +kernel) rfl⟩
theorem zfX4_15 : zF RX4 15 4 1 := ⟨_, _, _, rfl, by decide, zwX4, zin 139 (by decide +kernel) rfl⟩
theorem zfX4_18 : zF RX4 18 0 4 := ⟨_, _, _, rfl, by decide, zwX0, zin 180 (by decide +kernel) rfl⟩
theorem zgX4_18 : zFw RX4 18 0 4 := ⟨_, _, _, tyX0, rfl, by decide, zwX0, zin 180 (by decide +kernel) rfl, tyX0_ok, nmX0, rfl, by decide +kernel⟩
theorem zfX4_24 : zF RX4 24 0 5 := ⟨_, _, _, rfl, by decide, zwX0, zin 183 (by decide +kernel) rfl⟩
theorem zgX4_24 : zFw RX4 24 0 5 := ⟨_, _, _, tyX0, rfl, by decide, zwX0, zin 183 (by decide +kernel) rfl, tyX0_ok, nmX0, rfl, by decide +kernel⟩
theorem zfX4_27 : zF RX4 27 0 1 := ⟨_, _, _, rfl, by decide, zwX0, zin 171 (by decide +kernel) rfl⟩
theorem zfX4_34 : zF RX4 34 1 0 := ⟨_, _, _, rfl, by decide, zwX1, zin 100 (by decide +kernel) rfl⟩
theorem zgX4_34 : zFw RX4 34 1 0 := ⟨_, _, _, tyX1, rfl, by decide, zwX1, zin 100 (by decide +kernel) rfl, tyX1_ok, nmX1, rfl, by decide +kernel⟩
theorem zfX4_47 : zF RX4 47 1 1 := ⟨_, _, _, rfl, by decide, zwX1, zin 103 (by decide +kernel) rfl⟩
theorem zgX4_47 : zFw RX4 47 1 1 := ⟨_, _, _, tyX1, rfl, by decide, zwX1, zin 103 (by decide +kernel) rfl, tyX1_ok, nmX1, rfl, by decide +kernel⟩
theorem zfX5_11 : zF RX5 11 5 1 := ⟨_, _, _, rfl, by decide, zwX5, zin 281 (by decide +kernel) rfl⟩
theorem zfX5_19 : zF RX5 19 5 2 := ⟨_, _, _, rfl, by decide, zwX5, zin 283 (by decide +kernel) rfl⟩
theorem zfX5_23 : zF RX5 23 5 3 := ⟨_, _, _, rfl, by decide, zwX5, zin 285 (by decide +kernel) rfl⟩
theorem zfX5_27 : zF RX5 27 5 0 := ⟨_, _, _, rfl, by decide, zwX5, zin 280 (by decide +kernel) rfl⟩
theorem zfX5_33 : zF RX5 33 0 6 := ⟨_, _, _, rfl, by decide, zwX0, zin 186 (by decide +kernel) rfl⟩
theorem zgX5_33 : zFw RX5 33 0 6 := ⟨_, _, _, tyX0, rfl, by decide, zwX0, zin 186 (by decide +kernel) rfl, tyX0_ok, nmX0, rfl, by decide +kernel⟩
theorem zfX5_43 : zF RX5 43 0 5 := ⟨_, _, _, rfl, by decide, zwX0, zin 182 (by decide +kernel) rfl⟩
theorem zgX5_43 : zFw RX5 43 0 5 := ⟨_, _, _, tyX0, rfl, by decide, zwX0, zin 182 (by decide +kernel) rfl, tyX0_ok, nmX0, rfl, by decide +kernel⟩
theorem zfX5_49 : zF RX5 49 5 4 := ⟨_, _, _, rfl, by decide, zwX5, zin 286 (by decide +kernel) rfl⟩
theorem zgX5_49 : zFw RX5 49 5 4 := ⟨_, _, _, tyX5, rfl, by decide, zwX5, zin 286 (by decide +kernel) rfl, tyX5_ok, nmX5, rfl, by decide +kernel⟩
theorem zfX5_52 : zF RX5 52 5 5 := ⟨_, _, _, rfl, by decide, zwX5, zin 287 (by decide +kernel) rfl⟩
theorem zgX5_52 : zFw RX5 52 5 5 := ⟨_, _, _, tyX5, rfl, by decide, zwX5, zin 287 (by decide +kernel) rfl, tyX5_ok, nmX5, rfl, by decide +kernel⟩
theorem zfX5_55 : zF RX5 55 7 0 := ⟨_, _, _, rfl, by decide, zwX7, zin 253 (by decide +kernel) rfl⟩
theorem zgX5_55 : zFw RX5 55 7 0 := ⟨_, _, _, tyX7, rfl, by decide, zwX7, zin 253 (by decide +kernel) rfl, tyX7_ok, nmX7, rfl, by decide +kernel⟩
theorem zfX5_58 : zF RX5 58 0 2 := ⟨_, _, _, rfl, by decide, zwX0, zin 175 (by decide +kernel) rfl⟩
theorem zfX5_62 : zF RX5 62 3 1 := ⟨_, _, _, rfl, by decide, zwX3, zin 149 (by decide +kernel) rfl⟩
theorem zgX5_62 : zFw RX5 62 3 1 := ⟨_, _, _, tyX3, rfl, by decide, zwX3, zin 149 (by decide +kernel) rfl, tyX3_ok, nmX3, rfl, by decide +kernel⟩
theorem zfX5_82 : zF RX5 82 0 1 := ⟨_, _, _, rfl, by decide, zwX0, zin 172 (by decide +kernel) rfl⟩
theorem zfX5_101 : zF RX5 101 7 1 := ⟨_, _, _, rfl, by decide, zwX7, zin 256 (by decide +kernel) rfl⟩
theorem zgX5_101 : zFw RX5 101 7 1 := ⟨_, _, _, tyX7, rfl, by decide, zwX7, zin 256 (by decide +kernel) rfl, tyX7_ok, nmX7, rfl, by decide +kernel⟩
theorem zfX5_104 : zF RX5 104 7 3 := ⟨_, _, _, rfl, by decide, zwX7, zin 260 (by decide +kernel) rfl⟩
theorem zfX5_107 : zF RX5 107 7 2 := ⟨_, _, _, rfl, by decide, zwX7, zin 258 (by decide +kernel) rfl⟩
theorem zfX5_109 : zF RX5 109 6 3 := ⟨_, _, _, rfl, by decide, zwX6, zin 228 (by decide +kernel) rfl⟩
theorem zgX5_109 : zFw RX5 109 6 3 := ⟨_, _, _, tyX6, rfl, by decide, zwX6, zin 228 (by decide +kernel) rfl, tyX6_ok, nmX6, rfl, by decide +kernel⟩
theorem zfX5_121 : zF RX5 121 1 1 := ⟨_, _, _, rfl, by decide, zwX1, zin 105 (by decide +kernel) rfl⟩
theorem zgX5_121 : zFw RX5 121 1 1 := ⟨_, _, _, tyX1, rfl, by decide, zwX1, zin 105 (by decide +kernel) rfl, tyX1_ok, nmX1, rfl, by decide +kernel⟩
theorem zfX5_137 : zF RX5 137 3 2 := ⟨_, _, _, rfl, by decide, zwX3, zin 154 (by decide +kernel) rfl⟩
theorem zgX5_137 : zFw RX5 137 3 2 := ⟨_, _, _, tyX3, rfl, by decide, zwX3, zin 154 (by decide +kernel) rfl, tyX3_ok, nmX3, rfl, by decide +kernel⟩
theorem zfX5_151 : zF RX5 151 7 5 := ⟨_, _, _, rfl, by decide, zwX7, zin 265 (by decide +kernel) rfl⟩
theorem zgX5_151 : zFw RX5 151 7 5 := ⟨_, _, _, tyX7, rfl, by decide, zwX7, zin 265 (by decide +kernel) rfl, tyX7_ok, nmX7, rfl, by decide +kernel⟩
theorem zfX5_158 : zF RX5 158 3 0 := ⟨_, _, _, rfl, by decide, zwX3, zin 146 (by decide +kernel) rfl⟩
theorem zfX5_162 : zF RX5 162 6 1 := ⟨_, _, _, rfl, by decide, zwX6, zin 223 (by decide +kernel) rfl⟩
theorem zgX5_162 : zFw RX5 162 6 1 := ⟨_, _, _, tyX6, rfl, by decide, zwX6, zin 223 (by decide +kernel) rfl, tyX6_ok, nmX6, rfl, by decide +kernel⟩
theorem zfX5_180 : zF RX5 180 3 3 := ⟨_, _, _, rfl, by decide, zwX3, zin 157 (by decide +kernel) rfl⟩
theorem zgX5_180 : zFw RX5 180 3 3 := ⟨_, _, _, tyX3, rfl, by decide, zwX3, zin 157 (by decide +kernel) rfl, tyX3_ok, nmX3, rfl, by decide +kernel⟩
theorem zfX5_183 : zF RX5 183 6 0 := ⟨_, _, _, rfl, by decide, zwX6, zin 220 (by decide +kernel) rfl⟩
theorem zgX5_183 : zFw RX5 183 6 0 := ⟨_, _, _, tyX6, rfl, by decide, zwX6, zin 220 (by decide +kernel) rfl, tyX6_ok, nmX6, rfl, by decide +kernel⟩
theorem zfX5_189 : zF RX5 189 7 4 := ⟨_, _, _, rfl, by decide, zwX7, zin 262 (by decide +kernel) rfl⟩
theorem zgX5_189 : zFw RX5 189 7 4 := ⟨_, _, _, tyX7, rfl, by decide, zwX7, zin 262 (by decide +kernel) rfl, tyX7_ok, nmX7, rfl, by decide +kernel⟩
theorem zfX6_9 : zF RX6 9 6 5 := ⟨_, _, _, rfl, by decide, zwX6, zin 232 (by decide +kernel) rfl⟩
theorem zgX6_9 : zFw RX6 9 6 5 := ⟨_, _, _, tyX6, rfl, by decide, zwX6, zin 232 (by decide +kernel) rfl, tyX6_ok, nmX6, rfl, by decide +kernel⟩
theorem zfX6_15 : zF RX6 15 6 0 := ⟨_, _, _, rfl, by decide, zwX6, zin 219 (by decide +kernel) rfl⟩
theorem zgX6_15 : zFw RX6 15 6 0 := ⟨_, _, _, tyX6, rfl, by decide, zwX6, zin 219 (by decide +kernel) rfl, tyX6_ok, nmX6, rfl, by decide +kernel⟩
theorem zfX6_18 : zF RX6 18 6 1 := ⟨_, _, _, rfl, by decide, zwX6, zin 222 (by decide +kernel) rfl⟩
theorem zgX6_18 : zFw RX6 18 6 1 := ⟨_, _, _, tyX6, rfl, by decide, zwX6, zin 222 (by decide +kernel) rfl, tyX6_ok, nmX6, rfl, by decide +kernel⟩
theorem zfX6_21 : zF RX6 21 6 2 := ⟨_, _, _, rfl, by decide, zwX6, zin 225 (by decide +kernel) rfl⟩
theorem zgX6_21 : zFw RX6 21 6 2 := ⟨_, _, _, tyX6, rfl, by decide, zwX6, zin 225 (by decide +kernel) rfl, tyX6_ok, nmX6, rfl, by decide +kernel⟩
theorem zfX6_24 : zF RX6 24 6 3 := ⟨_, _, _, rfl, by decide, zwX6, zin 227 (by decide +kernel) rfl⟩
theorem zgX6_24 : zFw RX6 24 6 3 := ⟨_, _, _, tyX6, rfl, by decide, zwX6, zin 227 (by decide +kernel) rfl, tyX6_ok, nmX6, rfl, by decide +kernel⟩
theorem zfX6_27 : zF RX6 27 6 4 := ⟨_, _, _, rfl, by decide, zwX6, zin 230 (by decide +kernel) rfl⟩
theorem zgX6_27 : zFw RX6 27 6 4 := ⟨_, _, _, tyX6, rfl, by decide, zwX6, zin 230 (by decide +kernel) rfl, tyX6_ok, nmX6, rfl, by decide +kernel⟩
theorem zfX7_9 : zF RX7 9 7 2 := ⟨_, _, _, rfl, by decide, zwX7, zin 257 (by decide +kernel) rfl⟩
theorem zfX7_15 : zF RX7 15 7 3 := ⟨_, _, _, rfl, by decide, zwX7, zin 259 (by decide +kernel) rfl⟩
theorem zfX7_18 : zF RX7 18 7 0 := ⟨_, _, _, rfl, by decide, zwX7, zin 252 (by decide +kernel) rfl⟩
theorem zgX7_18 : zFw RX7 18 7 0 := ⟨_, _, _, tyX7, rfl, by decide, zwX7, zin 252 (by decide +kernel) rfl, tyX7_ok, nmX7, rfl, by decide +kernel⟩
theorem zfX7_22 : zF RX7 22 7 1 := ⟨_, _, _, rfl, by decide, zwX7, zin 255 (by decide +kernel) rfl⟩
theorem zgX7_22 : zFw RX7 22 7 1 := ⟨_, _, _, tyX7, rfl, by decide, zwX7, zin 255 (by decide +kernel) rfl, tyX7_ok, nmX7, rfl, by decide +kernel⟩
theorem zfX7_25 : zF RX7 25 7 4 := ⟨_, _, _, rfl, by decide, zwX7, zin 261 (by decide +kernel) rfl⟩
theorem zgX7_25 : zFw RX7 25 7 4 := ⟨_, _, _, tyX7, rfl, by decide, zwX7, zin 261 (by decide +kernel) rfl, tyX7_ok, nmX7, rfl, by decide +kernel⟩
theorem zfX7_28 : zF RX7 28 7 5 := ⟨_, _, _, rfl, by decide, zwX7, zin 264 (by decide +kernel) rfl⟩
theorem zgX7_28 : zFw RX7 28 7 5 := ⟨_, _, _, tyX7, rfl, by decide, zwX7, zin 264 (by decide +kernel) rfl, tyX7_ok, nmX7, rfl, by decide +kernel⟩
theorem zfX10_9 : zF RX10 9 10 2 := ⟨_, _, _, rfl, by decide, zwX10, zin 881 (by decide +kernel) rfl⟩
theorem zfX10_13 : zF RX10 13 10 3 := ⟨_, _, _, rfl, by decide, zwX10, zin 882 (by decide +kernel) rfl⟩
theorem zfX10_16 : zF RX10 16 10 4 := ⟨_, _, _, rfl, by decide, zwX10, zin 883 (by decide +kernel) rfl⟩
theorem zfX10_19 : zF RX10 19 10 6 := ⟨_, _, _, rfl, by decide, zwX10, zin 886 (by decide +kernel) rfl⟩
theorem zfX10_22 : zF RX10 22 10 7 := ⟨_, _, _, rfl, by decide, zwX10, zin 888 (by decide +kernel) rfl⟩
theorem zfX10_25 : zF RX10 25 10 8 := ⟨_, _, _, rfl, by decide, zwX10, zin 890 (by decide +kernel) rfl⟩
theorem zfX10_28 : zF RX10 28 10 9 := ⟨_, _, _, rfl, by decide, zwX10, zin 891 (by decide +kernel) rfl⟩
theorem zfX10_31 : zF RX10 31 10 11 := ⟨_, _, _, rfl, by decide, zwX10, zin 894 (by decide +kernel) rfl⟩
theorem zfX10_34 : zF RX10 34 10 12 := ⟨_, _, _, rfl, by decide, zwX10, zin 896 (by decide +kernel) rfl⟩
theorem zfX10_37 : zF RX10 37 10 13 := ⟨_, _, _, rfl, by decide, zwX10, zin 898 (by decide +kernel) rfl⟩
theorem zfX10_45 : zF RX10 45 10 14 := ⟨_, _, _, rfl, by decide, zwX10, zin 900 (by decide +kernel) rfl⟩
theorem zfX10_49 : zF RX10 49 10 15 := ⟨_, _, _, rfl, by decide, zwX10, zin 901 (by decide +kernel) rfl⟩
theorem zfX10_52 : zF RX10 52 10 0 := ⟨_, _, _, rfl, by decide, zwX10, zin 879 (by decide +kernel) rfl⟩
theorem zgX10_52 : zFw RX10 52 10 0 := ⟨_, _, _, tyX10, rfl, by decide, zwX10, zin 879 (by decide +kernel) rfl, tyX10_ok, nmX10, rfl, by decide +kernel⟩
theorem zfX10_56 : zF RX10 56 10 1 := ⟨_, _, _, rfl, by decide, zwX10, zin 880 (by decide +kernel) rfl⟩
theorem zgX10_56 : zFw RX10 56 10 1 := ⟨_, _, _, tyX10, rfl, by decide, zwX10, zin 880 (by decide +kernel) rfl, tyX10_ok, nmX10, rfl, by decide +kernel⟩
theorem zfX10_63 : zF RX10 63 10 5 := ⟨_, _, _, rfl, by decide, zwX10, zin 884 (by decide +kernel) rfl⟩
theorem zgX10_63 : zFw RX10 63 10 5 := ⟨_, _, _, tyX10, rfl, by decide, zwX10, zin 884 (by decide +kernel) rfl, tyX10_ok, nmX10, rfl, by decide +kernel⟩
theorem zfX10_95 : zF RX10 95 10 10 := ⟨_, _, _, rfl, by decide, zwX10, zin 893 (by decide +kernel) rfl⟩
theorem zgX10_95 : zFw RX10 95 10 10 := ⟨_, _, _, tyX10, rfl, by decide, zwX10, zin 893 (by decide +kernel) rfl, tyX10_ok, nmX10, rfl, by decide +kernel⟩
theorem zfX9_3 : zF RX9 3 9 14 := ⟨_, _, _, rfl, by decide, zwX9, zin 847 (by decide +kernel) rfl⟩
theorem zfX9_15 : zF RX9 15 9 1 := ⟨_, _, _, rfl, by decide, zwX9, zin 823 (by decide +kernel) rfl⟩
theorem zfX9_19 : zF RX9 19 9 2 := ⟨_, _, _, rfl, by decide, zwX9, zin 825 (by decide +kernel) rfl⟩
theorem zfX9_22 : zF RX9 22 9 3 := ⟨_, _, _, rfl, by decide, zwX9, zin 827 (by decide +kernel) rfl⟩
theorem zfX9_25 : zF RX9 25 9 4 := ⟨_, _, _, rfl, by decide, zwX9, zin 828 (by decide +kernel) rfl⟩
theorem zfX9_28 : zF RX9 28 9 5 := ⟨_, _, _, rfl, by decide, zwX9, zin 829 (by decide +kernel) rfl⟩
theorem zfX9_31 : zF RX9 31 9 6 := ⟨_, _, _, rfl, by decide, zwX9, zin 831 (by decide +kernel) rfl⟩
theorem zfX9_34 : zF RX9 34 9 7 := ⟨_, _, _, rfl, by decide, zwX9, zin 833 (by decide +kernel) rfl⟩
theorem zfX9_37 : zF RX9 37 9 8 := ⟨_, _, _, rfl, by decide, zwX9, zin 835 (by decide +kernel) rfl⟩
theorem zfX9_40 : zF RX9 40 9 9 := ⟨_, _, _, rfl, by decide, zwX9, zin 837 (by decide +kernel) rfl⟩
theorem zfX9_43 : zF RX9 43 9 10 := ⟨_, _, _, rfl, by decide, zwX9, zin 839 (by decide +kernel) rfl⟩
theorem zfX9_46 : zF RX9 46 9 11 := ⟨_, _, _, rfl, by decide, zwX9, zin 841 (by decide +kernel) rfl⟩
theorem zfX9_49 : zF RX9 49 9 12 := ⟨_, _, _, rfl, by decide, zwX9, zin 843 (by decide +kernel) rfl⟩
theorem zfX9_52 : zF RX9 52 9 13 := ⟨_, _, _, rfl, by decide, zwX9, zin 845 (by decide +kernel) rfl⟩
theorem zfX9_61 : zF RX9 61 9 0 := ⟨_, _, _, rfl, by decide, zwX9, zin 821 (by decide +kernel) rfl⟩
theorem zgX9_61 : zFw RX9 61 9 0 := ⟨_, _, _, tyX9, rfl, by decide, zwX9, zin 821 (by decide +kernel) rfl, tyX9_ok, nmX9, rfl, by decide +kernel⟩
theorem zfX10_89 : zFN RX10 89 9 1 := ⟨_, _, _, "ZipCanopyModel", rfl, by decide, zwX9, znin 824 (by decide +kernel) rfl⟩
theorem zfX10_98 : zFN RX10 98 9 9 := ⟨_, _, _, "ZipCanopyModel", rfl, by decide, zwX9, znin 838 (by decide +kernel) rfl⟩
theorem zfX10_101 : zFN RX10 101 9 7 := ⟨_, _, _, "ZipCanopyModel", rfl, by decide, zwX9, znin 834 (by decide +kernel) rfl⟩
theorem zfX10_104 : zFN RX10 104 9 8 := ⟨_, _, _, "ZipCanopyModel", rfl, by decide, zwX9, znin 836 (by decide +kernel) rfl⟩
theorem zfX10_111 : zFN RX10 111 9 2 := ⟨_, _, _, "ZipCanopyModel", rfl, by decide, zwX9, znin 826 (by decide +kernel) rfl⟩
theorem zfX10_117 : zFN RX10 117 9 5 := ⟨_, _, _, "ZipCanopyModel", rfl, by decide, zwX9, znin 830 (by decide +kernel) rfl⟩
theorem zfX10_120 : zFN RX10 120 9 6 := ⟨_, _, _, "ZipCanopyModel", rfl, by decide, zwX9, znin 832 (by decide +kernel) rfl⟩
theorem zfX10_123 : zFN RX10 123 9 0 := ⟨_, _, _, "ZipCanopyModel", rfl, by decide, zwX9, znin 822 (by decide +kernel) rfl⟩
theorem zfX10_136 : zFN RX10 136 9 13 := ⟨_, _, _, "ZipCanopyModel", rfl, by decide, zwX9, znin 846 (by decide +kernel) rfl⟩
theorem zfX10_143 : zFN RX10 143 9 10 := ⟨_, _, _, "ZipCanopyModel", rfl, by decide, zwX9, znin 840 (by decide +kernel) rfl⟩
theorem zfX10_146 : zFN RX10 146 9 11 := ⟨_, _, _, "ZipCanopyModel", rfl, by decide, zwX9, znin 842 (by decide +kernel) rfl⟩
theorem zfX10_158 : zFN RX10 158 9 12 := ⟨_, _, _, "ZipCanopyModel", rfl, by decide, zwX9, znin 844 (by decide +kernel) rfl⟩
theorem zfX9_69 : zFN RX9 69 10 10 := ⟨_, _, _, "ZipCanopyModel", rfl, by decide, zwX10, znin 892 (by decide +kernel) rfl⟩
theorem zfX9_72 : zFN RX9 72 10 13 := ⟨_, _, _, "ZipCanopyModel", rfl, by decide, zwX10, znin 899 (by decide +kernel) rfl⟩
theorem zfX9_79 : zFN RX9 79 10 5 := ⟨_, _, _, "ZipCanopyModel", rfl, by decide, zwX10, znin 885 (by decide +kernel) rfl⟩
theorem zfX9_93 : zFN RX9 93 10 11 := ⟨_, _, _, "ZipCanopyModel", rfl, by decide, zwX10, znin 895 (by decide +kernel) rfl⟩
theorem zfX9_100 : zFN RX9 100 10 12 := ⟨_, _, _, "ZipCanopyModel", rfl, by decide, zwX10, znin 897 (by decide +kernel) rfl⟩
theorem zfX9_106 : zFN RX9 106 10 7 := ⟨_, _, _, "ZipCanopyModel", rfl, by decide, zwX10, znin 889 (by decide +kernel) rfl⟩
theorem zfX9_116 : zFN RX9 116 10 6 := ⟨_, _, _, "ZipCanopyModel", rfl, by decide, zwX10, znin 887 (by decide +kernel) rfl⟩
theorem zk_X8_init : Cond.code yX8_init cX8_init 1 none ∈ zbig := zin 58 (by decide +kernel) rfl
theorem zki_X8_init : Cond.instanceMethod yX8_init ∈ zbig := zin 57 (by decide +kernel) rfl
theorem zkn_X8_init : Cond.initialized (yX8_init).cls ∈ zbig := zin 35 (by decide +kernel) rfl
theorem zk_X0_init : Cond.code yX0_init cX0_init 2 none ∈ zbig := zin 66 (by decide +kernel) rfl
theorem zki_X0_init : Cond.instanceMethod yX0_init ∈ zbig := zin 65 (by decide +kernel) rfl
theorem zkn_X0_init : Cond.initialized (yX0_init).cls ∈ zbig := zin 36 (by decide +kernel) rfl
theorem zk_X2_init : Cond.code yX2_init cX2_init 1 none ∈ zbig := zin 77 (by decide +kernel) rfl
theorem zki_X2_init : Cond.instanceMethod yX2_init ∈ zbig := zin 76 (by decide +kernel) rfl
theorem zkn_X2_init : Cond.initialized (yX2_init).cls ∈ zbig := zin 37 (by decide +kernel) rfl
theorem zk_X1_init : Cond.code yX1_init cX1_init 1 none ∈ zbig := zin 98 (by decide +kernel) rfl
theorem zki_X1_init : Cond.instanceMethod yX1_init ∈ zbig := zin 97 (by decide +kernel) rfl
theorem zkn_X1_init : Cond.initialized (yX1_init).cls ∈ zbig := zin 38 (by decide +kernel) rfl
theorem zk_X3_init : Cond.code yX3_init cX3_init 1 none ∈ zbig := zin 130 (by decide +kernel) rfl
theorem zki_X3_init : Cond.instanceMethod yX3_init ∈ zbig := zin 129 (by decide +kernel) rfl
theorem zkn_X3_init : Cond.initialized (yX3_init).cls ∈ zbig := zin 39 (by decide +kernel) rfl
theorem zk_X4_init : Cond.code yX4_init cX4_init 1 none ∈ zbig := zin 136 (by decide +kernel) rfl
theorem zki_X4_init : Cond.instanceMethod yX4_init ∈ zbig := zin 135 (by decide +kernel) rfl
theorem zkn_X4_init : Cond.initialized (yX4_init).cls ∈ zbig := zin 40 (by decide +kernel) rfl
theorem zk_X5_init : Cond.code yX5_init cX5_init 3 none ∈ zbig := zin 208 (by decide +kernel) rfl
theorem zki_X5_init : Cond.instanceMethod yX5_init ∈ zbig := zin 207 (by decide +kernel) rfl
theorem zkn_X5_init : Cond.initialized (yX5_init).cls ∈ zbig := zin 41 (by decide +kernel) rfl
theorem zk_X6_init : Cond.code yX6_init cX6_init 1 none ∈ zbig := zin 217 (by decide +kernel) rfl
theorem zki_X6_init : Cond.instanceMethod yX6_init ∈ zbig := zin 216 (by decide +kernel) rfl
theorem zkn_X6_init : Cond.initialized (yX6_init).cls ∈ zbig := zin 42 (by decide +kernel) rfl
theorem zk_X7_init : Cond.code yX7_init cX7_init 1 none ∈ zbig := zin 250 (by decide +kernel) rfl
theorem zki_X7_init : Cond.instanceMethod yX7_init ∈ zbig := zin 249 (by decide +kernel) rfl
theorem zkn_X7_init : Cond.initialized (yX7_init).cls ∈ zbig := zin 43 (by decide +kernel) rfl
theorem zk_X8_mean : Cond.code yX8_mean cX8_mean 4 (some .double) ∈ zbig := zin 320 (by decide +kernel) rfl
theorem zki_X8_mean : Cond.instanceMethod yX8_mean ∈ zbig := zin 318 (by decide +kernel) rfl
theorem zks_X8_mean : Cond.selects (yX8_mean).cls yX8_mean yX8_mean ∈ zbig := zin 319 (by decide +kernel) rfl
theorem zkn_X8_mean : Cond.initialized (yX8_mean).cls ∈ zbig := zin 35 (by decide +kernel) rfl
theorem zk_X8_digest : Cond.code yX8_digest cX8_digest 5 (some .long) ∈ zbig := zin 324 (by decide +kernel) rfl
theorem zki_X8_digest : Cond.instanceMethod yX8_digest ∈ zbig := zin 322 (by decide +kernel) rfl
theorem zks_X8_digest : Cond.selects (yX8_digest).cls yX8_digest yX8_digest ∈ zbig := zin 323 (by decide +kernel) rfl
theorem zkn_X8_digest : Cond.initialized (yX8_digest).cls ∈ zbig := zin 35 (by decide +kernel) rfl
theorem zk_X8_countFact : Cond.code yX8_countFact cX8_countFact 2 (some .int) ∈ zbig := zin 330 (by decide +kernel) rfl
theorem zki_X8_countFact : Cond.instanceMethod yX8_countFact ∈ zbig := zin 329 (by decide +kernel) rfl
theorem zks_X8_countFact : Cond.selects (yX8_countFact).cls yX8_countFact yX8_countFact ∈ zbig := zin 0 (by decide +kernel) rfl
theorem zkn_X8_countFact : Cond.initialized (yX8_countFact).cls ∈ zbig := zin 35 (by decide +kernel) rfl
theorem zk_X5_ridersIn : Cond.code yX5_ridersIn cX5_ridersIn 4 (some .int) ∈ zbig := zin 334 (by decide +kernel) rfl
theorem zki_X5_ridersIn : Cond.instanceMethod yX5_ridersIn ∈ zbig := zin 332 (by decide +kernel) rfl
theorem zks_X5_ridersIn : Cond.selects (yX5_ridersIn).cls yX5_ridersIn yX5_ridersIn ∈ zbig := zin 333 (by decide +kernel) rfl
theorem zkn_X5_ridersIn : Cond.initialized (yX5_ridersIn).cls ∈ zbig := zin 41 (by decide +kernel) rfl
theorem zk_X5_trolleysInAll : Cond.code yX5_trolleysInAll cX5_trolleysInAll 3 (some .int) ∈ zbig := zin 338 (by decide +kernel) rfl
theorem zki_X5_trolleysInAll : Cond.instanceMethod yX5_trolleysInAll ∈ zbig := zin 336 (by decide +kernel) rfl
theorem zks_X5_trolleysInAll : Cond.selects (yX5_trolleysInAll).cls yX5_trolleysInAll yX5_trolleysInAll ∈ zbig := zin 337 (by decide +kernel) rfl
theorem zkn_X5_trolleysInAll : Cond.initialized (yX5_trolleysInAll).cls ∈ zbig := zin 41 (by decide +kernel) rfl
theorem zk_X7_inAll : Cond.code yX7_inAll cX7_inAll 1 (some .int) ∈ zbig := zin 342 (by decide +kernel) rfl
theorem zki_X7_inAll : Cond.instanceMethod yX7_inAll ∈ zbig := zin 340 (by decide +kernel) rfl
theorem zks_X7_inAll : Cond.selects (yX7_inAll).cls yX7_inAll yX7_inAll ∈ zbig := zin 341 (by decide +kernel) rfl
theorem zkn_X7_inAll : Cond.initialized (yX7_inAll).cls ∈ zbig := zin 43 (by decide +kernel) rfl
theorem zk_X5_ridesInAll : Cond.code yX5_ridesInAll cX5_ridesInAll 3 (some .int) ∈ zbig := zin 346 (by decide +kernel) rfl
theorem zki_X5_ridesInAll : Cond.instanceMethod yX5_ridesInAll ∈ zbig := zin 344 (by decide +kernel) rfl
theorem zks_X5_ridesInAll : Cond.selects (yX5_ridesInAll).cls yX5_ridesInAll yX5_ridesInAll ∈ zbig := zin 345 (by decide +kernel) rfl
theorem zkn_X5_ridesInAll : Cond.initialized (yX5_ridesInAll).cls ∈ zbig := zin 41 (by decide +kernel) rfl
theorem zk_X8_digestPlatform : Cond.code yX8_digestPlatform cX8_digestPlatform 7 (some .long) ∈ zbig := zin 350 (by decide +kernel) rfl
theorem zki_X8_digestPlatform : Cond.instanceMethod yX8_digestPlatform ∈ zbig := zin 349 (by decide +kernel) rfl
theorem zks_X8_digestPlatform : Cond.selects (yX8_digestPlatform).cls yX8_digestPlatform yX8_digestPlatform ∈ zbig := zin 1 (by decide +kernel) rfl
theorem zkn_X8_digestPlatform : Cond.initialized (yX8_digestPlatform).cls ∈ zbig := zin 35 (by decide +kernel) rfl
theorem zk_X8_platformFact : Cond.code yX8_platformFact cX8_platformFact 4 (some .int) ∈ zbig := zin 354 (by decide +kernel) rfl
theorem zki_X8_platformFact : Cond.instanceMethod yX8_platformFact ∈ zbig := zin 353 (by decide +kernel) rfl
theorem zks_X8_platformFact : Cond.selects (yX8_platformFact).cls yX8_platformFact yX8_platformFact ∈ zbig := zin 2 (by decide +kernel) rfl
theorem zkn_X8_platformFact : Cond.initialized (yX8_platformFact).cls ∈ zbig := zin 35 (by decide +kernel) rfl
theorem zk_X5_queueLength : Cond.code yX5_queueLength cX5_queueLength 4 (some .int) ∈ zbig := zin 358 (by decide +kernel) rfl
theorem zki_X5_queueLength : Cond.instanceMethod yX5_queueLength ∈ zbig := zin 356 (by decide +kernel) rfl
theorem zks_X5_queueLength : Cond.selects (yX5_queueLength).cls yX5_queueLength yX5_queueLength ∈ zbig := zin 357 (by decide +kernel) rfl
theorem zkn_X5_queueLength : Cond.initialized (yX5_queueLength).cls ∈ zbig := zin 41 (by decide +kernel) rfl
theorem zk_X5_inQueue : Cond.code yX5_inQueue cX5_inQueue 5 (some .int) ∈ zbig := zin 362 (by decide +kernel) rfl
theorem zki_X5_inQueue : Cond.instanceMethod yX5_inQueue ∈ zbig := zin 360 (by decide +kernel) rfl
theorem zks_X5_inQueue : Cond.selects (yX5_inQueue).cls yX5_inQueue yX5_inQueue ∈ zbig := zin 361 (by decide +kernel) rfl
theorem zkn_X5_inQueue : Cond.initialized (yX5_inQueue).cls ∈ zbig := zin 41 (by decide +kernel) rfl
theorem zk_X0_linesWithTop : Cond.code yX0_linesWithTop cX0_linesWithTop 4 (some .int) ∈ zbig := zin 366 (by decide +kernel) rfl
theorem zki_X0_linesWithTop : Cond.instanceMethod yX0_linesWithTop ∈ zbig := zin 364 (by decide +kernel) rfl
theorem zks_X0_linesWithTop : Cond.selects (yX0_linesWithTop).cls yX0_linesWithTop yX0_linesWithTop ∈ zbig := zin 365 (by decide +kernel) rfl
theorem zkn_X0_linesWithTop : Cond.initialized (yX0_linesWithTop).cls ∈ zbig := zin 36 (by decide +kernel) rfl
theorem zk_X0_linesWithBottom : Cond.code yX0_linesWithBottom cX0_linesWithBottom 4 (some .int) ∈ zbig := zin 370 (by decide +kernel) rfl
theorem zki_X0_linesWithBottom : Cond.instanceMethod yX0_linesWithBottom ∈ zbig := zin 368 (by decide +kernel) rfl
theorem zks_X0_linesWithBottom : Cond.selects (yX0_linesWithBottom).cls yX0_linesWithBottom yX0_linesWithBottom ∈ zbig := zin 369 (by decide +kernel) rfl
theorem zkn_X0_linesWithBottom : Cond.initialized (yX0_linesWithBottom).cls ∈ zbig := zin 36 (by decide +kernel) rfl
theorem zk_X5_arrivedAt : Cond.code yX5_arrivedAt cX5_arrivedAt 4 (some .int) ∈ zbig := zin 374 (by decide +kernel) rfl
theorem zki_X5_arrivedAt : Cond.instanceMethod yX5_arrivedAt ∈ zbig := zin 372 (by decide +kernel) rfl
theorem zks_X5_arrivedAt : Cond.selects (yX5_arrivedAt).cls yX5_arrivedAt yX5_arrivedAt ∈ zbig := zin 373 (by decide +kernel) rfl
theorem zkn_X5_arrivedAt : Cond.initialized (yX5_arrivedAt).cls ∈ zbig := zin 41 (by decide +kernel) rfl
theorem zk_X8_lineFact : Cond.code yX8_lineFact cX8_lineFact 5 (some .int) ∈ zbig := zin 378 (by decide +kernel) rfl
theorem zki_X8_lineFact : Cond.instanceMethod yX8_lineFact ∈ zbig := zin 377 (by decide +kernel) rfl
theorem zks_X8_lineFact : Cond.selects (yX8_lineFact).cls yX8_lineFact yX8_lineFact ∈ zbig := zin 3 (by decide +kernel) rfl
theorem zkn_X8_lineFact : Cond.initialized (yX8_lineFact).cls ∈ zbig := zin 35 (by decide +kernel) rfl
theorem zk_X7_ridden : Cond.code yX7_ridden cX7_ridden 3 (some .int) ∈ zbig := zin 383 (by decide +kernel) rfl
theorem zki_X7_ridden : Cond.instanceMethod yX7_ridden ∈ zbig := zin 381 (by decide +kernel) rfl
theorem zks_X7_ridden : Cond.selects (yX7_ridden).cls yX7_ridden yX7_ridden ∈ zbig := zin 382 (by decide +kernel) rfl
theorem zkn_X7_ridden : Cond.initialized (yX7_ridden).cls ∈ zbig := zin 43 (by decide +kernel) rfl
theorem zk_X0_isClosed : Cond.code yX0_isClosed cX0_isClosed 4 (some .boolean) ∈ zbig := zin 387 (by decide +kernel) rfl
theorem zki_X0_isClosed : Cond.instanceMethod yX0_isClosed ∈ zbig := zin 385 (by decide +kernel) rfl
theorem zks_X0_isClosed : Cond.selects (yX0_isClosed).cls yX0_isClosed yX0_isClosed ∈ zbig := zin 386 (by decide +kernel) rfl
theorem zkn_X0_isClosed : Cond.initialized (yX0_isClosed).cls ∈ zbig := zin 36 (by decide +kernel) rfl
theorem zk_J9_floorMod_7cf53 : Cond.code yJ9_floorMod_7cf53 cJ9_floorMod_7cf53 3 (some .int) ∈ zbig := zin 390 (by decide +kernel) rfl
theorem zkt_J9_floorMod_7cf53 : Cond.static yJ9_floorMod_7cf53 ∈ zbig := zin 389 (by decide +kernel) rfl
theorem zkn_J9_floorMod_7cf53 : Cond.initialized (yJ9_floorMod_7cf53).cls ∈ zbig := zin 52 (by decide +kernel) rfl
theorem zk_X8_riderFact : Cond.code yX8_riderFact cX8_riderFact 5 (some .int) ∈ zbig := zin 394 (by decide +kernel) rfl
theorem zki_X8_riderFact : Cond.instanceMethod yX8_riderFact ∈ zbig := zin 393 (by decide +kernel) rfl
theorem zks_X8_riderFact : Cond.selects (yX8_riderFact).cls yX8_riderFact yX8_riderFact ∈ zbig := zin 4 (by decide +kernel) rfl
theorem zkn_X8_riderFact : Cond.initialized (yX8_riderFact).cls ∈ zbig := zin 35 (by decide +kernel) rfl
theorem zk_X4_linesFrom : Cond.code yX4_linesFrom cX4_linesFrom 2 (some .int) ∈ zbig := zin 398 (by decide +kernel) rfl
theorem zki_X4_linesFrom : Cond.instanceMethod yX4_linesFrom ∈ zbig := zin 396 (by decide +kernel) rfl
theorem zks_X4_linesFrom : Cond.selects (yX4_linesFrom).cls yX4_linesFrom yX4_linesFrom ∈ zbig := zin 397 (by decide +kernel) rfl
theorem zkn_X4_linesFrom : Cond.initialized (yX4_linesFrom).cls ∈ zbig := zin 40 (by decide +kernel) rfl
theorem zk_X8_within : Cond.code yX8_within cX8_within 3 (some .boolean) ∈ zbig := zin 401 (by decide +kernel) rfl
theorem zkt_X8_within : Cond.static yX8_within ∈ zbig := zin 400 (by decide +kernel) rfl
theorem zkn_X8_within : Cond.initialized (yX8_within).cls ∈ zbig := zin 35 (by decide +kernel) rfl
theorem zk_J9_max_7cf53 : Cond.code yJ9_max_7cf53 cJ9_max_7cf53 2 (some .int) ∈ zbig := zin 404 (by decide +kernel) rfl
theorem zkt_J9_max_7cf53 : Cond.static yJ9_max_7cf53 ∈ zbig := zin 403 (by decide +kernel) rfl
theorem zkn_J9_max_7cf53 : Cond.initialized (yJ9_max_7cf53).cls ∈ zbig := zin 52 (by decide +kernel) rfl
theorem zk_X4_firstFrom : Cond.code yX4_firstFrom cX4_firstFrom 2 (some .int) ∈ zbig := zin 408 (by decide +kernel) rfl
theorem zki_X4_firstFrom : Cond.instanceMethod yX4_firstFrom ∈ zbig := zin 406 (by decide +kernel) rfl
theorem zks_X4_firstFrom : Cond.selects (yX4_firstFrom).cls yX4_firstFrom yX4_firstFrom ∈ zbig := zin 407 (by decide +kernel) rfl
theorem zkn_X4_firstFrom : Cond.initialized (yX4_firstFrom).cls ∈ zbig := zin 40 (by decide +kernel) rfl
theorem zk_X8_build : Cond.code yX8_build cX8_build 4 (some .int) ∈ zbig := zin 417 (by decide +kernel) rfl
theorem zki_X8_build : Cond.instanceMethod yX8_build ∈ zbig := zin 415 (by decide +kernel) rfl
theorem zks_X8_build : Cond.selects (yX8_build).cls yX8_build yX8_build ∈ zbig := zin 416 (by decide +kernel) rfl
theorem zkn_X8_build : Cond.initialized (yX8_build).cls ∈ zbig := zin 35 (by decide +kernel) rfl
theorem zk_X0_hasPlatformAt : Cond.code yX0_hasPlatformAt cX0_hasPlatformAt 4 (some .boolean) ∈ zbig := zin 490 (by decide +kernel) rfl
theorem zki_X0_hasPlatformAt : Cond.instanceMethod yX0_hasPlatformAt ∈ zbig := zin 488 (by decide +kernel) rfl
theorem zks_X0_hasPlatformAt : Cond.selects (yX0_hasPlatformAt).cls yX0_hasPlatformAt yX0_hasPlatformAt ∈ zbig := zin 489 (by decide +kernel) rfl
theorem zkn_X0_hasPlatformAt : Cond.initialized (yX0_hasPlatformAt).cls ∈ zbig := zin 36 (by decide +kernel) rfl
theorem zk_X0_addPlatform : Cond.code yX0_addPlatform cX0_addPlatform 5 (some .int) ∈ zbig := zin 510 (by decide +kernel) rfl
theorem zki_X0_addPlatform : Cond.instanceMethod yX0_addPlatform ∈ zbig := zin 508 (by decide +kernel) rfl
theorem zks_X0_addPlatform : Cond.selects (yX0_addPlatform).cls yX0_addPlatform yX0_addPlatform ∈ zbig := zin 509 (by decide +kernel) rfl
theorem zkn_X0_addPlatform : Cond.initialized (yX0_addPlatform).cls ∈ zbig := zin 36 (by decide +kernel) rfl
theorem zk_X8_span : Cond.code yX8_span cX8_span 6 (some .int) ∈ zbig := zin 518 (by decide +kernel) rfl
theorem zki_X8_span : Cond.instanceMethod yX8_span ∈ zbig := zin 516 (by decide +kernel) rfl
theorem zks_X8_span : Cond.selects (yX8_span).cls yX8_span yX8_span ∈ zbig := zin 517 (by decide +kernel) rfl
theorem zkn_X8_span : Cond.initialized (yX8_span).cls ∈ zbig := zin 35 (by decide +kernel) rfl
theorem zk_X8_isPlatform : Cond.code yX8_isPlatform cX8_isPlatform 2 (some .boolean) ∈ zbig := zin 522 (by decide +kernel) rfl
theorem zki_X8_isPlatform : Cond.instanceMethod yX8_isPlatform ∈ zbig := zin 521 (by decide +kernel) rfl
theorem zks_X8_isPlatform : Cond.selects (yX8_isPlatform).cls yX8_isPlatform yX8_isPlatform ∈ zbig := zin 6 (by decide +kernel) rfl
theorem zkn_X8_isPlatform : Cond.initialized (yX8_isPlatform).cls ∈ zbig := zin 35 (by decide +kernel) rfl
theorem zk_X0_isLower : Cond.code yX0_isLower cX0_isLower 3 (some .boolean) ∈ zbig := zin 542 (by decide +kernel) rfl
theorem zki_X0_isLower : Cond.instanceMethod yX0_isLower ∈ zbig := zin 540 (by decide +kernel) rfl
theorem zks_X0_isLower : Cond.selects (yX0_isLower).cls yX0_isLower yX0_isLower ∈ zbig := zin 541 (by decide +kernel) rfl
theorem zkn_X0_isLower : Cond.initialized (yX0_isLower).cls ∈ zbig := zin 36 (by decide +kernel) rfl
theorem zk_X0_addLine : Cond.code yX0_addLine cX0_addLine 7 (some .int) ∈ zbig := zin 548 (by decide +kernel) rfl
theorem zki_X0_addLine : Cond.instanceMethod yX0_addLine ∈ zbig := zin 546 (by decide +kernel) rfl
theorem zks_X0_addLine : Cond.selects (yX0_addLine).cls yX0_addLine yX0_addLine ∈ zbig := zin 547 (by decide +kernel) rfl
theorem zkn_X0_addLine : Cond.initialized (yX0_addLine).cls ∈ zbig := zin 36 (by decide +kernel) rfl
theorem zk_X2_distanceTo : Cond.code yX2_distanceTo cX2_distanceTo 2 (some .int) ∈ zbig := zin 552 (by decide +kernel) rfl
theorem zki_X2_distanceTo : Cond.instanceMethod yX2_distanceTo ∈ zbig := zin 550 (by decide +kernel) rfl
theorem zks_X2_distanceTo : Cond.selects (yX2_distanceTo).cls yX2_distanceTo yX2_distanceTo ∈ zbig := zin 551 (by decide +kernel) rfl
theorem zkn_X2_distanceTo : Cond.initialized (yX2_distanceTo).cls ∈ zbig := zin 37 (by decide +kernel) rfl
theorem zk_J9_abs_0f7a4 : Cond.code yJ9_abs_0f7a4 cJ9_abs_0f7a4 1 (some .int) ∈ zbig := zin 555 (by decide +kernel) rfl
theorem zkt_J9_abs_0f7a4 : Cond.static yJ9_abs_0f7a4 ∈ zbig := zin 554 (by decide +kernel) rfl
theorem zkn_J9_abs_0f7a4 : Cond.initialized (yJ9_abs_0f7a4).cls ∈ zbig := zin 52 (by decide +kernel) rfl
theorem zk_X3_planRoute : Cond.code yX3_planRoute cX3_planRoute 2 none ∈ zbig := zin 559 (by decide +kernel) rfl
theorem zki_X3_planRoute : Cond.instanceMethod yX3_planRoute ∈ zbig := zin 557 (by decide +kernel) rfl
theorem zks_X3_planRoute : Cond.selects (yX3_planRoute).cls yX3_planRoute yX3_planRoute ∈ zbig := zin 558 (by decide +kernel) rfl
theorem zkn_X3_planRoute : Cond.initialized (yX3_planRoute).cls ∈ zbig := zin 39 (by decide +kernel) rfl
theorem zk_X4_plan : Cond.code yX4_plan cX4_plan 6 none ∈ zbig := zin 563 (by decide +kernel) rfl
theorem zki_X4_plan : Cond.instanceMethod yX4_plan ∈ zbig := zin 561 (by decide +kernel) rfl
theorem zks_X4_plan : Cond.selects (yX4_plan).cls yX4_plan yX4_plan ∈ zbig := zin 562 (by decide +kernel) rfl
theorem zkn_X4_plan : Cond.initialized (yX4_plan).cls ∈ zbig := zin 40 (by decide +kernel) rfl
theorem zk_X4_extend : Cond.code yX4_extend cX4_extend 6 none ∈ zbig := zin 567 (by decide +kernel) rfl
theorem zki_X4_extend : Cond.instanceMethod yX4_extend ∈ zbig := zin 566 (by decide +kernel) rfl
theorem zks_X4_extend : Cond.selects (yX4_extend).cls yX4_extend yX4_extend ∈ zbig := zin 7 (by decide +kernel) rfl
theorem zkn_X4_extend : Cond.initialized (yX4_extend).cls ∈ zbig := zin 40 (by decide +kernel) rfl
theorem zk_X1_carries : Cond.code yX1_carries cX1_carries 2 (some .boolean) ∈ zbig := zin 571 (by decide +kernel) rfl
theorem zki_X1_carries : Cond.instanceMethod yX1_carries ∈ zbig := zin 569 (by decide +kernel) rfl
theorem zks_X1_carries : Cond.selects (yX1_carries).cls yX1_carries yX1_carries ∈ zbig := zin 570 (by decide +kernel) rfl
theorem zkn_X1_carries : Cond.initialized (yX1_carries).cls ∈ zbig := zin 38 (by decide +kernel) rfl
theorem zk_X5_addTrolleys : Cond.code yX5_addTrolleys cX5_addTrolleys 3 none ∈ zbig := zin 576 (by decide +kernel) rfl
theorem zki_X5_addTrolleys : Cond.instanceMethod yX5_addTrolleys ∈ zbig := zin 574 (by decide +kernel) rfl
theorem zks_X5_addTrolleys : Cond.selects (yX5_addTrolleys).cls yX5_addTrolleys yX5_addTrolleys ∈ zbig := zin 575 (by decide +kernel) rfl
theorem zkn_X5_addTrolleys : Cond.initialized (yX5_addTrolleys).cls ∈ zbig := zin 41 (by decide +kernel) rfl
theorem zk_X8_add : Cond.code yX8_add cX8_add 2 (some .int) ∈ zbig := zin 583 (by decide +kernel) rfl
theorem zki_X8_add : Cond.instanceMethod yX8_add ∈ zbig := zin 581 (by decide +kernel) rfl
theorem zks_X8_add : Cond.selects (yX8_add).cls yX8_add yX8_add ∈ zbig := zin 582 (by decide +kernel) rfl
theorem zkn_X8_add : Cond.initialized (yX8_add).cls ∈ zbig := zin 35 (by decide +kernel) rfl
theorem zk_X8_isLine : Cond.code yX8_isLine cX8_isLine 2 (some .boolean) ∈ zbig := zin 587 (by decide +kernel) rfl
theorem zki_X8_isLine : Cond.instanceMethod yX8_isLine ∈ zbig := zin 586 (by decide +kernel) rfl
theorem zks_X8_isLine : Cond.selects (yX8_isLine).cls yX8_isLine yX8_isLine ∈ zbig := zin 8 (by decide +kernel) rfl
theorem zkn_X8_isLine : Cond.initialized (yX8_isLine).cls ∈ zbig := zin 35 (by decide +kernel) rfl
theorem zk_X8_setWind : Cond.code yX8_setWind cX8_setWind 4 (some .int) ∈ zbig := zin 596 (by decide +kernel) rfl
theorem zki_X8_setWind : Cond.instanceMethod yX8_setWind ∈ zbig := zin 594 (by decide +kernel) rfl
theorem zks_X8_setWind : Cond.selects (yX8_setWind).cls yX8_setWind yX8_setWind ∈ zbig := zin 595 (by decide +kernel) rfl
theorem zkn_X8_setWind : Cond.initialized (yX8_setWind).cls ∈ zbig := zin 35 (by decide +kernel) rfl
theorem zk_X8_platform : Cond.code yX8_platform cX8_platform 3 (some .int) ∈ zbig := zin 605 (by decide +kernel) rfl
theorem zki_X8_platform : Cond.instanceMethod yX8_platform ∈ zbig := zin 603 (by decide +kernel) rfl
theorem zks_X8_platform : Cond.selects (yX8_platform).cls yX8_platform yX8_platform ∈ zbig := zin 604 (by decide +kernel) rfl
theorem zkn_X8_platform : Cond.initialized (yX8_platform).cls ∈ zbig := zin 35 (by decide +kernel) rfl
theorem zk_X8_line : Cond.code yX8_line cX8_line 3 (some .int) ∈ zbig := zin 613 (by decide +kernel) rfl
theorem zki_X8_line : Cond.instanceMethod yX8_line ∈ zbig := zin 611 (by decide +kernel) rfl
theorem zks_X8_line : Cond.selects (yX8_line).cls yX8_line yX8_line ∈ zbig := zin 612 (by decide +kernel) rfl
theorem zkn_X8_line : Cond.initialized (yX8_line).cls ∈ zbig := zin 35 (by decide +kernel) rfl
theorem zk_X8_ride : Cond.code yX8_ride cX8_ride 4 (some .int) ∈ zbig := zin 621 (by decide +kernel) rfl
theorem zki_X8_ride : Cond.instanceMethod yX8_ride ∈ zbig := zin 619 (by decide +kernel) rfl
theorem zks_X8_ride : Cond.selects (yX8_ride).cls yX8_ride yX8_ride ∈ zbig := zin 620 (by decide +kernel) rfl
theorem zkn_X8_ride : Cond.initialized (yX8_ride).cls ∈ zbig := zin 35 (by decide +kernel) rfl
theorem zk_X8_isWeight : Cond.code yX8_isWeight cX8_isWeight 1 (some .boolean) ∈ zbig := zin 624 (by decide +kernel) rfl
theorem zkt_X8_isWeight : Cond.static yX8_isWeight ∈ zbig := zin 623 (by decide +kernel) rfl
theorem zkn_X8_isWeight : Cond.initialized (yX8_isWeight).cls ∈ zbig := zin 35 (by decide +kernel) rfl
theorem zk_X1_getsStuck : Cond.code yX1_getsStuck cX1_getsStuck 2 (some .boolean) ∈ zbig := zin 630 (by decide +kernel) rfl
theorem zki_X1_getsStuck : Cond.instanceMethod yX1_getsStuck ∈ zbig := zin 628 (by decide +kernel) rfl
theorem zks_X1_getsStuck : Cond.selects (yX1_getsStuck).cls yX1_getsStuck yX1_getsStuck ∈ zbig := zin 629 (by decide +kernel) rfl
theorem zkn_X1_getsStuck : Cond.initialized (yX1_getsStuck).cls ∈ zbig := zin 38 (by decide +kernel) rfl
theorem zk_X1_rideMinutes : Cond.code yX1_rideMinutes cX1_rideMinutes 4 (some .int) ∈ zbig := zin 634 (by decide +kernel) rfl
theorem zki_X1_rideMinutes : Cond.instanceMethod yX1_rideMinutes ∈ zbig := zin 632 (by decide +kernel) rfl
theorem zks_X1_rideMinutes : Cond.selects (yX1_rideMinutes).cls yX1_rideMinutes yX1_rideMinutes ∈ zbig := zin 633 (by decide +kernel) rfl
theorem zkn_X1_rideMinutes : Cond.initialized (yX1_rideMinutes).cls ∈ zbig := zin 38 (by decide +kernel) rfl
theorem zk_X8_come : Cond.code yX8_come cX8_come 6 (some .int) ∈ zbig := zin 642 (by decide +kernel) rfl
theorem zki_X8_come : Cond.instanceMethod yX8_come ∈ zbig := zin 640 (by decide +kernel) rfl
theorem zks_X8_come : Cond.selects (yX8_come).cls yX8_come yX8_come ∈ zbig := zin 641 (by decide +kernel) rfl
theorem zkn_X8_come : Cond.initialized (yX8_come).cls ∈ zbig := zin 35 (by decide +kernel) rfl
theorem zk_X0_addRider : Cond.code yX0_addRider cX0_addRider 6 (some .int) ∈ zbig := zin 649 (by decide +kernel) rfl
theorem zki_X0_addRider : Cond.instanceMethod yX0_addRider ∈ zbig := zin 647 (by decide +kernel) rfl
theorem zks_X0_addRider : Cond.selects (yX0_addRider).cls yX0_addRider yX0_addRider ∈ zbig := zin 648 (by decide +kernel) rfl
theorem zkn_X0_addRider : Cond.initialized (yX0_addRider).cls ∈ zbig := zin 36 (by decide +kernel) rfl
theorem zk_X5_reach : Cond.code yX5_reach cX5_reach 3 none ∈ zbig := zin 653 (by decide +kernel) rfl
theorem zki_X5_reach : Cond.instanceMethod yX5_reach ∈ zbig := zin 651 (by decide +kernel) rfl
theorem zks_X5_reach : Cond.selects (yX5_reach).cls yX5_reach yX5_reach ∈ zbig := zin 652 (by decide +kernel) rfl
theorem zkn_X5_reach : Cond.initialized (yX5_reach).cls ∈ zbig := zin 41 (by decide +kernel) rfl
theorem zk_X6_arrive : Cond.code yX6_arrive cX6_arrive 3 none ∈ zbig := zin 657 (by decide +kernel) rfl
theorem zki_X6_arrive : Cond.instanceMethod yX6_arrive ∈ zbig := zin 655 (by decide +kernel) rfl
theorem zks_X6_arrive : Cond.selects (yX6_arrive).cls yX6_arrive yX6_arrive ∈ zbig := zin 656 (by decide +kernel) rfl
theorem zkn_X6_arrive : Cond.initialized (yX6_arrive).cls ∈ zbig := zin 42 (by decide +kernel) rfl
theorem zk_X6_beginWait : Cond.code yX6_beginWait cX6_beginWait 2 none ∈ zbig := zin 661 (by decide +kernel) rfl
theorem zki_X6_beginWait : Cond.instanceMethod yX6_beginWait ∈ zbig := zin 659 (by decide +kernel) rfl
theorem zks_X6_beginWait : Cond.selects (yX6_beginWait).cls yX6_beginWait yX6_beginWait ∈ zbig := zin 660 (by decide +kernel) rfl
theorem zkn_X6_beginWait : Cond.initialized (yX6_beginWait).cls ∈ zbig := zin 42 (by decide +kernel) rfl
theorem zk_X8_rider : Cond.code yX8_rider cX8_rider 3 (some .int) ∈ zbig := zin 668 (by decide +kernel) rfl
theorem zki_X8_rider : Cond.instanceMethod yX8_rider ∈ zbig := zin 666 (by decide +kernel) rfl
theorem zks_X8_rider : Cond.selects (yX8_rider).cls yX8_rider yX8_rider ∈ zbig := zin 667 (by decide +kernel) rfl
theorem zkn_X8_rider : Cond.initialized (yX8_rider).cls ∈ zbig := zin 35 (by decide +kernel) rfl
theorem zk_X8_isRider : Cond.code yX8_isRider cX8_isRider 2 (some .boolean) ∈ zbig := zin 672 (by decide +kernel) rfl
theorem zki_X8_isRider : Cond.instanceMethod yX8_isRider ∈ zbig := zin 671 (by decide +kernel) rfl
theorem zks_X8_isRider : Cond.selects (yX8_isRider).cls yX8_isRider yX8_isRider ∈ zbig := zin 9 (by decide +kernel) rfl
theorem zkn_X8_isRider : Cond.initialized (yX8_isRider).cls ∈ zbig := zin 35 (by decide +kernel) rfl
theorem zk_X8_queue : Cond.code yX8_queue cX8_queue 3 (some .int) ∈ zbig := zin 680 (by decide +kernel) rfl
theorem zki_X8_queue : Cond.instanceMethod yX8_queue ∈ zbig := zin 678 (by decide +kernel) rfl
theorem zks_X8_queue : Cond.selects (yX8_queue).cls yX8_queue yX8_queue ∈ zbig := zin 679 (by decide +kernel) rfl
theorem zkn_X8_queue : Cond.initialized (yX8_queue).cls ∈ zbig := zin 35 (by decide +kernel) rfl
theorem zk_X8_pass : Cond.code yX8_pass cX8_pass 2 (some .int) ∈ zbig := zin 688 (by decide +kernel) rfl
theorem zki_X8_pass : Cond.instanceMethod yX8_pass ∈ zbig := zin 686 (by decide +kernel) rfl
theorem zks_X8_pass : Cond.selects (yX8_pass).cls yX8_pass yX8_pass ∈ zbig := zin 687 (by decide +kernel) rfl
theorem zkn_X8_pass : Cond.initialized (yX8_pass).cls ∈ zbig := zin 35 (by decide +kernel) rfl
theorem zk_X5_goOn : Cond.code yX5_goOn cX5_goOn 4 (some .int) ∈ zbig := zin 693 (by decide +kernel) rfl
theorem zki_X5_goOn : Cond.instanceMethod yX5_goOn ∈ zbig := zin 691 (by decide +kernel) rfl
theorem zks_X5_goOn : Cond.selects (yX5_goOn).cls yX5_goOn yX5_goOn ∈ zbig := zin 692 (by decide +kernel) rfl
theorem zkn_X5_goOn : Cond.initialized (yX5_goOn).cls ∈ zbig := zin 41 (by decide +kernel) rfl
theorem zk_X5_passMinute : Cond.code yX5_passMinute cX5_passMinute 2 none ∈ zbig := zin 698 (by decide +kernel) rfl
theorem zki_X5_passMinute : Cond.instanceMethod yX5_passMinute ∈ zbig := zin 696 (by decide +kernel) rfl
theorem zks_X5_passMinute : Cond.selects (yX5_passMinute).cls yX5_passMinute yX5_passMinute ∈ zbig := zin 697 (by decide +kernel) rfl
theorem zkn_X5_passMinute : Cond.initialized (yX5_passMinute).cls ∈ zbig := zin 41 (by decide +kernel) rfl
theorem zk_X5_moveTrolleys : Cond.code yX5_moveTrolleys cX5_moveTrolleys 5 none ∈ zbig := zin 702 (by decide +kernel) rfl
theorem zki_X5_moveTrolleys : Cond.instanceMethod yX5_moveTrolleys ∈ zbig := zin 701 (by decide +kernel) rfl
theorem zks_X5_moveTrolleys : Cond.selects (yX5_moveTrolleys).cls yX5_moveTrolleys yX5_moveTrolleys ∈ zbig := zin 10 (by decide +kernel) rfl
theorem zkn_X5_moveTrolleys : Cond.initialized (yX5_moveTrolleys).cls ∈ zbig := zin 41 (by decide +kernel) rfl
theorem zk_X1_pullMinutes : Cond.code yX1_pullMinutes cX1_pullMinutes 1 (some .int) ∈ zbig := zin 706 (by decide +kernel) rfl
theorem zki_X1_pullMinutes : Cond.instanceMethod yX1_pullMinutes ∈ zbig := zin 704 (by decide +kernel) rfl
theorem zks_X1_pullMinutes : Cond.selects (yX1_pullMinutes).cls yX1_pullMinutes yX1_pullMinutes ∈ zbig := zin 705 (by decide +kernel) rfl
theorem zkn_X1_pullMinutes : Cond.initialized (yX1_pullMinutes).cls ∈ zbig := zin 38 (by decide +kernel) rfl
theorem zk_X7_beginPull : Cond.code yX7_beginPull cX7_beginPull 3 none ∈ zbig := zin 710 (by decide +kernel) rfl
theorem zki_X7_beginPull : Cond.instanceMethod yX7_beginPull ∈ zbig := zin 708 (by decide +kernel) rfl
theorem zks_X7_beginPull : Cond.selects (yX7_beginPull).cls yX7_beginPull yX7_beginPull ∈ zbig := zin 709 (by decide +kernel) rfl
theorem zkn_X7_beginPull : Cond.initialized (yX7_beginPull).cls ∈ zbig := zin 43 (by decide +kernel) rfl
theorem zk_X7_dropPulled : Cond.code yX7_dropPulled cX7_dropPulled 3 none ∈ zbig := zin 715 (by decide +kernel) rfl
theorem zki_X7_dropPulled : Cond.instanceMethod yX7_dropPulled ∈ zbig := zin 713 (by decide +kernel) rfl
theorem zks_X7_dropPulled : Cond.selects (yX7_dropPulled).cls yX7_dropPulled yX7_dropPulled ∈ zbig := zin 714 (by decide +kernel) rfl
theorem zkn_X7_dropPulled : Cond.initialized (yX7_dropPulled).cls ∈ zbig := zin 43 (by decide +kernel) rfl
theorem zk_X5_beginRide : Cond.code yX5_beginRide cX5_beginRide 7 none ∈ zbig := zin 720 (by decide +kernel) rfl
theorem zki_X5_beginRide : Cond.instanceMethod yX5_beginRide ∈ zbig := zin 719 (by decide +kernel) rfl
theorem zks_X5_beginRide : Cond.selects (yX5_beginRide).cls yX5_beginRide yX5_beginRide ∈ zbig := zin 11 (by decide +kernel) rfl
theorem zkn_X5_beginRide : Cond.initialized (yX5_beginRide).cls ∈ zbig := zin 41 (by decide +kernel) rfl
theorem zk_X5_firstWaitingFor : Cond.code yX5_firstWaitingFor cX5_firstWaitingFor 4 (some .int) ∈ zbig := zin 724 (by decide +kernel) rfl
theorem zki_X5_firstWaitingFor : Cond.instanceMethod yX5_firstWaitingFor ∈ zbig := zin 723 (by decide +kernel) rfl
theorem zks_X5_firstWaitingFor : Cond.selects (yX5_firstWaitingFor).cls yX5_firstWaitingFor yX5_firstWaitingFor ∈ zbig := zin 12 (by decide +kernel) rfl
theorem zkn_X5_firstWaitingFor : Cond.initialized (yX5_firstWaitingFor).cls ∈ zbig := zin 41 (by decide +kernel) rfl
theorem zk_X7_canLeaveTop : Cond.code yX7_canLeaveTop cX7_canLeaveTop 1 (some .boolean) ∈ zbig := zin 729 (by decide +kernel) rfl
theorem zki_X7_canLeaveTop : Cond.instanceMethod yX7_canLeaveTop ∈ zbig := zin 727 (by decide +kernel) rfl
theorem zks_X7_canLeaveTop : Cond.selects (yX7_canLeaveTop).cls yX7_canLeaveTop yX7_canLeaveTop ∈ zbig := zin 728 (by decide +kernel) rfl
theorem zkn_X7_canLeaveTop : Cond.initialized (yX7_canLeaveTop).cls ∈ zbig := zin 43 (by decide +kernel) rfl
theorem zk_X5_leaveWaiting : Cond.code yX5_leaveWaiting cX5_leaveWaiting 3 none ∈ zbig := zin 734 (by decide +kernel) rfl
theorem zki_X5_leaveWaiting : Cond.instanceMethod yX5_leaveWaiting ∈ zbig := zin 733 (by decide +kernel) rfl
theorem zks_X5_leaveWaiting : Cond.selects (yX5_leaveWaiting).cls yX5_leaveWaiting yX5_leaveWaiting ∈ zbig := zin 13 (by decide +kernel) rfl
theorem zkn_X5_leaveWaiting : Cond.initialized (yX5_leaveWaiting).cls ∈ zbig := zin 41 (by decide +kernel) rfl
theorem zk_X6_beginRide : Cond.code yX6_beginRide cX6_beginRide 3 none ∈ zbig := zin 738 (by decide +kernel) rfl
theorem zki_X6_beginRide : Cond.instanceMethod yX6_beginRide ∈ zbig := zin 736 (by decide +kernel) rfl
theorem zks_X6_beginRide : Cond.selects (yX6_beginRide).cls yX6_beginRide yX6_beginRide ∈ zbig := zin 737 (by decide +kernel) rfl
theorem zkn_X6_beginRide : Cond.initialized (yX6_beginRide).cls ∈ zbig := zin 42 (by decide +kernel) rfl
theorem zk_X7_leaveTop : Cond.code yX7_leaveTop cX7_leaveTop 3 none ∈ zbig := zin 742 (by decide +kernel) rfl
theorem zki_X7_leaveTop : Cond.instanceMethod yX7_leaveTop ∈ zbig := zin 740 (by decide +kernel) rfl
theorem zks_X7_leaveTop : Cond.selects (yX7_leaveTop).cls yX7_leaveTop yX7_leaveTop ∈ zbig := zin 741 (by decide +kernel) rfl
theorem zkn_X7_leaveTop : Cond.initialized (yX7_leaveTop).cls ∈ zbig := zin 43 (by decide +kernel) rfl
theorem zk_X5_tireWaiting : Cond.code yX5_tireWaiting cX5_tireWaiting 5 none ∈ zbig := zin 747 (by decide +kernel) rfl
theorem zki_X5_tireWaiting : Cond.instanceMethod yX5_tireWaiting ∈ zbig := zin 746 (by decide +kernel) rfl
theorem zks_X5_tireWaiting : Cond.selects (yX5_tireWaiting).cls yX5_tireWaiting yX5_tireWaiting ∈ zbig := zin 14 (by decide +kernel) rfl
theorem zkn_X5_tireWaiting : Cond.initialized (yX5_tireWaiting).cls ∈ zbig := zin 41 (by decide +kernel) rfl
theorem zk_X5_givesUp : Cond.code yX5_givesUp cX5_givesUp 2 (some .boolean) ∈ zbig := zin 750 (by decide +kernel) rfl
theorem zkt_X5_givesUp : Cond.static yX5_givesUp ∈ zbig := zin 749 (by decide +kernel) rfl
theorem zkn_X5_givesUp : Cond.initialized (yX5_givesUp).cls ∈ zbig := zin 41 (by decide +kernel) rfl
theorem zk_X6_giveUp : Cond.code yX6_giveUp cX6_giveUp 1 none ∈ zbig := zin 755 (by decide +kernel) rfl
theorem zki_X6_giveUp : Cond.instanceMethod yX6_giveUp ∈ zbig := zin 753 (by decide +kernel) rfl
theorem zks_X6_giveUp : Cond.selects (yX6_giveUp).cls yX6_giveUp yX6_giveUp ∈ zbig := zin 754 (by decide +kernel) rfl
theorem zkn_X6_giveUp : Cond.initialized (yX6_giveUp).cls ∈ zbig := zin 42 (by decide +kernel) rfl
theorem zk_X8_count : Cond.code yX8_count cX8_count 2 (some .int) ∈ zbig := zin 762 (by decide +kernel) rfl
theorem zki_X8_count : Cond.instanceMethod yX8_count ∈ zbig := zin 760 (by decide +kernel) rfl
theorem zks_X8_count : Cond.selects (yX8_count).cls yX8_count yX8_count ∈ zbig := zin 761 (by decide +kernel) rfl
theorem zkn_X8_count : Cond.initialized (yX8_count).cls ∈ zbig := zin 35 (by decide +kernel) rfl
theorem zk_X8_way : Cond.code yX8_way cX8_way 4 (some .int) ∈ zbig := zin 770 (by decide +kernel) rfl
theorem zki_X8_way : Cond.instanceMethod yX8_way ∈ zbig := zin 768 (by decide +kernel) rfl
theorem zks_X8_way : Cond.selects (yX8_way).cls yX8_way yX8_way ∈ zbig := zin 769 (by decide +kernel) rfl
theorem zkn_X8_way : Cond.initialized (yX8_way).cls ∈ zbig := zin 35 (by decide +kernel) rfl
theorem zk_X8_arrives : Cond.code yX8_arrives cX8_arrives 4 (some .int) ∈ zbig := zin 778 (by decide +kernel) rfl
theorem zki_X8_arrives : Cond.instanceMethod yX8_arrives ∈ zbig := zin 776 (by decide +kernel) rfl
theorem zks_X8_arrives : Cond.selects (yX8_arrives).cls yX8_arrives yX8_arrives ∈ zbig := zin 777 (by decide +kernel) rfl
theorem zkn_X8_arrives : Cond.initialized (yX8_arrives).cls ∈ zbig := zin 35 (by decide +kernel) rfl
theorem zk_X5_copyFrom : Cond.code yX5_copyFrom cX5_copyFrom 3 none ∈ zbig := zin 783 (by decide +kernel) rfl
theorem zki_X5_copyFrom : Cond.instanceMethod yX5_copyFrom ∈ zbig := zin 781 (by decide +kernel) rfl
theorem zks_X5_copyFrom : Cond.selects (yX5_copyFrom).cls yX5_copyFrom yX5_copyFrom ∈ zbig := zin 782 (by decide +kernel) rfl
theorem zkn_X5_copyFrom : Cond.initialized (yX5_copyFrom).cls ∈ zbig := zin 41 (by decide +kernel) rfl
theorem zk_X6_copyFrom : Cond.code yX6_copyFrom cX6_copyFrom 2 none ∈ zbig := zin 787 (by decide +kernel) rfl
theorem zki_X6_copyFrom : Cond.instanceMethod yX6_copyFrom ∈ zbig := zin 785 (by decide +kernel) rfl
theorem zks_X6_copyFrom : Cond.selects (yX6_copyFrom).cls yX6_copyFrom yX6_copyFrom ∈ zbig := zin 786 (by decide +kernel) rfl
theorem zkn_X6_copyFrom : Cond.initialized (yX6_copyFrom).cls ∈ zbig := zin 42 (by decide +kernel) rfl
theorem zk_X7_copyFrom : Cond.code yX7_copyFrom cX7_copyFrom 3 none ∈ zbig := zin 791 (by decide +kernel) rfl
theorem zki_X7_copyFrom : Cond.instanceMethod yX7_copyFrom ∈ zbig := zin 789 (by decide +kernel) rfl
theorem zks_X7_copyFrom : Cond.selects (yX7_copyFrom).cls yX7_copyFrom yX7_copyFrom ∈ zbig := zin 790 (by decide +kernel) rfl
theorem zkn_X7_copyFrom : Cond.initialized (yX7_copyFrom).cls ∈ zbig := zin 43 (by decide +kernel) rfl
theorem zk_X6_isUnderWay : Cond.code yX6_isUnderWay cX6_isUnderWay 1 (some .boolean) ∈ zbig := zin 795 (by decide +kernel) rfl
theorem zki_X6_isUnderWay : Cond.instanceMethod yX6_isUnderWay ∈ zbig := zin 793 (by decide +kernel) rfl
theorem zks_X6_isUnderWay : Cond.selects (yX6_isUnderWay).cls yX6_isUnderWay yX6_isUnderWay ∈ zbig := zin 794 (by decide +kernel) rfl
theorem zkn_X6_isUnderWay : Cond.initialized (yX6_isUnderWay).cls ∈ zbig := zin 42 (by decide +kernel) rfl
theorem zk_X8_advise : Cond.code yX8_advise cX8_advise 6 (some .int) ∈ zbig := zin 803 (by decide +kernel) rfl
theorem zki_X8_advise : Cond.instanceMethod yX8_advise ∈ zbig := zin 801 (by decide +kernel) rfl
theorem zks_X8_advise : Cond.selects (yX8_advise).cls yX8_advise yX8_advise ∈ zbig := zin 802 (by decide +kernel) rfl
theorem zkn_X8_advise : Cond.initialized (yX8_advise).cls ∈ zbig := zin 35 (by decide +kernel) rfl
theorem zk_X8_arrivalsWithOneMore : Cond.code yX8_arrivalsWithOneMore cX8_arrivalsWithOneMore 3 (some .int) ∈ zbig := zin 808 (by decide +kernel) rfl
theorem zki_X8_arrivalsWithOneMore : Cond.instanceMethod yX8_arrivalsWithOneMore ∈ zbig := zin 807 (by decide +kernel) rfl
theorem zks_X8_arrivalsWithOneMore : Cond.selects (yX8_arrivalsWithOneMore).cls yX8_arrivalsWithOneMore yX8_arrivalsWithOneMore ∈ zbig := zin 15 (by decide +kernel) rfl
theorem zkn_X8_arrivalsWithOneMore : Cond.initialized (yX8_arrivalsWithOneMore).cls ∈ zbig := zin 35 (by decide +kernel) rfl
theorem zk_X10_init : Cond.code yX10_init cX10_init 1 none ∈ zbig := zin 813 (by decide +kernel) rfl
theorem zki_X10_init : Cond.instanceMethod yX10_init ∈ zbig := zin 812 (by decide +kernel) rfl
theorem zkn_X10_init : Cond.initialized (yX10_init).cls ∈ zbig := zin 44 (by decide +kernel) rfl
theorem zk_X9_init : Cond.code yX9_init cX9_init 2 none ∈ zbig := zin 819 (by decide +kernel) rfl
theorem zki_X9_init : Cond.instanceMethod yX9_init ∈ zbig := zin 818 (by decide +kernel) rfl
theorem zkn_X9_init : Cond.initialized (yX9_init).cls ∈ zbig := zin 45 (by decide +kernel) rfl
theorem zk_X10_thrown : Cond.code yX10_thrown cX10_thrown 1 (some .int) ∈ zbig := zin 938 (by decide +kernel) rfl
theorem zki_X10_thrown : Cond.instanceMethod yX10_thrown ∈ zbig := zin 936 (by decide +kernel) rfl
theorem zks_X10_thrown : Cond.selects (yX10_thrown).cls yX10_thrown yX10_thrown ∈ zbig := zin 937 (by decide +kernel) rfl
theorem zkn_X10_thrown : Cond.initialized (yX10_thrown).cls ∈ zbig := zin 44 (by decide +kernel) rfl
theorem zk_X10_build : Cond.code yX10_build cX10_build 6 (some .int) ∈ zbig := zin 942 (by decide +kernel) rfl
theorem zki_X10_build : Cond.instanceMethod yX10_build ∈ zbig := zin 940 (by decide +kernel) rfl
theorem zks_X10_build : Cond.selects (yX10_build).cls yX10_build yX10_build ∈ zbig := zin 941 (by decide +kernel) rfl
theorem zkn_X10_build : Cond.initialized (yX10_build).cls ∈ zbig := zin 44 (by decide +kernel) rfl
theorem zk_X10_isIn : Cond.code yX10_isIn cX10_isIn 3 (some .boolean) ∈ zbig := zin 945 (by decide +kernel) rfl
theorem zkt_X10_isIn : Cond.static yX10_isIn ∈ zbig := zin 944 (by decide +kernel) rfl
theorem zkn_X10_isIn : Cond.initialized (yX10_isIn).cls ∈ zbig := zin 44 (by decide +kernel) rfl
theorem zk_X10_no : Cond.code yX10_no cX10_no 2 (some .int) ∈ zbig := zin 949 (by decide +kernel) rfl
theorem zki_X10_no : Cond.instanceMethod yX10_no ∈ zbig := zin 948 (by decide +kernel) rfl
theorem zks_X10_no : Cond.selects (yX10_no).cls yX10_no yX10_no ∈ zbig := zin 16 (by decide +kernel) rfl
theorem zkn_X10_no : Cond.initialized (yX10_no).cls ∈ zbig := zin 44 (by decide +kernel) rfl
theorem zk_X10_span : Cond.code yX10_span cX10_span 5 (some .int) ∈ zbig := zin 953 (by decide +kernel) rfl
theorem zki_X10_span : Cond.instanceMethod yX10_span ∈ zbig := zin 951 (by decide +kernel) rfl
theorem zks_X10_span : Cond.selects (yX10_span).cls yX10_span yX10_span ∈ zbig := zin 952 (by decide +kernel) rfl
theorem zkn_X10_span : Cond.initialized (yX10_span).cls ∈ zbig := zin 44 (by decide +kernel) rfl
theorem zk_X10_isPlatform : Cond.code yX10_isPlatform cX10_isPlatform 2 (some .boolean) ∈ zbig := zin 957 (by decide +kernel) rfl
theorem zki_X10_isPlatform : Cond.instanceMethod yX10_isPlatform ∈ zbig := zin 956 (by decide +kernel) rfl
theorem zks_X10_isPlatform : Cond.selects (yX10_isPlatform).cls yX10_isPlatform yX10_isPlatform ∈ zbig := zin 17 (by decide +kernel) rfl
theorem zkn_X10_isPlatform : Cond.initialized (yX10_isPlatform).cls ∈ zbig := zin 44 (by decide +kernel) rfl
theorem zk_X10_add : Cond.code yX10_add cX10_add 2 (some .int) ∈ zbig := zin 961 (by decide +kernel) rfl
theorem zki_X10_add : Cond.instanceMethod yX10_add ∈ zbig := zin 959 (by decide +kernel) rfl
theorem zks_X10_add : Cond.selects (yX10_add).cls yX10_add yX10_add ∈ zbig := zin 960 (by decide +kernel) rfl
theorem zkn_X10_add : Cond.initialized (yX10_add).cls ∈ zbig := zin 44 (by decide +kernel) rfl
theorem zk_X10_isLine : Cond.code yX10_isLine cX10_isLine 2 (some .boolean) ∈ zbig := zin 965 (by decide +kernel) rfl
theorem zki_X10_isLine : Cond.instanceMethod yX10_isLine ∈ zbig := zin 964 (by decide +kernel) rfl
theorem zks_X10_isLine : Cond.selects (yX10_isLine).cls yX10_isLine yX10_isLine ∈ zbig := zin 18 (by decide +kernel) rfl
theorem zkn_X10_isLine : Cond.initialized (yX10_isLine).cls ∈ zbig := zin 44 (by decide +kernel) rfl
theorem zk_X10_setWind : Cond.code yX10_setWind cX10_setWind 4 (some .int) ∈ zbig := zin 969 (by decide +kernel) rfl
theorem zki_X10_setWind : Cond.instanceMethod yX10_setWind ∈ zbig := zin 967 (by decide +kernel) rfl
theorem zks_X10_setWind : Cond.selects (yX10_setWind).cls yX10_setWind yX10_setWind ∈ zbig := zin 968 (by decide +kernel) rfl
theorem zkn_X10_setWind : Cond.initialized (yX10_setWind).cls ∈ zbig := zin 44 (by decide +kernel) rfl
theorem zk_X10_platform : Cond.code yX10_platform cX10_platform 3 (some .int) ∈ zbig := zin 973 (by decide +kernel) rfl
theorem zki_X10_platform : Cond.instanceMethod yX10_platform ∈ zbig := zin 971 (by decide +kernel) rfl
theorem zks_X10_platform : Cond.selects (yX10_platform).cls yX10_platform yX10_platform ∈ zbig := zin 972 (by decide +kernel) rfl
theorem zkn_X10_platform : Cond.initialized (yX10_platform).cls ∈ zbig := zin 44 (by decide +kernel) rfl
theorem zk_X10_platformTold : Cond.code yX10_platformTold cX10_platformTold 7 (some .int) ∈ zbig := zin 977 (by decide +kernel) rfl
theorem zki_X10_platformTold : Cond.instanceMethod yX10_platformTold ∈ zbig := zin 976 (by decide +kernel) rfl
theorem zks_X10_platformTold : Cond.selects (yX10_platformTold).cls yX10_platformTold yX10_platformTold ∈ zbig := zin 19 (by decide +kernel) rfl
theorem zkn_X10_platformTold : Cond.initialized (yX10_platformTold).cls ∈ zbig := zin 44 (by decide +kernel) rfl
theorem zk_X10_line : Cond.code yX10_line cX10_line 3 (some .int) ∈ zbig := zin 981 (by decide +kernel) rfl
theorem zki_X10_line : Cond.instanceMethod yX10_line ∈ zbig := zin 979 (by decide +kernel) rfl
theorem zks_X10_line : Cond.selects (yX10_line).cls yX10_line yX10_line ∈ zbig := zin 980 (by decide +kernel) rfl
theorem zkn_X10_line : Cond.initialized (yX10_line).cls ∈ zbig := zin 44 (by decide +kernel) rfl
theorem zk_X10_lineTold : Cond.code yX10_lineTold cX10_lineTold 4 (some .int) ∈ zbig := zin 985 (by decide +kernel) rfl
theorem zki_X10_lineTold : Cond.instanceMethod yX10_lineTold ∈ zbig := zin 984 (by decide +kernel) rfl
theorem zks_X10_lineTold : Cond.selects (yX10_lineTold).cls yX10_lineTold yX10_lineTold ∈ zbig := zin 20 (by decide +kernel) rfl
theorem zkn_X10_lineTold : Cond.initialized (yX10_lineTold).cls ∈ zbig := zin 44 (by decide +kernel) rfl
theorem zk_X10_lengthOf : Cond.code yX10_lengthOf cX10_lengthOf 2 (some .int) ∈ zbig := zin 989 (by decide +kernel) rfl
theorem zki_X10_lengthOf : Cond.instanceMethod yX10_lengthOf ∈ zbig := zin 988 (by decide +kernel) rfl
theorem zks_X10_lengthOf : Cond.selects (yX10_lengthOf).cls yX10_lengthOf yX10_lengthOf ∈ zbig := zin 21 (by decide +kernel) rfl
theorem zkn_X10_lengthOf : Cond.initialized (yX10_lengthOf).cls ∈ zbig := zin 44 (by decide +kernel) rfl
theorem zk_X10_dropOf : Cond.code yX10_dropOf cX10_dropOf 2 (some .int) ∈ zbig := zin 994 (by decide +kernel) rfl
theorem zki_X10_dropOf : Cond.instanceMethod yX10_dropOf ∈ zbig := zin 993 (by decide +kernel) rfl
theorem zks_X10_dropOf : Cond.selects (yX10_dropOf).cls yX10_dropOf yX10_dropOf ∈ zbig := zin 22 (by decide +kernel) rfl
theorem zkn_X10_dropOf : Cond.initialized (yX10_dropOf).cls ∈ zbig := zin 44 (by decide +kernel) rfl
theorem zk_X9_riding : Cond.code yX9_riding cX9_riding 4 (some .int) ∈ zbig := zin 998 (by decide +kernel) rfl
theorem zki_X9_riding : Cond.instanceMethod yX9_riding ∈ zbig := zin 996 (by decide +kernel) rfl
theorem zks_X9_riding : Cond.selects (yX9_riding).cls yX9_riding yX9_riding ∈ zbig := zin 997 (by decide +kernel) rfl
theorem zkn_X9_riding : Cond.initialized (yX9_riding).cls ∈ zbig := zin 45 (by decide +kernel) rfl
theorem zk_X10_isClosed : Cond.code yX10_isClosed cX10_isClosed 3 (some .boolean) ∈ zbig := zin 1002 (by decide +kernel) rfl
theorem zki_X10_isClosed : Cond.instanceMethod yX10_isClosed ∈ zbig := zin 1001 (by decide +kernel) rfl
theorem zks_X10_isClosed : Cond.selects (yX10_isClosed).cls yX10_isClosed yX10_isClosed ∈ zbig := zin 23 (by decide +kernel) rfl
theorem zkn_X10_isClosed : Cond.initialized (yX10_isClosed).cls ∈ zbig := zin 44 (by decide +kernel) rfl
theorem zk_X10_ride : Cond.code yX10_ride cX10_ride 3 (some .int) ∈ zbig := zin 1006 (by decide +kernel) rfl
theorem zki_X10_ride : Cond.instanceMethod yX10_ride ∈ zbig := zin 1004 (by decide +kernel) rfl
theorem zks_X10_ride : Cond.selects (yX10_ride).cls yX10_ride yX10_ride ∈ zbig := zin 1005 (by decide +kernel) rfl
theorem zkn_X10_ride : Cond.initialized (yX10_ride).cls ∈ zbig := zin 44 (by decide +kernel) rfl
theorem zk_X10_rideOf : Cond.code yX10_rideOf cX10_rideOf 5 (some .int) ∈ zbig := zin 1010 (by decide +kernel) rfl
theorem zki_X10_rideOf : Cond.instanceMethod yX10_rideOf ∈ zbig := zin 1009 (by decide +kernel) rfl
theorem zks_X10_rideOf : Cond.selects (yX10_rideOf).cls yX10_rideOf yX10_rideOf ∈ zbig := zin 24 (by decide +kernel) rfl
theorem zkn_X10_rideOf : Cond.initialized (yX10_rideOf).cls ∈ zbig := zin 44 (by decide +kernel) rfl
theorem zk_X10_come : Cond.code yX10_come cX10_come 5 (some .int) ∈ zbig := zin 1014 (by decide +kernel) rfl
theorem zki_X10_come : Cond.instanceMethod yX10_come ∈ zbig := zin 1012 (by decide +kernel) rfl
theorem zks_X10_come : Cond.selects (yX10_come).cls yX10_come yX10_come ∈ zbig := zin 1013 (by decide +kernel) rfl
theorem zkn_X10_come : Cond.initialized (yX10_come).cls ∈ zbig := zin 44 (by decide +kernel) rfl
theorem zk_X9_come : Cond.code yX9_come cX9_come 3 none ∈ zbig := zin 1018 (by decide +kernel) rfl
theorem zki_X9_come : Cond.instanceMethod yX9_come ∈ zbig := zin 1016 (by decide +kernel) rfl
theorem zks_X9_come : Cond.selects (yX9_come).cls yX9_come yX9_come ∈ zbig := zin 1017 (by decide +kernel) rfl
theorem zkn_X9_come : Cond.initialized (yX9_come).cls ∈ zbig := zin 45 (by decide +kernel) rfl
theorem zk_X10_rider : Cond.code yX10_rider cX10_rider 3 (some .int) ∈ zbig := zin 1022 (by decide +kernel) rfl
theorem zki_X10_rider : Cond.instanceMethod yX10_rider ∈ zbig := zin 1020 (by decide +kernel) rfl
theorem zks_X10_rider : Cond.selects (yX10_rider).cls yX10_rider yX10_rider ∈ zbig := zin 1021 (by decide +kernel) rfl
theorem zkn_X10_rider : Cond.initialized (yX10_rider).cls ∈ zbig := zin 44 (by decide +kernel) rfl
theorem zk_X10_riderTold : Cond.code yX10_riderTold cX10_riderTold 4 (some .int) ∈ zbig := zin 1026 (by decide +kernel) rfl
theorem zki_X10_riderTold : Cond.instanceMethod yX10_riderTold ∈ zbig := zin 1025 (by decide +kernel) rfl
theorem zks_X10_riderTold : Cond.selects (yX10_riderTold).cls yX10_riderTold yX10_riderTold ∈ zbig := zin 25 (by decide +kernel) rfl
theorem zkn_X10_riderTold : Cond.initialized (yX10_riderTold).cls ∈ zbig := zin 44 (by decide +kernel) rfl
theorem zk_X9_leftOf : Cond.code yX9_leftOf cX9_leftOf 3 (some .int) ∈ zbig := zin 1030 (by decide +kernel) rfl
theorem zki_X9_leftOf : Cond.instanceMethod yX9_leftOf ∈ zbig := zin 1028 (by decide +kernel) rfl
theorem zks_X9_leftOf : Cond.selects (yX9_leftOf).cls yX9_leftOf yX9_leftOf ∈ zbig := zin 1029 (by decide +kernel) rfl
theorem zkn_X9_leftOf : Cond.initialized (yX9_leftOf).cls ∈ zbig := zin 45 (by decide +kernel) rfl
theorem zk_X10_fewest : Cond.code yX10_fewest cX10_fewest 7 (some .int) ∈ zbig := zin 1034 (by decide +kernel) rfl
theorem zki_X10_fewest : Cond.instanceMethod yX10_fewest ∈ zbig := zin 1033 (by decide +kernel) rfl
theorem zks_X10_fewest : Cond.selects (yX10_fewest).cls yX10_fewest yX10_fewest ∈ zbig := zin 26 (by decide +kernel) rfl
theorem zkn_X10_fewest : Cond.initialized (yX10_fewest).cls ∈ zbig := zin 44 (by decide +kernel) rfl
theorem zk_X10_first : Cond.code yX10_first cX10_first 6 (some .int) ∈ zbig := zin 1039 (by decide +kernel) rfl
theorem zki_X10_first : Cond.instanceMethod yX10_first ∈ zbig := zin 1038 (by decide +kernel) rfl
theorem zks_X10_first : Cond.selects (yX10_first).cls yX10_first yX10_first ∈ zbig := zin 27 (by decide +kernel) rfl
theorem zkn_X10_first : Cond.initialized (yX10_first).cls ∈ zbig := zin 44 (by decide +kernel) rfl
theorem zk_X10_queue : Cond.code yX10_queue cX10_queue 3 (some .int) ∈ zbig := zin 1043 (by decide +kernel) rfl
theorem zki_X10_queue : Cond.instanceMethod yX10_queue ∈ zbig := zin 1041 (by decide +kernel) rfl
theorem zks_X10_queue : Cond.selects (yX10_queue).cls yX10_queue yX10_queue ∈ zbig := zin 1042 (by decide +kernel) rfl
theorem zkn_X10_queue : Cond.initialized (yX10_queue).cls ∈ zbig := zin 44 (by decide +kernel) rfl
theorem zk_X10_pass : Cond.code yX10_pass cX10_pass 4 (some .int) ∈ zbig := zin 1047 (by decide +kernel) rfl
theorem zki_X10_pass : Cond.instanceMethod yX10_pass ∈ zbig := zin 1045 (by decide +kernel) rfl
theorem zks_X10_pass : Cond.selects (yX10_pass).cls yX10_pass yX10_pass ∈ zbig := zin 1046 (by decide +kernel) rfl
theorem zkn_X10_pass : Cond.initialized (yX10_pass).cls ∈ zbig := zin 44 (by decide +kernel) rfl
theorem zk_X9_pass : Cond.code yX9_pass cX9_pass 3 (some .int) ∈ zbig := zin 1051 (by decide +kernel) rfl
theorem zki_X9_pass : Cond.instanceMethod yX9_pass ∈ zbig := zin 1049 (by decide +kernel) rfl
theorem zks_X9_pass : Cond.selects (yX9_pass).cls yX9_pass yX9_pass ∈ zbig := zin 1050 (by decide +kernel) rfl
theorem zkn_X9_pass : Cond.initialized (yX9_pass).cls ∈ zbig := zin 45 (by decide +kernel) rfl
theorem zk_X9_many : Cond.code yX9_many cX9_many 4 (some .int) ∈ zbig := zin 1055 (by decide +kernel) rfl
theorem zki_X9_many : Cond.instanceMethod yX9_many ∈ zbig := zin 1053 (by decide +kernel) rfl
theorem zks_X9_many : Cond.selects (yX9_many).cls yX9_many yX9_many ∈ zbig := zin 1054 (by decide +kernel) rfl
theorem zkn_X9_many : Cond.initialized (yX9_many).cls ∈ zbig := zin 45 (by decide +kernel) rfl
theorem zk_X9_roll : Cond.code yX9_roll cX9_roll 5 none ∈ zbig := zin 1059 (by decide +kernel) rfl
theorem zki_X9_roll : Cond.instanceMethod yX9_roll ∈ zbig := zin 1058 (by decide +kernel) rfl
theorem zks_X9_roll : Cond.selects (yX9_roll).cls yX9_roll yX9_roll ∈ zbig := zin 28 (by decide +kernel) rfl
theorem zkn_X9_roll : Cond.initialized (yX9_roll).cls ∈ zbig := zin 45 (by decide +kernel) rfl
theorem zk_X9_begin : Cond.code yX9_begin cX9_begin 5 none ∈ zbig := zin 1066 (by decide +kernel) rfl
theorem zki_X9_begin : Cond.instanceMethod yX9_begin ∈ zbig := zin 1065 (by decide +kernel) rfl
theorem zks_X9_begin : Cond.selects (yX9_begin).cls yX9_begin yX9_begin ∈ zbig := zin 29 (by decide +kernel) rfl
theorem zkn_X9_begin : Cond.initialized (yX9_begin).cls ∈ zbig := zin 45 (by decide +kernel) rfl
theorem zk_X9_strike : Cond.code yX9_strike cX9_strike 4 none ∈ zbig := zin 1071 (by decide +kernel) rfl
theorem zki_X9_strike : Cond.instanceMethod yX9_strike ∈ zbig := zin 1070 (by decide +kernel) rfl
theorem zks_X9_strike : Cond.selects (yX9_strike).cls yX9_strike yX9_strike ∈ zbig := zin 30 (by decide +kernel) rfl
theorem zkn_X9_strike : Cond.initialized (yX9_strike).cls ∈ zbig := zin 45 (by decide +kernel) rfl
theorem zk_X10_count : Cond.code yX10_count cX10_count 2 (some .int) ∈ zbig := zin 1078 (by decide +kernel) rfl
theorem zki_X10_count : Cond.instanceMethod yX10_count ∈ zbig := zin 1076 (by decide +kernel) rfl
theorem zks_X10_count : Cond.selects (yX10_count).cls yX10_count yX10_count ∈ zbig := zin 1077 (by decide +kernel) rfl
theorem zkn_X10_count : Cond.initialized (yX10_count).cls ∈ zbig := zin 44 (by decide +kernel) rfl
theorem zk_X10_counted : Cond.code yX10_counted cX10_counted 5 (some .int) ∈ zbig := zin 1082 (by decide +kernel) rfl
theorem zki_X10_counted : Cond.instanceMethod yX10_counted ∈ zbig := zin 1081 (by decide +kernel) rfl
theorem zks_X10_counted : Cond.selects (yX10_counted).cls yX10_counted yX10_counted ∈ zbig := zin 31 (by decide +kernel) rfl
theorem zkn_X10_counted : Cond.initialized (yX10_counted).cls ∈ zbig := zin 44 (by decide +kernel) rfl
theorem zk_X10_way : Cond.code yX10_way cX10_way 4 (some .int) ∈ zbig := zin 1087 (by decide +kernel) rfl
theorem zki_X10_way : Cond.instanceMethod yX10_way ∈ zbig := zin 1085 (by decide +kernel) rfl
theorem zks_X10_way : Cond.selects (yX10_way).cls yX10_way yX10_way ∈ zbig := zin 1086 (by decide +kernel) rfl
theorem zkn_X10_way : Cond.initialized (yX10_way).cls ∈ zbig := zin 44 (by decide +kernel) rfl
theorem zk_X10_arrives : Cond.code yX10_arrives cX10_arrives 3 (some .int) ∈ zbig := zin 1091 (by decide +kernel) rfl
theorem zki_X10_arrives : Cond.instanceMethod yX10_arrives ∈ zbig := zin 1089 (by decide +kernel) rfl
theorem zks_X10_arrives : Cond.selects (yX10_arrives).cls yX10_arrives yX10_arrives ∈ zbig := zin 1090 (by decide +kernel) rfl
theorem zkn_X10_arrives : Cond.initialized (yX10_arrives).cls ∈ zbig := zin 44 (by decide +kernel) rfl
theorem zk_X9_become : Cond.code yX9_become cX9_become 2 none ∈ zbig := zin 1095 (by decide +kernel) rfl
theorem zki_X9_become : Cond.instanceMethod yX9_become ∈ zbig := zin 1093 (by decide +kernel) rfl
theorem zks_X9_become : Cond.selects (yX9_become).cls yX9_become yX9_become ∈ zbig := zin 1094 (by decide +kernel) rfl
theorem zkn_X9_become : Cond.initialized (yX9_become).cls ∈ zbig := zin 45 (by decide +kernel) rfl
theorem zk_X9_copy : Cond.code yX9_copy cX9_copy 3 none ∈ zbig := zin 1099 (by decide +kernel) rfl
theorem zki_X9_copy : Cond.instanceMethod yX9_copy ∈ zbig := zin 1098 (by decide +kernel) rfl
theorem zks_X9_copy : Cond.selects (yX9_copy).cls yX9_copy yX9_copy ∈ zbig := zin 32 (by decide +kernel) rfl
theorem zkn_X9_copy : Cond.initialized (yX9_copy).cls ∈ zbig := zin 45 (by decide +kernel) rfl
theorem zk_X10_advise : Cond.code yX10_advise cX10_advise 6 (some .int) ∈ zbig := zin 1106 (by decide +kernel) rfl
theorem zki_X10_advise : Cond.instanceMethod yX10_advise ∈ zbig := zin 1104 (by decide +kernel) rfl
theorem zks_X10_advise : Cond.selects (yX10_advise).cls yX10_advise yX10_advise ∈ zbig := zin 1105 (by decide +kernel) rfl
theorem zkn_X10_advise : Cond.initialized (yX10_advise).cls ∈ zbig := zin 44 (by decide +kernel) rfl
theorem zk_X10_arrivedIn : Cond.code yX10_arrivedIn cX10_arrivedIn 3 (some .int) ∈ zbig := zin 1110 (by decide +kernel) rfl
theorem zki_X10_arrivedIn : Cond.instanceMethod yX10_arrivedIn ∈ zbig := zin 1109 (by decide +kernel) rfl
theorem zks_X10_arrivedIn : Cond.selects (yX10_arrivedIn).cls yX10_arrivedIn yX10_arrivedIn ∈ zbig := zin 33 (by decide +kernel) rfl
theorem zkn_X10_arrivedIn : Cond.initialized (yX10_arrivedIn).cls ∈ zbig := zin 44 (by decide +kernel) rfl
theorem zk_X10_mean : Cond.code yX10_mean cX10_mean 3 (some .double) ∈ zbig := zin 1114 (by decide +kernel) rfl
theorem zki_X10_mean : Cond.instanceMethod yX10_mean ∈ zbig := zin 1112 (by decide +kernel) rfl
theorem zks_X10_mean : Cond.selects (yX10_mean).cls yX10_mean yX10_mean ∈ zbig := zin 1113 (by decide +kernel) rfl
theorem zkn_X10_mean : Cond.initialized (yX10_mean).cls ∈ zbig := zin 44 (by decide +kernel) rfl
theorem zk_X10_digest : Cond.code yX10_digest cX10_digest 5 (some .long) ∈ zbig := zin 1118 (by decide +kernel) rfl
theorem zki_X10_digest : Cond.instanceMethod yX10_digest ∈ zbig := zin 1116 (by decide +kernel) rfl
theorem zks_X10_digest : Cond.selects (yX10_digest).cls yX10_digest yX10_digest ∈ zbig := zin 1117 (by decide +kernel) rfl
theorem zkn_X10_digest : Cond.initialized (yX10_digest).cls ∈ zbig := zin 44 (by decide +kernel) rfl
theorem zlX8_9 : zLI RX8 9 yX0_init cX0_init 2 0 := ⟨zc1 (zin 64 (by decide +kernel) rfl) (zc1 zki_X0_init (zc1 zkn_X0_init (zc1 zk_X0_init zc0))), rfl, by decide, by decide, by decide +kernel⟩
theorem zlX8_18 : zLI RX8 18 yX5_init cX5_init 3 1 := ⟨zc1 (zin 206 (by decide +kernel) rfl) (zc1 zki_X5_init (zc1 zkn_X5_init (zc1 zk_X5_init zc0))), rfl, by decide, by decide, by decide +kernel⟩
theorem zlX8_30 : zLIN RX8 30 yX4_init cX4_init 1 0 := ⟨⟨"ZipCanopy", znin 303 (by decide +kernel) rfl⟩, zc1 zki_X4_init (zc1 zkn_X4_init (zc1 zk_X4_init zc0)), rfl, by decide, by decide, by decide +kernel⟩
theorem zlX8_35 : zLS RX8 35 yX8_within cX8_within 3 (some .boolean) 3 := ⟨zc1 (zin 418 (by decide +kernel) rfl) (zc1 zkt_X8_within (zc1 zkn_X8_within (zc1 zk_X8_within zc0))), by decide, by decide, by decide +kernel⟩
theorem zlX8_46 : zLV RX8 46 yX0_hasPlatformAt cX0_hasPlatformAt 4 (some .boolean) 2 := ⟨zc1 (zin 487 (by decide +kernel) rfl) (zc1 zki_X0_hasPlatformAt (zc1 zks_X0_hasPlatformAt (zc1 zkn_X0_hasPlatformAt (zc1 zk_X0_hasPlatformAt zc0)))), by decide, by decide, by decide +kernel⟩
theorem zlX8_59 : zLV RX8 59 yX0_addPlatform cX0_addPlatform 5 (some .int) 3 := ⟨zc1 (zin 507 (by decide +kernel) rfl) (zc1 zki_X0_addPlatform (zc1 zks_X0_addPlatform (zc1 zkn_X0_addPlatform (zc1 zk_X0_addPlatform zc0)))), by decide, by decide, by decide +kernel⟩
theorem zlX8_63 : zLV RX8 63 yX8_isPlatform cX8_isPlatform 2 (some .boolean) 1 := ⟨zc1 (zin 519 (by decide +kernel) rfl) (zc1 zki_X8_isPlatform (zc1 zks_X8_isPlatform (zc1 zkn_X8_isPlatform (zc1 zk_X8_isPlatform zc0)))), by decide, by decide, by decide +kernel⟩
theorem zlX8_72 : zLV RX8 72 yX0_isLower cX0_isLower 3 (some .boolean) 2 := ⟨zc1 (zin 539 (by decide +kernel) rfl) (zc1 zki_X0_isLower (zc1 zks_X0_isLower (zc1 zkn_X0_isLower (zc1 zk_X0_isLower zc0)))), by decide, by decide, by decide +kernel⟩
theorem zlX8_82 : zLV RX8 82 yX0_addLine cX0_addLine 7 (some .int) 3 := ⟨zc1 (zin 545 (by decide +kernel) rfl) (zc1 zki_X0_addLine (zc1 zks_X0_addLine (zc1 zkn_X0_addLine (zc1 zk_X0_addLine zc0)))), by decide, by decide, by decide +kernel⟩
theorem zlX8_85 : zLV RX8 85 yX5_addTrolleys cX5_addTrolleys 3 none 2 := ⟨zc1 (zin 573 (by decide +kernel) rfl) (zc1 zki_X5_addTrolleys (zc1 zks_X5_addTrolleys (zc1 zkn_X5_addTrolleys (zc1 zk_X5_addTrolleys zc0)))), by decide, by decide, by decide +kernel⟩
theorem zlX8_89 : zLV RX8 89 yX8_isLine cX8_isLine 2 (some .boolean) 1 := ⟨zc1 (zin 584 (by decide +kernel) rfl) (zc1 zki_X8_isLine (zc1 zks_X8_isLine (zc1 zkn_X8_isLine (zc1 zk_X8_isLine zc0)))), by decide, by decide, by decide +kernel⟩
theorem zlX8_98 : zLV RX8 98 yX7_inAll cX7_inAll 1 (some .int) 0 := ⟨zc1 (zin 379 (by decide +kernel) rfl) (zc1 zki_X7_inAll (zc1 zks_X7_inAll (zc1 zkn_X7_inAll (zc1 zk_X7_inAll zc0)))), by decide, by decide, by decide +kernel⟩
theorem zlX8_116 : zLV RX8 116 yX8_platformFact cX8_platformFact 4 (some .int) 2 := ⟨zc1 (zin 351 (by decide +kernel) rfl) (zc1 zki_X8_platformFact (zc1 zks_X8_platformFact (zc1 zkn_X8_platformFact (zc1 zk_X8_platformFact zc0)))), by decide, by decide, by decide +kernel⟩
theorem zlX8_122 : zLV RX8 122 yX8_lineFact cX8_lineFact 5 (some .int) 2 := ⟨zc1 (zin 375 (by decide +kernel) rfl) (zc1 zki_X8_lineFact (zc1 zks_X8_lineFact (zc1 zkn_X8_lineFact (zc1 zk_X8_lineFact zc0)))), by decide, by decide, by decide +kernel⟩
theorem zlX8_125 : zLS RX8 125 yX8_isWeight cX8_isWeight 1 (some .boolean) 1 := ⟨zc1 (zin 622 (by decide +kernel) rfl) (zc1 zkt_X8_isWeight (zc1 zkn_X8_isWeight (zc1 zk_X8_isWeight zc0))), by decide, by decide, by decide +kernel⟩
theorem zlX8_134 : zLV RX8 134 yX1_carries cX1_carries 2 (some .boolean) 1 := ⟨zc1 (zin 626 (by decide +kernel) rfl) (zc1 zki_X1_carries (zc1 zks_X1_carries (zc1 zkn_X1_carries (zc1 zk_X1_carries zc0)))), by decide, by decide, by decide +kernel⟩
theorem zlX8_139 : zLV RX8 139 yX1_getsStuck cX1_getsStuck 2 (some .boolean) 1 := ⟨zc1 (zin 627 (by decide +kernel) rfl) (zc1 zki_X1_getsStuck (zc1 zks_X1_getsStuck (zc1 zkn_X1_getsStuck (zc1 zk_X1_getsStuck zc0)))), by decide, by decide, by decide +kernel⟩
theorem zlX8_142 : zLV RX8 142 yX1_rideMinutes cX1_rideMinutes 4 (some .int) 1 := ⟨zc1 (zin 631 (by decide +kernel) rfl) (zc1 zki_X1_rideMinutes (zc1 zks_X1_rideMinutes (zc1 zkn_X1_rideMinutes (zc1 zk_X1_rideMinutes zc0)))), by decide, by decide, by decide +kernel⟩
theorem zlX8_155 : zLV RX8 155 yX0_addRider cX0_addRider 6 (some .int) 3 := ⟨zc1 (zin 646 (by decide +kernel) rfl) (zc1 zki_X0_addRider (zc1 zks_X0_addRider (zc1 zkn_X0_addRider (zc1 zk_X0_addRider zc0)))), by decide, by decide, by decide +kernel⟩
theorem zlX8_158 : zLV RX8 158 yX5_reach cX5_reach 3 none 2 := ⟨zc1 (zin 650 (by decide +kernel) rfl) (zc1 zki_X5_reach (zc1 zks_X5_reach (zc1 zkn_X5_reach (zc1 zk_X5_reach zc0)))), by decide, by decide, by decide +kernel⟩
theorem zlX8_161 : zLV RX8 161 yX8_isRider cX8_isRider 2 (some .boolean) 1 := ⟨zc1 (zin 669 (by decide +kernel) rfl) (zc1 zki_X8_isRider (zc1 zks_X8_isRider (zc1 zkn_X8_isRider (zc1 zk_X8_isRider zc0)))), by decide, by decide, by decide +kernel⟩
theorem zlX8_166 : zLV RX8 166 yX8_riderFact cX8_riderFact 5 (some .int) 2 := ⟨zc1 (zin 391 (by decide +kernel) rfl) (zc1 zki_X8_riderFact (zc1 zks_X8_riderFact (zc1 zkn_X8_riderFact (zc1 zk_X8_riderFact zc0)))), by decide, by decide, by decide +kernel⟩
theorem zlX8_169 : zLV RX8 169 yX5_queueLength cX5_queueLength 4 (some .int) 1 := ⟨zc1 (zin 355 (by decide +kernel) rfl) (zc1 zki_X5_queueLength (zc1 zks_X5_queueLength (zc1 zkn_X5_queueLength (zc1 zk_X5_queueLength zc0)))), by decide, by decide, by decide +kernel⟩
theorem zlX8_174 : zLV RX8 174 yX5_inQueue cX5_inQueue 5 (some .int) 2 := ⟨zc1 (zin 359 (by decide +kernel) rfl) (zc1 zki_X5_inQueue (zc1 zks_X5_inQueue (zc1 zkn_X5_inQueue (zc1 zk_X5_inQueue zc0)))), by decide, by decide, by decide +kernel⟩
theorem zlX8_179 : zLV RX8 179 yX5_goOn cX5_goOn 4 (some .int) 1 := ⟨zc1 (zin 690 (by decide +kernel) rfl) (zc1 zki_X5_goOn (zc1 zks_X5_goOn (zc1 zkn_X5_goOn (zc1 zk_X5_goOn zc0)))), by decide, by decide, by decide +kernel⟩
theorem zlX8_184 : zLV RX8 184 yX8_countFact cX8_countFact 2 (some .int) 1 := ⟨zc1 (zin 327 (by decide +kernel) rfl) (zc1 zki_X8_countFact (zc1 zks_X8_countFact (zc1 zkn_X8_countFact (zc1 zk_X8_countFact zc0)))), by decide, by decide, by decide +kernel⟩
theorem zlX8_187 : zLV RX8 187 yX4_plan cX4_plan 6 none 3 := ⟨zc1 (zin 771 (by decide +kernel) rfl) (zc1 zki_X4_plan (zc1 zks_X4_plan (zc1 zkn_X4_plan (zc1 zk_X4_plan zc0)))), by decide, by decide, by decide +kernel⟩
theorem zlX8_191 : zLV RX8 191 yX4_linesFrom cX4_linesFrom 2 (some .int) 1 := ⟨zc1 (zin 395 (by decide +kernel) rfl) (zc1 zki_X4_linesFrom (zc1 zks_X4_linesFrom (zc1 zkn_X4_linesFrom (zc1 zk_X4_linesFrom zc0)))), by decide, by decide, by decide +kernel⟩
theorem zlX8_196 : zLV RX8 196 yX5_copyFrom cX5_copyFrom 3 none 1 := ⟨zc1 (zin 780 (by decide +kernel) rfl) (zc1 zki_X5_copyFrom (zc1 zks_X5_copyFrom (zc1 zkn_X5_copyFrom (zc1 zk_X5_copyFrom zc0)))), by decide, by decide, by decide +kernel⟩
theorem zlX8_204 : zLV RX8 204 yX6_isUnderWay cX6_isUnderWay 1 (some .boolean) 0 := ⟨zc1 (zin 792 (by decide +kernel) rfl) (zc1 zki_X6_isUnderWay (zc1 zks_X6_isUnderWay (zc1 zkn_X6_isUnderWay (zc1 zk_X6_isUnderWay zc0)))), by decide, by decide, by decide +kernel⟩
theorem zlX8_210 : zLV RX8 210 yX5_passMinute cX5_passMinute 2 none 0 := ⟨zc1 (zin 796 (by decide +kernel) rfl) (zc1 zki_X5_passMinute (zc1 zks_X5_passMinute (zc1 zkn_X5_passMinute (zc1 zk_X5_passMinute zc0)))), by decide, by decide, by decide +kernel⟩
theorem zlX8_218 : zLV RX8 218 yX8_arrivalsWithOneMore cX8_arrivalsWithOneMore 3 (some .int) 2 := ⟨zc1 (zin 805 (by decide +kernel) rfl) (zc1 zki_X8_arrivalsWithOneMore (zc1 zks_X8_arrivalsWithOneMore (zc1 zkn_X8_arrivalsWithOneMore (zc1 zk_X8_arrivalsWithOneMore zc0)))), by decide, by decide, by decide +kernel⟩
theorem zlX8_228 : zLV RX8 228 yX8_digestPlatform cX8_digestPlatform 7 (some .long) 2 := ⟨zc1 (zin 347 (by decide +kernel) rfl) (zc1 zki_X8_digestPlatform (zc1 zks_X8_digestPlatform (zc1 zkn_X8_digestPlatform (zc1 zk_X8_digestPlatform zc0)))), by decide, by decide, by decide +kernel⟩
theorem zlX8_247 : zLV RX8 247 yX0_linesWithTop cX0_linesWithTop 4 (some .int) 1 := ⟨zc1 (zin 363 (by decide +kernel) rfl) (zc1 zki_X0_linesWithTop (zc1 zks_X0_linesWithTop (zc1 zkn_X0_linesWithTop (zc1 zk_X0_linesWithTop zc0)))), by decide, by decide, by decide +kernel⟩
theorem zlX8_250 : zLV RX8 250 yX0_linesWithBottom cX0_linesWithBottom 4 (some .int) 1 := ⟨zc1 (zin 367 (by decide +kernel) rfl) (zc1 zki_X0_linesWithBottom (zc1 zks_X0_linesWithBottom (zc1 zkn_X0_linesWithBottom (zc1 zk_X0_linesWithBottom zc0)))), by decide, by decide, by decide +kernel⟩
theorem zlX8_253 : zLV RX8 253 yX5_arrivedAt cX5_arrivedAt 4 (some .int) 1 := ⟨zc1 (zin 371 (by decide +kernel) rfl) (zc1 zki_X5_arrivedAt (zc1 zks_X5_arrivedAt (zc1 zkn_X5_arrivedAt (zc1 zk_X5_arrivedAt zc0)))), by decide, by decide, by decide +kernel⟩
theorem zlX8_274 : zLV RX8 274 yX7_ridden cX7_ridden 3 (some .int) 0 := ⟨zc1 (zin 380 (by decide +kernel) rfl) (zc1 zki_X7_ridden (zc1 zks_X7_ridden (zc1 zkn_X7_ridden (zc1 zk_X7_ridden zc0)))), by decide, by decide, by decide +kernel⟩
theorem zlX8_286 : zLV RX8 286 yX0_isClosed cX0_isClosed 4 (some .boolean) 2 := ⟨zc1 (zin 384 (by decide +kernel) rfl) (zc1 zki_X0_isClosed (zc1 zks_X0_isClosed (zc1 zkn_X0_isClosed (zc1 zk_X0_isClosed zc0)))), by decide, by decide, by decide +kernel⟩
theorem zlX8_317 : zLS RX8 317 yJ9_max_7cf53 cJ9_max_7cf53 2 (some .int) 2 := ⟨zc1 (zin 402 (by decide +kernel) rfl) (zc1 zkt_J9_max_7cf53 (zc1 zkn_J9_max_7cf53 (zc1 zk_J9_max_7cf53 zc0))), by decide, by decide, by decide +kernel⟩
theorem zlX8_322 : zLV RX8 322 yX4_firstFrom cX4_firstFrom 2 (some .int) 1 := ⟨zc1 (zin 405 (by decide +kernel) rfl) (zc1 zki_X4_firstFrom (zc1 zks_X4_firstFrom (zc1 zkn_X4_firstFrom (zc1 zk_X4_firstFrom zc0)))), by decide, by decide, by decide +kernel⟩
theorem zlX8_328 : zLV RX8 328 yX5_ridersIn cX5_ridersIn 4 (some .int) 1 := ⟨zc1 (zin 331 (by decide +kernel) rfl) (zc1 zki_X5_ridersIn (zc1 zks_X5_ridersIn (zc1 zkn_X5_ridersIn (zc1 zk_X5_ridersIn zc0)))), by decide, by decide, by decide +kernel⟩
theorem zlX8_331 : zLV RX8 331 yX5_trolleysInAll cX5_trolleysInAll 3 (some .int) 0 := ⟨zc1 (zin 335 (by decide +kernel) rfl) (zc1 zki_X5_trolleysInAll (zc1 zks_X5_trolleysInAll (zc1 zkn_X5_trolleysInAll (zc1 zk_X5_trolleysInAll zc0)))), by decide, by decide, by decide +kernel⟩
theorem zlX8_334 : zLV RX8 334 yX5_ridesInAll cX5_ridesInAll 3 (some .int) 0 := ⟨zc1 (zin 343 (by decide +kernel) rfl) (zc1 zki_X5_ridesInAll (zc1 zks_X5_ridesInAll (zc1 zkn_X5_ridesInAll (zc1 zk_X5_ridesInAll zc0)))), by decide, by decide, by decide +kernel⟩
theorem zlX0_33 : zLIN RX0 33 yX2_init cX2_init 1 0 := ⟨⟨"ZipCanopy", znin 75 (by decide +kernel) rfl⟩, zc1 zki_X2_init (zc1 zkn_X2_init (zc1 zk_X2_init zc0)), rfl, by decide, by decide, by decide +kernel⟩
theorem zlX0_34 : zLIN RX0 34 yX1_init cX1_init 1 0 := ⟨⟨"ZipCanopy", znin 96 (by decide +kernel) rfl⟩, zc1 zki_X1_init (zc1 zkn_X1_init (zc1 zk_X1_init zc0)), rfl, by decide, by decide, by decide +kernel⟩
theorem zlX0_35 : zLIN RX0 35 yX3_init cX3_init 1 0 := ⟨⟨"ZipCanopy", znin 128 (by decide +kernel) rfl⟩, zc1 zki_X3_init (zc1 zkn_X3_init (zc1 zk_X3_init zc0)), rfl, by decide, by decide, by decide +kernel⟩
theorem zlX0_61 : zLV RX0 61 yX2_distanceTo cX2_distanceTo 2 (some .int) 1 := ⟨zc1 (zin 549 (by decide +kernel) rfl) (zc1 zki_X2_distanceTo (zc1 zks_X2_distanceTo (zc1 zkn_X2_distanceTo (zc1 zk_X2_distanceTo zc0)))), by decide, by decide, by decide +kernel⟩
theorem zlX0_74 : zLV RX0 74 yX3_planRoute cX3_planRoute 2 none 1 := ⟨zc1 (zin 556 (by decide +kernel) rfl) (zc1 zki_X3_planRoute (zc1 zks_X3_planRoute (zc1 zkn_X3_planRoute (zc1 zk_X3_planRoute zc0)))), by decide, by decide, by decide +kernel⟩
theorem zlX0_87 : zLS RX0 87 yJ9_floorMod_7cf53 cJ9_floorMod_7cf53 3 (some .int) 2 := ⟨zc1 (zin 388 (by decide +kernel) rfl) (zc1 zkt_J9_floorMod_7cf53 (zc1 zkn_J9_floorMod_7cf53 (zc1 zk_J9_floorMod_7cf53 zc0))), by decide, by decide, by decide +kernel⟩
theorem zlX1_19 : zLV RX1 19 yX1_getsStuck cX1_getsStuck 2 (some .boolean) 1 := ⟨zc1 (zin 635 (by decide +kernel) rfl) (zc1 zki_X1_getsStuck (zc1 zks_X1_getsStuck (zc1 zkn_X1_getsStuck (zc1 zk_X1_getsStuck zc0)))), by decide, by decide, by decide +kernel⟩
theorem zlX2_13 : zLS RX2 13 yJ9_abs_0f7a4 cJ9_abs_0f7a4 1 (some .int) 1 := ⟨zc1 (zin 553 (by decide +kernel) rfl) (zc1 zkt_J9_abs_0f7a4 (zc1 zkn_J9_abs_0f7a4 (zc1 zk_J9_abs_0f7a4 zc0))), by decide, by decide, by decide +kernel⟩
theorem zlX3_9 : zLIN RX3 9 yX4_init cX4_init 1 0 := ⟨⟨"ZipCanopy", znin 134 (by decide +kernel) rfl⟩, zc1 zki_X4_init (zc1 zkn_X4_init (zc1 zk_X4_init zc0)), rfl, by decide, by decide, by decide +kernel⟩
theorem zlX3_23 : zLV RX3 23 yX4_plan cX4_plan 6 none 3 := ⟨zc1 (zin 560 (by decide +kernel) rfl) (zc1 zki_X4_plan (zc1 zks_X4_plan (zc1 zkn_X4_plan (zc1 zk_X4_plan zc0)))), by decide, by decide, by decide +kernel⟩
theorem zlX4_30 : zLV RX4 30 yX4_extend cX4_extend 6 none 4 := ⟨zc1 (zin 564 (by decide +kernel) rfl) (zc1 zki_X4_extend (zc1 zks_X4_extend (zc1 zkn_X4_extend (zc1 zk_X4_extend zc0)))), by decide, by decide, by decide +kernel⟩
theorem zlX4_39 : zLSN RX4 39 yX8_within cX8_within 3 (some .boolean) 3 := ⟨⟨"ZipCanopy", znin 399 (by decide +kernel) rfl⟩, zc1 zkt_X8_within (zc1 zkn_X8_within (zc1 zk_X8_within zc0)), by decide, by decide, by decide +kernel⟩
theorem zlX4_43 : zLV RX4 43 yX1_carries cX1_carries 2 (some .boolean) 1 := ⟨zc1 (zin 568 (by decide +kernel) rfl) (zc1 zki_X1_carries (zc1 zks_X1_carries (zc1 zkn_X1_carries (zc1 zk_X1_carries zc0)))), by decide, by decide, by decide +kernel⟩
theorem zlX4_50 : zLV RX4 50 yX4_linesFrom cX4_linesFrom 2 (some .int) 1 := ⟨zc1 (zin 572 (by decide +kernel) rfl) (zc1 zki_X4_linesFrom (zc1 zks_X4_linesFrom (zc1 zkn_X4_linesFrom (zc1 zk_X4_linesFrom zc0)))), by decide, by decide, by decide +kernel⟩
theorem zlX5_31 : zLI RX5 31 yX6_init cX6_init 1 0 := ⟨zc1 (zin 215 (by decide +kernel) rfl) (zc1 zki_X6_init (zc1 zkn_X6_init (zc1 zk_X6_init zc0))), rfl, by decide, by decide, by decide +kernel⟩
theorem zlX5_32 : zLIN RX5 32 yX7_init cX7_init 1 0 := ⟨⟨"ZipCanopy", znin 248 (by decide +kernel) rfl⟩, zc1 zki_X7_init (zc1 zkn_X7_init (zc1 zk_X7_init zc0)), rfl, by decide, by decide, by decide +kernel⟩
theorem zlX5_39 : zLV RX5 39 yX6_copyFrom cX6_copyFrom 2 none 1 := ⟨zc1 (zin 784 (by decide +kernel) rfl) (zc1 zki_X6_copyFrom (zc1 zks_X6_copyFrom (zc1 zkn_X6_copyFrom (zc1 zk_X6_copyFrom zc0)))), by decide, by decide, by decide +kernel⟩
theorem zlX5_46 : zLV RX5 46 yX7_copyFrom cX7_copyFrom 3 none 1 := ⟨zc1 (zin 788 (by decide +kernel) rfl) (zc1 zki_X7_copyFrom (zc1 zks_X7_copyFrom (zc1 zkn_X7_copyFrom (zc1 zk_X7_copyFrom zc0)))), by decide, by decide, by decide +kernel⟩
theorem zlX5_67 : zLV RX5 67 yX6_arrive cX6_arrive 3 none 2 := ⟨zc1 (zin 654 (by decide +kernel) rfl) (zc1 zki_X6_arrive (zc1 zks_X6_arrive (zc1 zkn_X6_arrive (zc1 zk_X6_arrive zc0)))), by decide, by decide, by decide +kernel⟩
theorem zlX5_71 : zLV RX5 71 yX6_beginWait cX6_beginWait 2 none 1 := ⟨zc1 (zin 658 (by decide +kernel) rfl) (zc1 zki_X6_beginWait (zc1 zks_X6_beginWait (zc1 zkn_X6_beginWait (zc1 zk_X6_beginWait zc0)))), by decide, by decide, by decide +kernel⟩
theorem zlX5_75 : zLV RX5 75 yX5_ridersIn cX5_ridersIn 4 (some .int) 1 := ⟨zc1 (zin 694 (by decide +kernel) rfl) (zc1 zki_X5_ridersIn (zc1 zks_X5_ridersIn (zc1 zkn_X5_ridersIn (zc1 zk_X5_ridersIn zc0)))), by decide, by decide, by decide +kernel⟩
theorem zlX5_79 : zLV RX5 79 yX5_passMinute cX5_passMinute 2 none 0 := ⟨zc1 (zin 695 (by decide +kernel) rfl) (zc1 zki_X5_passMinute (zc1 zks_X5_passMinute (zc1 zkn_X5_passMinute (zc1 zk_X5_passMinute zc0)))), by decide, by decide, by decide +kernel⟩
theorem zlX5_86 : zLV RX5 86 yX5_moveTrolleys cX5_moveTrolleys 5 none 2 := ⟨zc1 (zin 699 (by decide +kernel) rfl) (zc1 zki_X5_moveTrolleys (zc1 zks_X5_moveTrolleys (zc1 zkn_X5_moveTrolleys (zc1 zk_X5_moveTrolleys zc0)))), by decide, by decide, by decide +kernel⟩
theorem zlX5_90 : zLV RX5 90 yX0_isClosed cX0_isClosed 4 (some .boolean) 2 := ⟨zc1 (zin 716 (by decide +kernel) rfl) (zc1 zki_X0_isClosed (zc1 zks_X0_isClosed (zc1 zkn_X0_isClosed (zc1 zk_X0_isClosed zc0)))), by decide, by decide, by decide +kernel⟩
theorem zlX5_94 : zLV RX5 94 yX5_beginRide cX5_beginRide 7 none 2 := ⟨zc1 (zin 717 (by decide +kernel) rfl) (zc1 zki_X5_beginRide (zc1 zks_X5_beginRide (zc1 zkn_X5_beginRide (zc1 zk_X5_beginRide zc0)))), by decide, by decide, by decide +kernel⟩
theorem zlX5_98 : zLV RX5 98 yX5_tireWaiting cX5_tireWaiting 5 none 0 := ⟨zc1 (zin 744 (by decide +kernel) rfl) (zc1 zki_X5_tireWaiting (zc1 zks_X5_tireWaiting (zc1 zkn_X5_tireWaiting (zc1 zk_X5_tireWaiting zc0)))), by decide, by decide, by decide +kernel⟩
theorem zlX5_112 : zLV RX5 112 yX1_pullMinutes cX1_pullMinutes 1 (some .int) 0 := ⟨zc1 (zin 703 (by decide +kernel) rfl) (zc1 zki_X1_pullMinutes (zc1 zks_X1_pullMinutes (zc1 zkn_X1_pullMinutes (zc1 zk_X1_pullMinutes zc0)))), by decide, by decide, by decide +kernel⟩
theorem zlX5_118 : zLV RX5 118 yX7_beginPull cX7_beginPull 3 none 2 := ⟨zc1 (zin 707 (by decide +kernel) rfl) (zc1 zki_X7_beginPull (zc1 zks_X7_beginPull (zc1 zkn_X7_beginPull (zc1 zk_X7_beginPull zc0)))), by decide, by decide, by decide +kernel⟩
theorem zlX5_124 : zLV RX5 124 yX5_reach cX5_reach 3 none 2 := ⟨zc1 (zin 711 (by decide +kernel) rfl) (zc1 zki_X5_reach (zc1 zks_X5_reach (zc1 zkn_X5_reach (zc1 zk_X5_reach zc0)))), by decide, by decide, by decide +kernel⟩
theorem zlX5_127 : zLV RX5 127 yX7_dropPulled cX7_dropPulled 3 none 0 := ⟨zc1 (zin 712 (by decide +kernel) rfl) (zc1 zki_X7_dropPulled (zc1 zks_X7_dropPulled (zc1 zkn_X7_dropPulled (zc1 zk_X7_dropPulled zc0)))), by decide, by decide, by decide +kernel⟩
theorem zlX5_130 : zLV RX5 130 yX5_firstWaitingFor cX5_firstWaitingFor 4 (some .int) 1 := ⟨zc1 (zin 721 (by decide +kernel) rfl) (zc1 zki_X5_firstWaitingFor (zc1 zks_X5_firstWaitingFor (zc1 zkn_X5_firstWaitingFor (zc1 zk_X5_firstWaitingFor zc0)))), by decide, by decide, by decide +kernel⟩
theorem zlX5_133 : zLV RX5 133 yX7_canLeaveTop cX7_canLeaveTop 1 (some .boolean) 0 := ⟨zc1 (zin 726 (by decide +kernel) rfl) (zc1 zki_X7_canLeaveTop (zc1 zks_X7_canLeaveTop (zc1 zkn_X7_canLeaveTop (zc1 zk_X7_canLeaveTop zc0)))), by decide, by decide, by decide +kernel⟩
theorem zlX5_140 : zLV RX5 140 yX1_rideMinutes cX1_rideMinutes 4 (some .int) 1 := ⟨zc1 (zin 730 (by decide +kernel) rfl) (zc1 zki_X1_rideMinutes (zc1 zks_X1_rideMinutes (zc1 zkn_X1_rideMinutes (zc1 zk_X1_rideMinutes zc0)))), by decide, by decide, by decide +kernel⟩
theorem zlX5_143 : zLV RX5 143 yX5_leaveWaiting cX5_leaveWaiting 3 none 1 := ⟨zc1 (zin 731 (by decide +kernel) rfl) (zc1 zki_X5_leaveWaiting (zc1 zks_X5_leaveWaiting (zc1 zkn_X5_leaveWaiting (zc1 zk_X5_leaveWaiting zc0)))), by decide, by decide, by decide +kernel⟩
theorem zlX5_146 : zLV RX5 146 yX6_beginRide cX6_beginRide 3 none 2 := ⟨zc1 (zin 735 (by decide +kernel) rfl) (zc1 zki_X6_beginRide (zc1 zks_X6_beginRide (zc1 zkn_X6_beginRide (zc1 zk_X6_beginRide zc0)))), by decide, by decide, by decide +kernel⟩
theorem zlX5_148 : zLV RX5 148 yX7_leaveTop cX7_leaveTop 3 none 2 := ⟨zc1 (zin 739 (by decide +kernel) rfl) (zc1 zki_X7_leaveTop (zc1 zks_X7_leaveTop (zc1 zkn_X7_leaveTop (zc1 zk_X7_leaveTop zc0)))), by decide, by decide, by decide +kernel⟩
theorem zlX5_154 : zLV RX5 154 yX1_getsStuck cX1_getsStuck 2 (some .boolean) 1 := ⟨zc1 (zin 743 (by decide +kernel) rfl) (zc1 zki_X1_getsStuck (zc1 zks_X1_getsStuck (zc1 zkn_X1_getsStuck (zc1 zk_X1_getsStuck zc0)))), by decide, by decide, by decide +kernel⟩
theorem zlX5_165 : zLV RX5 165 yX4_firstFrom cX4_firstFrom 2 (some .int) 1 := ⟨zc1 (zin 725 (by decide +kernel) rfl) (zc1 zki_X4_firstFrom (zc1 zks_X4_firstFrom (zc1 zkn_X4_firstFrom (zc1 zk_X4_firstFrom zc0)))), by decide, by decide, by decide +kernel⟩
theorem zlX5_170 : zLS RX5 170 yX5_givesUp cX5_givesUp 2 (some .boolean) 2 := ⟨zc1 (zin 748 (by decide +kernel) rfl) (zc1 zkt_X5_givesUp (zc1 zkn_X5_givesUp (zc1 zk_X5_givesUp zc0))), by decide, by decide, by decide +kernel⟩
theorem zlX5_174 : zLV RX5 174 yX6_giveUp cX6_giveUp 1 none 0 := ⟨zc1 (zin 752 (by decide +kernel) rfl) (zc1 zki_X6_giveUp (zc1 zks_X6_giveUp (zc1 zkn_X6_giveUp (zc1 zk_X6_giveUp zc0)))), by decide, by decide, by decide +kernel⟩
theorem zlX5_177 : zLV RX5 177 yX4_linesFrom cX4_linesFrom 2 (some .int) 1 := ⟨zc1 (zin 751 (by decide +kernel) rfl) (zc1 zki_X4_linesFrom (zc1 zks_X4_linesFrom (zc1 zkn_X4_linesFrom (zc1 zk_X4_linesFrom zc0)))), by decide, by decide, by decide +kernel⟩
theorem zlX5_186 : zLV RX5 186 yX7_inAll cX7_inAll 1 (some .int) 0 := ⟨zc1 (zin 339 (by decide +kernel) rfl) (zc1 zki_X7_inAll (zc1 zks_X7_inAll (zc1 zkn_X7_inAll (zc1 zk_X7_inAll zc0)))), by decide, by decide, by decide +kernel⟩
theorem zlL_7 : zLV RL 7 yX8_build cX8_build 4 (some .int) 3 := ⟨zc1 (zin 414 (by decide +kernel) rfl) (zc1 zki_X8_build (zc1 zks_X8_build (zc1 zkn_X8_build (zc1 zk_X8_build zc0)))), by decide, by decide, by decide +kernel⟩
theorem zlL_17 : zLV RL 17 yX8_span cX8_span 6 (some .int) 4 := ⟨zc1 (zin 515 (by decide +kernel) rfl) (zc1 zki_X8_span (zc1 zks_X8_span (zc1 zkn_X8_span (zc1 zk_X8_span zc0)))), by decide, by decide, by decide +kernel⟩
theorem zlL_23 : zLV RL 23 yX8_add cX8_add 2 (some .int) 1 := ⟨zc1 (zin 580 (by decide +kernel) rfl) (zc1 zki_X8_add (zc1 zks_X8_add (zc1 zkn_X8_add (zc1 zk_X8_add zc0)))), by decide, by decide, by decide +kernel⟩
theorem zlL_27 : zLV RL 27 yX8_setWind cX8_setWind 4 (some .int) 2 := ⟨zc1 (zin 593 (by decide +kernel) rfl) (zc1 zki_X8_setWind (zc1 zks_X8_setWind (zc1 zkn_X8_setWind (zc1 zk_X8_setWind zc0)))), by decide, by decide, by decide +kernel⟩
theorem zlL_31 : zLV RL 31 yX8_platform cX8_platform 3 (some .int) 2 := ⟨zc1 (zin 602 (by decide +kernel) rfl) (zc1 zki_X8_platform (zc1 zks_X8_platform (zc1 zkn_X8_platform (zc1 zk_X8_platform zc0)))), by decide, by decide, by decide +kernel⟩
theorem zlL_34 : zLV RL 34 yX8_line cX8_line 3 (some .int) 2 := ⟨zc1 (zin 610 (by decide +kernel) rfl) (zc1 zki_X8_line (zc1 zks_X8_line (zc1 zkn_X8_line (zc1 zk_X8_line zc0)))), by decide, by decide, by decide +kernel⟩
theorem zlL_37 : zLV RL 37 yX8_ride cX8_ride 4 (some .int) 2 := ⟨zc1 (zin 618 (by decide +kernel) rfl) (zc1 zki_X8_ride (zc1 zks_X8_ride (zc1 zkn_X8_ride (zc1 zk_X8_ride zc0)))), by decide, by decide, by decide +kernel⟩
theorem zlL_40 : zLV RL 40 yX8_come cX8_come 6 (some .int) 4 := ⟨zc1 (zin 639 (by decide +kernel) rfl) (zc1 zki_X8_come (zc1 zks_X8_come (zc1 zkn_X8_come (zc1 zk_X8_come zc0)))), by decide, by decide, by decide +kernel⟩
theorem zlL_43 : zLV RL 43 yX8_rider cX8_rider 3 (some .int) 2 := ⟨zc1 (zin 665 (by decide +kernel) rfl) (zc1 zki_X8_rider (zc1 zks_X8_rider (zc1 zkn_X8_rider (zc1 zk_X8_rider zc0)))), by decide, by decide, by decide +kernel⟩
theorem zlL_46 : zLV RL 46 yX8_queue cX8_queue 3 (some .int) 2 := ⟨zc1 (zin 677 (by decide +kernel) rfl) (zc1 zki_X8_queue (zc1 zks_X8_queue (zc1 zkn_X8_queue (zc1 zk_X8_queue zc0)))), by decide, by decide, by decide +kernel⟩
theorem zlL_49 : zLV RL 49 yX8_pass cX8_pass 2 (some .int) 1 := ⟨zc1 (zin 685 (by decide +kernel) rfl) (zc1 zki_X8_pass (zc1 zks_X8_pass (zc1 zkn_X8_pass (zc1 zk_X8_pass zc0)))), by decide, by decide, by decide +kernel⟩
theorem zlL_52 : zLV RL 52 yX8_count cX8_count 2 (some .int) 1 := ⟨zc1 (zin 759 (by decide +kernel) rfl) (zc1 zki_X8_count (zc1 zks_X8_count (zc1 zkn_X8_count (zc1 zk_X8_count zc0)))), by decide, by decide, by decide +kernel⟩
theorem zlL_55 : zLV RL 55 yX8_way cX8_way 4 (some .int) 3 := ⟨zc1 (zin 767 (by decide +kernel) rfl) (zc1 zki_X8_way (zc1 zks_X8_way (zc1 zkn_X8_way (zc1 zk_X8_way zc0)))), by decide, by decide, by decide +kernel⟩
theorem zlL_58 : zLV RL 58 yX8_arrives cX8_arrives 4 (some .int) 1 := ⟨zc1 (zin 775 (by decide +kernel) rfl) (zc1 zki_X8_arrives (zc1 zks_X8_arrives (zc1 zkn_X8_arrives (zc1 zk_X8_arrives zc0)))), by decide, by decide, by decide +kernel⟩
theorem zlL_61 : zLV RL 61 yX8_advise cX8_advise 6 (some .int) 1 := ⟨zc1 (zin 800 (by decide +kernel) rfl) (zc1 zki_X8_advise (zc1 zks_X8_advise (zc1 zkn_X8_advise (zc1 zk_X8_advise zc0)))), by decide, by decide, by decide +kernel⟩
theorem zlL_64 : zLI RL 64 yX8_init cX8_init 1 0 := ⟨zc1 (zin 56 (by decide +kernel) rfl) (zc1 zki_X8_init (zc1 zkn_X8_init (zc1 zk_X8_init zc0))), rfl, by decide, by decide, by decide +kernel⟩
theorem zlL_67 : zLI RL 67 yX10_init cX10_init 1 0 := ⟨zc1 (zin 811 (by decide +kernel) rfl) (zc1 zki_X10_init (zc1 zkn_X10_init (zc1 zk_X10_init zc0))), rfl, by decide, by decide, by decide +kernel⟩
theorem zlL_73 : zLV RL 73 yX10_build cX10_build 6 (some .int) 3 := ⟨zc1 (zin 939 (by decide +kernel) rfl) (zc1 zki_X10_build (zc1 zks_X10_build (zc1 zkn_X10_build (zc1 zk_X10_build zc0)))), by decide, by decide, by decide +kernel⟩
theorem zlL_74 : zLV RL 74 yX10_thrown cX10_thrown 1 (some .int) 0 := ⟨zc1 (zin 935 (by decide +kernel) rfl) (zc1 zki_X10_thrown (zc1 zks_X10_thrown (zc1 zkn_X10_thrown (zc1 zk_X10_thrown zc0)))), by decide, by decide, by decide +kernel⟩
theorem zlL_81 : zLV RL 81 yX10_span cX10_span 5 (some .int) 4 := ⟨zc1 (zin 950 (by decide +kernel) rfl) (zc1 zki_X10_span (zc1 zks_X10_span (zc1 zkn_X10_span (zc1 zk_X10_span zc0)))), by decide, by decide, by decide +kernel⟩
theorem zlL_85 : zLV RL 85 yX10_add cX10_add 2 (some .int) 1 := ⟨zc1 (zin 958 (by decide +kernel) rfl) (zc1 zki_X10_add (zc1 zks_X10_add (zc1 zkn_X10_add (zc1 zk_X10_add zc0)))), by decide, by decide, by decide +kernel⟩
theorem zlL_89 : zLV RL 89 yX10_setWind cX10_setWind 4 (some .int) 2 := ⟨zc1 (zin 966 (by decide +kernel) rfl) (zc1 zki_X10_setWind (zc1 zks_X10_setWind (zc1 zkn_X10_setWind (zc1 zk_X10_setWind zc0)))), by decide, by decide, by decide +kernel⟩
theorem zlL_92 : zLV RL 92 yX10_platform cX10_platform 3 (some .int) 2 := ⟨zc1 (zin 970 (by decide +kernel) rfl) (zc1 zki_X10_platform (zc1 zks_X10_platform (zc1 zkn_X10_platform (zc1 zk_X10_platform zc0)))), by decide, by decide, by decide +kernel⟩
theorem zlL_95 : zLV RL 95 yX10_line cX10_line 3 (some .int) 2 := ⟨zc1 (zin 978 (by decide +kernel) rfl) (zc1 zki_X10_line (zc1 zks_X10_line (zc1 zkn_X10_line (zc1 zk_X10_line zc0)))), by decide, by decide, by decide +kernel⟩
theorem zlL_98 : zLV RL 98 yX10_ride cX10_ride 3 (some .int) 2 := ⟨zc1 (zin 1003 (by decide +kernel) rfl) (zc1 zki_X10_ride (zc1 zks_X10_ride (zc1 zkn_X10_ride (zc1 zk_X10_ride zc0)))), by decide, by decide, by decide +kernel⟩
theorem zlL_101 : zLV RL 101 yX10_come cX10_come 5 (some .int) 4 := ⟨zc1 (zin 1011 (by decide +kernel) rfl) (zc1 zki_X10_come (zc1 zks_X10_come (zc1 zkn_X10_come (zc1 zk_X10_come zc0)))), by decide, by decide, by decide +kernel⟩
theorem zlL_104 : zLV RL 104 yX10_rider cX10_rider 3 (some .int) 2 := ⟨zc1 (zin 1019 (by decide +kernel) rfl) (zc1 zki_X10_rider (zc1 zks_X10_rider (zc1 zkn_X10_rider (zc1 zk_X10_rider zc0)))), by decide, by decide, by decide +kernel⟩
theorem zlL_107 : zLV RL 107 yX10_queue cX10_queue 3 (some .int) 2 := ⟨zc1 (zin 1040 (by decide +kernel) rfl) (zc1 zki_X10_queue (zc1 zks_X10_queue (zc1 zkn_X10_queue (zc1 zk_X10_queue zc0)))), by decide, by decide, by decide +kernel⟩
theorem zlL_110 : zLV RL 110 yX10_pass cX10_pass 4 (some .int) 1 := ⟨zc1 (zin 1044 (by decide +kernel) rfl) (zc1 zki_X10_pass (zc1 zks_X10_pass (zc1 zkn_X10_pass (zc1 zk_X10_pass zc0)))), by decide, by decide, by decide +kernel⟩
theorem zlL_113 : zLV RL 113 yX10_count cX10_count 2 (some .int) 1 := ⟨zc1 (zin 1075 (by decide +kernel) rfl) (zc1 zki_X10_count (zc1 zks_X10_count (zc1 zkn_X10_count (zc1 zk_X10_count zc0)))), by decide, by decide, by decide +kernel⟩
theorem zlL_116 : zLV RL 116 yX10_way cX10_way 4 (some .int) 3 := ⟨zc1 (zin 1084 (by decide +kernel) rfl) (zc1 zki_X10_way (zc1 zks_X10_way (zc1 zkn_X10_way (zc1 zk_X10_way zc0)))), by decide, by decide, by decide +kernel⟩
theorem zlL_119 : zLV RL 119 yX10_arrives cX10_arrives 3 (some .int) 1 := ⟨zc1 (zin 1088 (by decide +kernel) rfl) (zc1 zki_X10_arrives (zc1 zks_X10_arrives (zc1 zkn_X10_arrives (zc1 zk_X10_arrives zc0)))), by decide, by decide, by decide +kernel⟩
theorem zlL_122 : zLV RL 122 yX10_advise cX10_advise 6 (some .int) 1 := ⟨zc1 (zin 1103 (by decide +kernel) rfl) (zc1 zki_X10_advise (zc1 zks_X10_advise (zc1 zkn_X10_advise (zc1 zk_X10_advise zc0)))), by decide, by decide, by decide +kernel⟩
theorem zlL_123 : zLV RL 123 yX8_mean cX8_mean 4 (some .double) 0 := ⟨zc1 (zin 317 (by decide +kernel) rfl) (zc1 zki_X8_mean (zc1 zks_X8_mean (zc1 zkn_X8_mean (zc1 zk_X8_mean zc0)))), by decide, by decide, by decide +kernel⟩
theorem zlL_127 : zLV RL 127 yX10_mean cX10_mean 3 (some .double) 0 := ⟨zc1 (zin 1111 (by decide +kernel) rfl) (zc1 zki_X10_mean (zc1 zks_X10_mean (zc1 zkn_X10_mean (zc1 zk_X10_mean zc0)))), by decide, by decide, by decide +kernel⟩
theorem zlL_128 : zLV RL 128 yX8_digest cX8_digest 5 (some .long) 0 := ⟨zc1 (zin 321 (by decide +kernel) rfl) (zc1 zki_X8_digest (zc1 zks_X8_digest (zc1 zkn_X8_digest (zc1 zk_X8_digest zc0)))), by decide, by decide, by decide +kernel⟩
theorem zlL_132 : zLV RL 132 yX10_digest cX10_digest 5 (some .long) 0 := ⟨zc1 (zin 1115 (by decide +kernel) rfl) (zc1 zki_X10_digest (zc1 zks_X10_digest (zc1 zkn_X10_digest (zc1 zk_X10_digest zc0)))), by decide, by decide, by decide +kernel⟩
theorem zlX10_42 : zLIN RX10 42 yX9_init cX9_init 2 1 := ⟨⟨"ZipCanopyModel", znin 817 (by decide +kernel) rfl⟩, zc1 zki_X9_init (zc1 zkn_X9_init (zc1 zk_X9_init zc0)), rfl, by decide, by decide, by decide +kernel⟩
theorem zlX10_59 : zLS RX10 59 yX10_isIn cX10_isIn 3 (some .boolean) 3 := ⟨zc1 (zin 943 (by decide +kernel) rfl) (zc1 zkt_X10_isIn (zc1 zkn_X10_isIn (zc1 zk_X10_isIn zc0))), by decide, by decide, by decide +kernel⟩
theorem zlX10_66 : zLS RX10 66 yJ9_abs_0f7a4 cJ9_abs_0f7a4 1 (some .int) 1 := ⟨zc1 (zin 990 (by decide +kernel) rfl) (zc1 zkt_J9_abs_0f7a4 (zc1 zkn_J9_abs_0f7a4 (zc1 zk_J9_abs_0f7a4 zc0))), by decide, by decide, by decide +kernel⟩
theorem zlX10_72 : zLV RX10 72 yX10_lengthOf cX10_lengthOf 2 (some .int) 1 := ⟨zc1 (zin 986 (by decide +kernel) rfl) (zc1 zki_X10_lengthOf (zc1 zks_X10_lengthOf (zc1 zkn_X10_lengthOf (zc1 zk_X10_lengthOf zc0)))), by decide, by decide, by decide +kernel⟩
theorem zlX10_75 : zLV RX10 75 yX10_dropOf cX10_dropOf 2 (some .int) 1 := ⟨zc1 (zin 991 (by decide +kernel) rfl) (zc1 zki_X10_dropOf (zc1 zks_X10_dropOf (zc1 zkn_X10_dropOf (zc1 zk_X10_dropOf zc0)))), by decide, by decide, by decide +kernel⟩
theorem zlX10_78 : zLV RX10 78 yX10_fewest cX10_fewest 7 (some .int) 3 := ⟨zc1 (zin 1031 (by decide +kernel) rfl) (zc1 zki_X10_fewest (zc1 zks_X10_fewest (zc1 zkn_X10_fewest (zc1 zk_X10_fewest zc0)))), by decide, by decide, by decide +kernel⟩
theorem zlX10_82 : zLV RX10 82 yX10_no cX10_no 2 (some .int) 1 := ⟨zc1 (zin 946 (by decide +kernel) rfl) (zc1 zki_X10_no (zc1 zks_X10_no (zc1 zkn_X10_no (zc1 zk_X10_no zc0)))), by decide, by decide, by decide +kernel⟩
theorem zlX10_85 : zLV RX10 85 yX10_isPlatform cX10_isPlatform 2 (some .boolean) 1 := ⟨zc1 (zin 954 (by decide +kernel) rfl) (zc1 zki_X10_isPlatform (zc1 zks_X10_isPlatform (zc1 zkn_X10_isPlatform (zc1 zk_X10_isPlatform zc0)))), by decide, by decide, by decide +kernel⟩
theorem zlX10_92 : zLV RX10 92 yX10_isLine cX10_isLine 2 (some .boolean) 1 := ⟨zc1 (zin 962 (by decide +kernel) rfl) (zc1 zki_X10_isLine (zc1 zks_X10_isLine (zc1 zkn_X10_isLine (zc1 zk_X10_isLine zc0)))), by decide, by decide, by decide +kernel⟩
theorem zlX10_107 : zLV RX10 107 yX10_platformTold cX10_platformTold 7 (some .int) 2 := ⟨zc1 (zin 974 (by decide +kernel) rfl) (zc1 zki_X10_platformTold (zc1 zks_X10_platformTold (zc1 zkn_X10_platformTold (zc1 zk_X10_platformTold zc0)))), by decide, by decide, by decide +kernel⟩
theorem zlX10_114 : zLV RX10 114 yX9_riding cX9_riding 4 (some .int) 1 := ⟨zc1 (zin 995 (by decide +kernel) rfl) (zc1 zki_X9_riding (zc1 zks_X9_riding (zc1 zkn_X9_riding (zc1 zk_X9_riding zc0)))), by decide, by decide, by decide +kernel⟩
theorem zlX10_126 : zLV RX10 126 yX10_isClosed cX10_isClosed 3 (some .boolean) 2 := ⟨zc1 (zin 999 (by decide +kernel) rfl) (zc1 zki_X10_isClosed (zc1 zks_X10_isClosed (zc1 zkn_X10_isClosed (zc1 zk_X10_isClosed zc0)))), by decide, by decide, by decide +kernel⟩
theorem zlX10_130 : zLV RX10 130 yX10_lineTold cX10_lineTold 4 (some .int) 2 := ⟨zc1 (zin 982 (by decide +kernel) rfl) (zc1 zki_X10_lineTold (zc1 zks_X10_lineTold (zc1 zkn_X10_lineTold (zc1 zk_X10_lineTold zc0)))), by decide, by decide, by decide +kernel⟩
theorem zlX10_133 : zLV RX10 133 yX10_rideOf cX10_rideOf 5 (some .int) 2 := ⟨zc1 (zin 1007 (by decide +kernel) rfl) (zc1 zki_X10_rideOf (zc1 zks_X10_rideOf (zc1 zkn_X10_rideOf (zc1 zk_X10_rideOf zc0)))), by decide, by decide, by decide +kernel⟩
theorem zlX10_139 : zLV RX10 139 yX9_come cX9_come 3 none 2 := ⟨zc1 (zin 1015 (by decide +kernel) rfl) (zc1 zki_X9_come (zc1 zks_X9_come (zc1 zkn_X9_come (zc1 zk_X9_come zc0)))), by decide, by decide, by decide +kernel⟩
theorem zlX10_149 : zLV RX10 149 yX9_leftOf cX9_leftOf 3 (some .int) 1 := ⟨zc1 (zin 1027 (by decide +kernel) rfl) (zc1 zki_X9_leftOf (zc1 zks_X9_leftOf (zc1 zkn_X9_leftOf (zc1 zk_X9_leftOf zc0)))), by decide, by decide, by decide +kernel⟩
theorem zlX10_152 : zLS RX10 152 yJ9_max_7cf53 cJ9_max_7cf53 2 (some .int) 2 := ⟨zc1 (zin 1035 (by decide +kernel) rfl) (zc1 zkt_J9_max_7cf53 (zc1 zkn_J9_max_7cf53 (zc1 zk_J9_max_7cf53 zc0))), by decide, by decide, by decide +kernel⟩
theorem zlX10_155 : zLV RX10 155 yX10_first cX10_first 6 (some .int) 3 := ⟨zc1 (zin 1036 (by decide +kernel) rfl) (zc1 zki_X10_first (zc1 zks_X10_first (zc1 zkn_X10_first (zc1 zk_X10_first zc0)))), by decide, by decide, by decide +kernel⟩
theorem zlX10_161 : zLV RX10 161 yX10_riderTold cX10_riderTold 4 (some .int) 2 := ⟨zc1 (zin 1023 (by decide +kernel) rfl) (zc1 zki_X10_riderTold (zc1 zks_X10_riderTold (zc1 zkn_X10_riderTold (zc1 zk_X10_riderTold zc0)))), by decide, by decide, by decide +kernel⟩
theorem zlX10_164 : zLV RX10 164 yX9_pass cX9_pass 3 (some .int) 0 := ⟨zc1 (zin 1048 (by decide +kernel) rfl) (zc1 zki_X9_pass (zc1 zks_X9_pass (zc1 zkn_X9_pass (zc1 zk_X9_pass zc0)))), by decide, by decide, by decide +kernel⟩
theorem zlX10_168 : zLV RX10 168 yX9_many cX9_many 4 (some .int) 1 := ⟨zc1 (zin 1083 (by decide +kernel) rfl) (zc1 zki_X9_many (zc1 zks_X9_many (zc1 zkn_X9_many (zc1 zk_X9_many zc0)))), by decide, by decide, by decide +kernel⟩
theorem zlX10_171 : zLV RX10 171 yX10_counted cX10_counted 5 (some .int) 1 := ⟨zc1 (zin 1079 (by decide +kernel) rfl) (zc1 zki_X10_counted (zc1 zks_X10_counted (zc1 zkn_X10_counted (zc1 zk_X10_counted zc0)))), by decide, by decide, by decide +kernel⟩
theorem zlX10_174 : zLV RX10 174 yX9_become cX9_become 2 none 1 := ⟨zc1 (zin 1092 (by decide +kernel) rfl) (zc1 zki_X9_become (zc1 zks_X9_become (zc1 zkn_X9_become (zc1 zk_X9_become zc0)))), by decide, by decide, by decide +kernel⟩
theorem zlX10_178 : zLV RX10 178 yX10_arrivedIn cX10_arrivedIn 3 (some .int) 1 := ⟨zc1 (zin 1107 (by decide +kernel) rfl) (zc1 zki_X10_arrivedIn (zc1 zks_X10_arrivedIn (zc1 zkn_X10_arrivedIn (zc1 zk_X10_arrivedIn zc0)))), by decide, by decide, by decide +kernel⟩
theorem zlX9_65 : zLV RX9 65 yX9_copy cX9_copy 3 none 2 := ⟨zc1 (zin 1096 (by decide +kernel) rfl) (zc1 zki_X9_copy (zc1 zks_X9_copy (zc1 zkn_X9_copy (zc1 zk_X9_copy zc0)))), by decide, by decide, by decide +kernel⟩
theorem zlX9_75 : zLV RX9 75 yX9_many cX9_many 4 (some .int) 1 := ⟨zc1 (zin 1052 (by decide +kernel) rfl) (zc1 zki_X9_many (zc1 zks_X9_many (zc1 zkn_X9_many (zc1 zk_X9_many zc0)))), by decide, by decide, by decide +kernel⟩
theorem zlX9_82 : zLV RX9 82 yX9_roll cX9_roll 5 none 1 := ⟨zc1 (zin 1056 (by decide +kernel) rfl) (zc1 zki_X9_roll (zc1 zks_X9_roll (zc1 zkn_X9_roll (zc1 zk_X9_roll zc0)))), by decide, by decide, by decide +kernel⟩
theorem zlX9_86 : zLVN RX9 86 yX10_isClosed cX10_isClosed 3 (some .boolean) 2 := ⟨⟨"ZipCanopyModel", znin 1062 (by decide +kernel) rfl⟩, zc1 zki_X10_isClosed (zc1 zks_X10_isClosed (zc1 zkn_X10_isClosed (zc1 zk_X10_isClosed zc0))), by decide, by decide, by decide +kernel⟩
theorem zlX9_90 : zLV RX9 90 yX9_begin cX9_begin 5 none 1 := ⟨zc1 (zin 1063 (by decide +kernel) rfl) (zc1 zki_X9_begin (zc1 zks_X9_begin (zc1 zkn_X9_begin (zc1 zk_X9_begin zc0)))), by decide, by decide, by decide +kernel⟩
theorem zlX9_96 : zLVN RX9 96 yX10_fewest cX10_fewest 7 (some .int) 3 := ⟨⟨"ZipCanopyModel", znin 1074 (by decide +kernel) rfl⟩, zc1 zki_X10_fewest (zc1 zks_X10_fewest (zc1 zkn_X10_fewest (zc1 zk_X10_fewest zc0))), by decide, by decide, by decide +kernel⟩
theorem zlX9_103 : zLV RX9 103 yX9_strike cX9_strike 4 none 1 := ⟨zc1 (zin 1068 (by decide +kernel) rfl) (zc1 zki_X9_strike (zc1 zks_X9_strike (zc1 zkn_X9_strike (zc1 zk_X9_strike zc0)))), by decide, by decide, by decide +kernel⟩
theorem zlX9_109 : zLV RX9 109 yX9_come cX9_come 3 none 2 := ⟨zc1 (zin 1060 (by decide +kernel) rfl) (zc1 zki_X9_come (zc1 zks_X9_come (zc1 zkn_X9_come (zc1 zk_X9_come zc0)))), by decide, by decide, by decide +kernel⟩
theorem zlX9_113 : zLVN RX9 113 yX10_lengthOf cX10_lengthOf 2 (some .int) 1 := ⟨⟨"ZipCanopyModel", znin 1061 (by decide +kernel) rfl⟩, zc1 zki_X10_lengthOf (zc1 zks_X10_lengthOf (zc1 zkn_X10_lengthOf (zc1 zk_X10_lengthOf zc0))), by decide, by decide, by decide +kernel⟩
theorem zlX9_119 : zLVN RX9 119 yX10_first cX10_first 6 (some .int) 3 := ⟨⟨"ZipCanopyModel", znin 1067 (by decide +kernel) rfl⟩, zc1 zki_X10_first (zc1 zks_X10_first (zc1 zkn_X10_first (zc1 zk_X10_first zc0))), by decide, by decide, by decide +kernel⟩
theorem zlX9_122 : zLVN RX9 122 yX10_rideOf cX10_rideOf 5 (some .int) 2 := ⟨⟨"ZipCanopyModel", znin 1072 (by decide +kernel) rfl⟩, zc1 zki_X10_rideOf (zc1 zks_X10_rideOf (zc1 zkn_X10_rideOf (zc1 zk_X10_rideOf zc0))), by decide, by decide, by decide +kernel⟩
theorem zlX9_126 : zLS RX9 126 yJ9_abs_0f7a4 cJ9_abs_0f7a4 1 (some .int) 1 := ⟨zc1 (zin 1073 (by decide +kernel) rfl) (zc1 zkt_J9_abs_0f7a4 (zc1 zkn_J9_abs_0f7a4 (zc1 zk_J9_abs_0f7a4 zc0))), by decide, by decide, by decide +kernel⟩
end
section
/-! THE LAYER: one world of cells at addresses 'ad f i' (family f, index i), whose int contents are a memory M : family, index, slot to Int. -/
abbrev zM : Type := Nat → Nat → Nat → Int
abbrev iv (a : Int) : Value := .int (Int32.ofInt a)
def zup (M : zM) (f i k : Nat) (v : Int) : zM := fun f' i' k' => if f' = f ∧ i' = i ∧ k' = k then v else M f' i' k'
/-- a cell's shape: an object (class, fields: none an int of the memory, some v a constant), an int array, an array of references -/
abbrev zT : Type := (Nat × List (Option Value)) ⊕ ((ClassId × Nat) ⊕ (ClassId × Nat × (Nat → Nat)))
def zfl (g : Nat → Int) : Nat → List (Option Value) → List Value
  | _, [] => []
  | j, q :: t => q.getD (iv (g j)) :: zfl g (j + 1) t
def zcel (t : zT) (g : Nat → Int) : va_E := match t with
  | .inl (ci, l) => .inr (ci, zfl g 0 l)
  | .inr (.inl (cA, n)) => .inl (cA, n, .inl (fun k => Int32.ofInt (g k)))
  | .inr (.inr (cA, n, r)) => .inl (cA, n, .inr (.inr (.inr (.inr (fun k => some (r k))))))
def zH (D : va_G) (ad : Nat → Nat → Nat) (ok : Nat → Nat → Prop) (tm : Nat → Nat → zT) (M : zM) (H : Heap) : Prop := ∀ f i, ok f i → va_at D vwCl (ad f i, zcel (tm f i) (M f i)) H
def zI (ad : Nat → Nat → Nat) (ok : Nat → Nat → Prop) : Prop := ∀ f i f' i', ok f i → ok f' i' → ad f i = ad f' i' → f = f' ∧ i = i'
def zA (ad : Nat → Nat → Nat) (ok : Nat → Nat → Prop) (sz : Nat) : Nat → Prop := fun q => (∃ f i, ok f i ∧ q = ad f i) ∨ sz ≤ q
/-- what stands beside a frame -/
def zC (p : Program) (s : State) (m : MethodId) (args : Array Value) (c : Code) (D : va_G) (tys : List (ClassId × FieldType)) (ad : Nat → Nat → Nat) (ok : Nat → Nat → Prop) (A : Nat → Prop) (H0 : Heap) (cc : ByteArray) (nL : Nat) (own : String) : Prop :=
  (p.tables.exec = Jvm.exec ∧ c.code = cc ∧ c.maxLocals = nL ∧ s.vm.findClass own = some m.cls ∧ ∀ x ∈ zbig, x.before args s = true) ∧ va_K D vwCl tys s ∧ zI ad ok ∧ (∀ f i, ok f i → A (ad f i)) ∧ (∀ q, H0.size ≤ q → A q) ∧ ∀ w ∈ znl, va_Nw w s
def zV (p : Program) (l : Launch) (e : Env) (R : Room) (s : State) (m : MethodId) (args : Array Value) (below : List Frame) (meth : Method) (c : Code) (Q : State → Prop) (D : va_G) (ad : Nat → Nat → Nat) (ok : Nat → Nat → Prop) (tm : Nat → Nat → zT) (A : Nat → Prop) (H0 : Heap) (nL : Nat) (cells slots : Nat) (M : zM) (L : List (Nat × Value)) (pc : Nat) (St : List Value) : Prop :=
  ∀ (H : Heap) (locs : List Loc) (ls : Array Slot), zH D ad ok tm M H → va_S A H0 H locs → lv_has ls nL L → W p l e R s m args below meth c H locs cells slots Q (F0 m pc ls St)
theorem zfl_get {g : Nat → Int} {l : List (Option Value)} {k : Nat} {q : Option Value} (h : l[k]? = some q) (j : Nat) : (zfl g j l)[k]? = some (q.getD (iv (g (j + k)))) := by
  induction l generalizing j k with
  | nil => simp at h
  | cons a t ih =>
    cases k with
    | zero => simp at h; subst h; simp [zfl]
    | succ k =>
      simp only [List.getElem?_cons_succ] at h
      have := ih h (j + 1)
      simp only [zfl, List.getElem?_cons_succ]
      rw [this, show j + 1 + k = j + (k + 1) by omega]
theorem zfl_length (g : Nat → Int) (l : List (Option Value)) (j : Nat) : (zfl g j l).length = l.length := by
  induction l generalizing j with
  | nil => rfl
  | cons a t ih => simp [zfl, ih]
theorem zfl_set {g g' : Nat → Int} {l : List (Option Value)} {k : Nat} {v : Int} (h : l[k]? = some none) (j : Nat) (h1 : g' (j + k) = v) (h2 : ∀ i, i ≠ j + k → g' i = g i) : zfl g' j l = (zfl g j l).set k (iv v) := by
  induction l generalizing j k with
  | nil => simp at h
  | cons a t ih =>
    cases k with
    | zero =>
      simp at h; subst h
      simp only [zfl, List.set_cons_zero, Option.getD_none]
      rw [← h1]
      congr 1
      clear ih
      have : ∀ (t : List (Option Value)) (i : Nat), j < i → zfl g' i t = zfl g i t := by
        intro t
        induction t with
        | nil => intro i _; rfl
        | cons a t ih => intro i hi; simp only [zfl]; rw [ih (i + 1) (by omega), h2 i (by omega)]
      exact this t (j + 1) (by omega)
    | succ k =>
      simp only [List.getElem?_cons_succ] at h
      simp only [zfl, List.set_cons_succ]
      rw [ih h (j + 1) (by rw [← h1]; congr 1; omega) (fun i hi => h2 i (by omega)), h2 j (by omega)]
theorem zup_at (M : zM) (f i k : Nat) (v : Int) : zup M f i k v f i k = v := by simp [zup]
theorem zup_off {M : zM} {f i k : Nat} {v : Int} {f' i' : Nat} (h : ¬ (f' = f ∧ i' = i)) : zup M f i k v f' i' = M f' i' := by
  funext k'; simp only [zup]; rw [if_neg (fun q => h ⟨q.1, q.2.1⟩)]
/-- a cell of the world has changed, the others not -/
theorem zH.put {D : va_G} {ad : Nat → Nat → Nat} {ok : Nat → Nat → Prop} {tm : Nat → Nat → zT} {M M' : zM} {H H1 : Heap} (h : zH D ad ok tm M H) (hi : zI ad ok) {f i : Nat} (ho : ok f i) (hn : va_at D vwCl (ad f i, zcel (tm f i) (M' f i)) H1) (oq : ∀ q : Nat, q ≠ ad f i → H1[q]? = H[q]?) (hM : ∀ f' i', ¬ (f' = f ∧ i' = i) → M' f' i' = M f' i') : zH D ad ok tm M' H1 := by
  intro f' i' ho'
  by_cases hq : f' = f ∧ i' = i
  · obtain ⟨rfl, rfl⟩ := hq
    exact hn
  · rw [hM f' i' hq]
    exact (h f' i' ho').kept (oq _ (fun z => hq (hi f' i' f i ho' ho z)))
theorem zH.kept {D : va_G} {ad : Nat → Nat → Nat} {ok : Nat → Nat → Prop} {tm : Nat → Nat → zT} {M : zM} {H H1 : Heap} (h : zH D ad ok tm M H) (oq : ∀ f i, ok f i → H1[ad f i]? = H[ad f i]?) : zH D ad ok tm M H1 := fun f i ho => (h f i ho).kept (oq f i ho)
theorem zH.one {D : va_G} {ad : Nat → Nat → Nat} {ok : Nat → Nat → Prop} {tm : Nat → Nat → zT} {M : zM} {H : Heap} (h : zH D ad ok tm M H) {f i : Nat} (ho : ok f i) : va_P D vwCl [(ad f i, zcel (tm f i) (M f i))] H := by
  intro k q hk
  match k, hk with
  | 0, hk => cases hk; exact h f i ho
  | k + 1, hk => simp at hk
section ZV
variable {p : Program} {l : Launch} {e : Env} {R : Room} {s : State} {m : MethodId} {args : Array Value} {below : List Frame} {meth : Method} {c : Code} {Q : State → Prop} {D : va_G} {tys : List (ClassId × FieldType)} {ad : Nat → Nat → Nat} {ok : Nat → Nat → Prop} {tm : Nat → Nat → zT} {A : Nat → Prop} {H0 : Heap} {nL : Nat} {cells slots : Nat} {M : zM} {L : List (Nat × Value)} {pc : Nat} {St rest : List Value} {cc : ByteArray} {own : String}
theorem z_getI (hC : zC p s m args c D tys ad ok A H0 cc nL own) {index ci k : Nat} (hf : zF own index ci k) {f i : Nat} {lt : List (Option Value)} (ht : tm f i = .inl (ci, lt)) (ho : ok f i) (hq : lt[k]? = some none) (hdg : decode cc pc = .ok (.getfield index, 3))
    (kk : zV p l e R s m args below meth c Q D ad ok tm A H0 nL cells slots M L (pc + 3) (iv (M f i k) :: rest)) : zV p l e R s m args below meth c Q D ad ok tm A H0 nL cells slots M L pc (.ref (ad f i) :: rest) := by
  intro H locs ls hw hS hl
  obtain ⟨⟨hx, hb, hml, hown, hts⟩, hK, -⟩ := hC
  obtain ⟨C, T, N, h1, h2, h3, h4⟩ := hf
  have hP := hw.one ho
  rw [ht] at hP
  refine va_get hx hb hts h3 hown hK hP 0 rfl h1 k h2 (hts _ h4) (fun _ h => h) (v := iv (M f i k)) ?_ hdg (kk H locs ls hw hS hl)
  have := zfl_get (g := M f i) hq 0
  rw [this, Nat.zero_add]
  rfl
theorem z_getR (hC : zC p s m args c D tys ad ok A H0 cc nL own) {index ci k : Nat} (hf : zF own index ci k) {f i : Nat} {lt : List (Option Value)} (ht : tm f i = .inl (ci, lt)) (ho : ok f i) {v : Value} (hq : lt[k]? = some (some v)) (hdg : decode cc pc = .ok (.getfield index, 3))
    (kk : zV p l e R s m args below meth c Q D ad ok tm A H0 nL cells slots M L (pc + 3) (v :: rest)) : zV p l e R s m args below meth c Q D ad ok tm A H0 nL cells slots M L pc (.ref (ad f i) :: rest) := by
  intro H locs ls hw hS hl
  obtain ⟨⟨hx, hb, hml, hown, hts⟩, hK, -⟩ := hC
  obtain ⟨C, T, N, h1, h2, h3, h4⟩ := hf
  have hP := hw.one ho
  rw [ht] at hP
  refine va_get hx hb hts h3 hown hK hP 0 rfl h1 k h2 (hts _ h4) (fun _ h => h) (v := v) ?_ hdg (kk H locs ls hw hS hl)
  have := zfl_get (g := M f i) hq 0
  rw [this]
  rfl
theorem z_put (hC : zC p s m args c D tys ad ok A H0 cc nL own) {index ci k : Nat} (hf : zFw own index ci k) {f i : Nat} {lt : List (Option Value)} (ht : tm f i = .inl (ci, lt)) (ho : ok f i) (hq : lt[k]? = some none) {x : Int} (hdg : decode cc pc = .ok (.putfield index, 3))
    (kk : zV p l e R s m args below meth c Q D ad ok tm A H0 nL cells slots (zup M f i k x) L (pc + 3) rest) : zV p l e R s m args below meth c Q D ad ok tm A H0 nL cells slots M L pc (iv x :: .ref (ad f i) :: rest) := by
  intro H locs ls hw hS hl
  obtain ⟨⟨hx, hb, hml, hown, hts⟩, hK, hI, hA, -⟩ := hC
  obtain ⟨C, T, N, ty0, h1, h2, hin, h4, hty, hnm, hfin, hd⟩ := hf
  have hap := va_apart (own := own) hts hin ty0 hty hnm hK h1
  have hw0 := hw f i ho
  rw [ht] at hw0
  obtain ⟨r, hr1, cell, q1, q2, q3, q4⟩ := hw0
  have hr : r = (C, T, N) := Option.some.inj (hr1.symm.trans h1)
  subst hr
  obtain ⟨hSl, hfc, kC, hkC, hkind⟩ := hK.1 ci _ h1
  obtain ⟨cf, kf, fi, fd, hi, hsl⟩ := hSl k h2
  have hlay := hts _ (hin _ (u_in_lay h2))
  unfold u_lay at hlay
  rw [if_neg (by rw [hfin]; decide)] at hlay
  have hst := (u_facts hfc hkC (u_lays hts hin h2) hi).1
  have h6 := u_store (v := iv x) hfc hkC hkind hlay hi hd rfl rfl
  refine W.putK hx hb (f := fd) ⟨hown, hts _ h4, ⟨_, _, _, hi⟩, hst⟩ (by rw [q2]; exact h6) q1 q3 (by rw [hsl]; exact k2_hasslot (q4 k h2)) rfl rfl hdg fun H' e1 e2 e3 => ?_
  rw [hsl] at e1 ⊢
  have hkl : k < (zfl (M f i) 0 lt).length := by rw [zfl_length]; exact (List.getElem?_eq_some_iff.mp hq).1
  refine kk H' _ ls (hw.put hI ho ?_ e3 (fun f' i' h => zup_off h)) (hS.put e2 e3 (hA f i ho)) hl
  rw [ht]
  refine ⟨_, h1, t_OB.to (V := updV (vp_V (zfl (M f i) 0 lt)) k (iv x)) ⟨_, e1, q2, q3, t_set q4 hap h2 (iv x)⟩ (fun j _ => ?_)⟩
  show updV (vp_V (zfl (M f i) 0 lt)) k (iv x) j = vp_V (zfl (zup M f i k x f i) 0 lt) j
  rw [vp_updV_set hkl (iv x) j, zfl_set (g := M f i) (g' := zup M f i k x f i) (v := x) hq 0 (by rw [Nat.zero_add]; exact zup_at M f i k x) (fun i' h => by
    simp only [zup]
    rw [if_neg (fun q => h (by rw [Nat.zero_add]; exact q.2.2))])]
theorem z_getIN (hC : zC p s m args c D tys ad ok A H0 cc nL own) {index ci k : Nat} (hf : zFN own index ci k) {f i : Nat} {lt : List (Option Value)} (ht : tm f i = .inl (ci, lt)) (ho : ok f i) (hq : lt[k]? = some none) (hdg : decode cc pc = .ok (.getfield index, 3))
    (kk : zV p l e R s m args below meth c Q D ad ok tm A H0 nL cells slots M L (pc + 3) (iv (M f i k) :: rest)) : zV p l e R s m args below meth c Q D ad ok tm A H0 nL cells slots M L pc (.ref (ad f i) :: rest) := by
  intro H locs ls hw hS hl
  obtain ⟨⟨hx, hb, hml, hown, hts⟩, hK, -, -, -, hN⟩ := hC
  obtain ⟨C, T, N, host, h1, h2, h3, h4⟩ := hf
  have hP := hw.one ho
  rw [ht] at hP
  refine va_getN hx hb hts h3 hown hK hP 0 rfl h1 k h2 ((hN _ h4).use rfl) (fun _ h => h) (v := iv (M f i k)) ?_ hdg (kk H locs ls hw hS hl)
  have := zfl_get (g := M f i) hq 0
  rw [this, Nat.zero_add]
  rfl
theorem z_getRN (hC : zC p s m args c D tys ad ok A H0 cc nL own) {index ci k : Nat} (hf : zFN own index ci k) {f i : Nat} {lt : List (Option Value)} (ht : tm f i = .inl (ci, lt)) (ho : ok f i) {v : Value} (hq : lt[k]? = some (some v)) (hdg : decode cc pc = .ok (.getfield index, 3))
    (kk : zV p l e R s m args below meth c Q D ad ok tm A H0 nL cells slots M L (pc + 3) (v :: rest)) : zV p l e R s m args below meth c Q D ad ok tm A H0 nL cells slots M L pc (.ref (ad f i) :: rest) := by
  intro H locs ls hw hS hl
  obtain ⟨⟨hx, hb, hml, hown, hts⟩, hK, -, -, -, hN⟩ := hC
  obtain ⟨C, T, N, host, h1, h2, h3, h4⟩ := hf
  have hP := hw.one ho
  rw [ht] at hP
  refine va_getN hx hb hts h3 hown hK hP 0 rfl h1 k h2 ((hN _ h4).use rfl) (fun _ h => h) (v := v) ?_ hdg (kk H locs ls hw hS hl)
  have := zfl_get (g := M f i) hq 0
  rw [this]
  rfl
end ZV
end
section
/-! one instruction a row -/
theorem zi_lt {a b : Int} (h1 : -2147483648 ≤ a ∧ a < 2147483648) (h2 : -2147483648 ≤ b ∧ b < 2147483648) : Int32.ofInt a < Int32.ofInt b ↔ a < b := by
  rw [Int32.lt_iff_toInt_lt, Int32.toInt_ofInt_of_le (by omega) (by omega), Int32.toInt_ofInt_of_le (by omega) (by omega)]
theorem zi_le {a b : Int} (h1 : -2147483648 ≤ a ∧ a < 2147483648) (h2 : -2147483648 ≤ b ∧ b < 2147483648) : Int32.ofInt a ≤ Int32.ofInt b ↔ a ≤ b := by
  rw [Int32.le_iff_toInt_le, Int32.toInt_ofInt_of_le (by omega) (by omega), Int32.toInt_ofInt_of_le (by omega) (by omega)]
theorem zi_eq {a b : Int} (h1 : -2147483648 ≤ a ∧ a < 2147483648) (h2 : -2147483648 ≤ b ∧ b < 2147483648) : Int32.ofInt a = Int32.ofInt b ↔ a = b := by
  rw [← Int32.toInt_inj, Int32.toInt_ofInt_of_le (by omega) (by omega), Int32.toInt_ofInt_of_le (by omega) (by omega)]
theorem zi_toInt {a : Int} (h1 : -2147483648 ≤ a ∧ a < 2147483648) : (Int32.ofInt a).toInt = a := Int32.toInt_ofInt_of_le (by omega) (by omega)
theorem zi_nat {a : Int} (h1 : -2147483648 ≤ a ∧ a < 2147483648) : (Int32.ofInt a).toNatClampNeg = a.toNat := Int32.toNatClampNeg_ofInt_of_le (by omega) (by omega)
theorem zi_0 : (0 : Int32) = Int32.ofInt 0 := by decide
theorem zi_div {a b : Int} (h1 : 0 ≤ a ∧ a < 2147483648) (h2 : 0 < b ∧ b < 2147483648) : Int32.ofInt a / Int32.ofInt b = Int32.ofInt (a / b) := by
  rw [← Int32.toInt_inj, Int32.toInt_div_of_ne_right, zi_toInt (by omega), zi_toInt (by omega), Int.tdiv_eq_ediv_of_nonneg (by omega), zi_toInt]
  · have := Int.ediv_nonneg h1.1 (show 0 ≤ b by omega)
    have := Int.ediv_le_self b h1.1
    omega
  · intro h
    have := congrArg Int32.toInt h
    rw [zi_toInt (by omega)] at this
    have h3 : (-1 : Int32).toInt = -1 := by decide
    omega
theorem zi_rem {a b : Int} (h1 : 0 ≤ a ∧ a < 2147483648) (h2 : 0 < b ∧ b < 2147483648) : Int32.ofInt a - Int32.ofInt a / Int32.ofInt b * Int32.ofInt b = Int32.ofInt (a % b) := by
  rw [zi_div h1 h2, ← Int32.ofInt_mul, ← Int32.ofInt_sub, Int.emod_def, Int.mul_comm]
theorem zi_ne0 {b : Int} (h2 : 0 < b ∧ b < 2147483648) : ¬ Int32.ofInt b = 0 := by
  rw [zi_0, zi_eq (by omega) (by omega)]; omega
theorem zi_in {a : Int} {n : Nat} (h1 : 0 ≤ a ∧ a < 2147483648) (h2 : a < n) : vp_in (Int32.ofInt a) n := by
  intro h
  rw [zi_nat (by omega)] at h
  rcases h with h | h
  · rw [zi_0, zi_lt (by omega) (by omega)] at h; omega
  · omega
section ZR
variable {p : Program} {l : Launch} {e : Env} {R : Room} {s : State} {m : MethodId} {args : Array Value} {below : List Frame} {meth : Method} {c : Code} {Q : State → Prop} {D : va_G} {tys : List (ClassId × FieldType)} {ad : Nat → Nat → Nat} {ok : Nat → Nat → Prop} {tm : Nat → Nat → zT} {A : Nat → Prop} {H0 : Heap} {nL : Nat} {cells slots : Nat} {M : zM} {L : List (Nat × Value)} {pc : Nat} {St rest : List Value} {cc : ByteArray} {own : String}
theorem z_iconst (hC : zC p s m args c D tys ad ok A H0 cc nL own) {n : Int} (hdg : decode cc pc = .ok (.iconst n, 1)) (kk : zV p l e R s m args below meth c Q D ad ok tm A H0 nL cells slots M L (pc + 1) (iv n :: rest)) : zV p l e R s m args below meth c Q D ad ok tm A H0 nL cells slots M L (pc) (rest) := fun H locs ls hw hS hl => lv_iconst hC.1.1 hC.1.2.1 hdg rfl (kk H locs ls hw hS hl)
theorem z_bipush (hC : zC p s m args c D tys ad ok A H0 cc nL own) {n : Int} (hdg : decode cc pc = .ok (.bipush n, 2)) (hv : (Int8.ofInt n).toInt32 = Int32.ofInt n) (kk : zV p l e R s m args below meth c Q D ad ok tm A H0 nL cells slots M L (pc + 2) (iv n :: rest)) : zV p l e R s m args below meth c Q D ad ok tm A H0 nL cells slots M L (pc) (rest) := fun H locs ls hw hS hl => lv_bipush hC.1.1 hC.1.2.1 hdg hv (kk H locs ls hw hS hl)
theorem z_sipush (hC : zC p s m args c D tys ad ok A H0 cc nL own) {n : Int} (hdg : decode cc pc = .ok (.sipush n, 3)) (hv : (Int16.ofInt n).toInt32 = Int32.ofInt n) (kk : zV p l e R s m args below meth c Q D ad ok tm A H0 nL cells slots M L (pc + 3) (iv n :: rest)) : zV p l e R s m args below meth c Q D ad ok tm A H0 nL cells slots M L (pc) (rest) := fun H locs ls hw hS hl => lv_sipush hC.1.1 hC.1.2.1 hdg hv (kk H locs ls hw hS hl)
theorem z_iload_n (hC : zC p s m args c D tys ad ok A H0 cc nL own) {k : Fin 4} {i : Nat} {x : Int32} (j : Nat) (hj : L[j]? = some (i, .int x)) (hdg : decode cc pc = .ok (.iload_n k, 1)) (hi : (k : Nat) = i) (kk : zV p l e R s m args below meth c Q D ad ok tm A H0 nL cells slots M L (pc + 1) (.int x :: rest)) : zV p l e R s m args below meth c Q D ad ok tm A H0 nL cells slots M L (pc) (rest) := fun H locs ls hw hS hl => lv_iload_n hC.1.1 hC.1.2.1 hdg hi (lv_at hl j hj) (kk H locs ls hw hS hl)
theorem z_iload (hC : zC p s m args c D tys ad ok A H0 cc nL own) {i : Nat} {x : Int32} (j : Nat) (hj : L[j]? = some (i, .int x)) (hdg : decode cc pc = .ok (.iload i, 2))  (kk : zV p l e R s m args below meth c Q D ad ok tm A H0 nL cells slots M L (pc + 2) (.int x :: rest)) : zV p l e R s m args below meth c Q D ad ok tm A H0 nL cells slots M L (pc) (rest) := fun H locs ls hw hS hl => lv_iload hC.1.1 hC.1.2.1 hdg (lv_at hl j hj) (kk H locs ls hw hS hl)
theorem z_aload_n (hC : zC p s m args c D tys ad ok A H0 cc nL own) {k : Fin 4} {i : Nat} {x : Nat} (j : Nat) (hj : L[j]? = some (i, .ref x)) (hdg : decode cc pc = .ok (.aload_n k, 1)) (hi : (k : Nat) = i) (kk : zV p l e R s m args below meth c Q D ad ok tm A H0 nL cells slots M L (pc + 1) (.ref x :: rest)) : zV p l e R s m args below meth c Q D ad ok tm A H0 nL cells slots M L (pc) (rest) := fun H locs ls hw hS hl => lv_aload_n hC.1.1 hC.1.2.1 hdg hi (lv_at hl j hj) (kk H locs ls hw hS hl)
theorem z_aload (hC : zC p s m args c D tys ad ok A H0 cc nL own) {i : Nat} {x : Nat} (j : Nat) (hj : L[j]? = some (i, .ref x)) (hdg : decode cc pc = .ok (.aload i, 2))  (kk : zV p l e R s m args below meth c Q D ad ok tm A H0 nL cells slots M L (pc + 2) (.ref x :: rest)) : zV p l e R s m args below meth c Q D ad ok tm A H0 nL cells slots M L (pc) (rest) := fun H locs ls hw hS hl => lv_aload hC.1.1 hC.1.2.1 hdg (lv_at hl j hj) (kk H locs ls hw hS hl)
theorem z_lload_n (hC : zC p s m args c D tys ad ok A H0 cc nL own) {k : Fin 4} {i : Nat} {x : Int64} (j : Nat) (hj : L[j]? = some (i, .long x)) (hdg : decode cc pc = .ok (.lload_n k, 1)) (hi : (k : Nat) = i) (kk : zV p l e R s m args below meth c Q D ad ok tm A H0 nL cells slots M L (pc + 1) (.long x :: rest)) : zV p l e R s m args below meth c Q D ad ok tm A H0 nL cells slots M L (pc) (rest) := fun H locs ls hw hS hl => lv_lload_n hC.1.1 hC.1.2.1 hdg hi (lv_at hl j hj) (kk H locs ls hw hS hl)
theorem z_lload (hC : zC p s m args c D tys ad ok A H0 cc nL own) {i : Nat} {x : Int64} (j : Nat) (hj : L[j]? = some (i, .long x)) (hdg : decode cc pc = .ok (.lload i, 2))  (kk : zV p l e R s m args below meth c Q D ad ok tm A H0 nL cells slots M L (pc + 2) (.long x :: rest)) : zV p l e R s m args below meth c Q D ad ok tm A H0 nL cells slots M L (pc) (rest) := fun H locs ls hw hS hl => lv_lload hC.1.1 hC.1.2.1 hdg (lv_at hl j hj) (kk H locs ls hw hS hl)
theorem z_istore_n (hC : zC p s m args c D tys ad ok A H0 cc nL own) {k : Fin 4} {i : Nat} {x : Int32} (L' : List (Nat × Value)) (hdg : decode cc pc = .ok (.istore_n k, 1)) (hi : (k : Nat) = i) (hn : i < nL) (hL : (i, Value.int x) :: L.filter (fun q => !(q.1 == i) && !(q.1 + 1 == i && q.2.category == 2)) = L') (kk : zV p l e R s m args below meth c Q D ad ok tm A H0 nL cells slots M L' (pc + 1) (rest)) : zV p l e R s m args below meth c Q D ad ok tm A H0 nL cells slots M L (pc) (.int x :: rest) := fun H locs ls hw hS hl => lv_istore_n hC.1.1 hC.1.2.1 hdg hi hl hn hL (fun ls2 hl2 => kk H locs ls2 hw hS hl2)
theorem z_istore (hC : zC p s m args c D tys ad ok A H0 cc nL own) {i : Nat} {x : Int32} (L' : List (Nat × Value)) (hdg : decode cc pc = .ok (.istore i, 2))  (hn : i < nL) (hL : (i, Value.int x) :: L.filter (fun q => !(q.1 == i) && !(q.1 + 1 == i && q.2.category == 2)) = L') (kk : zV p l e R s m args below meth c Q D ad ok tm A H0 nL cells slots M L' (pc + 2) (rest)) : zV p l e R s m args below meth c Q D ad ok tm A H0 nL cells slots M L (pc) (.int x :: rest) := fun H locs ls hw hS hl => lv_istore hC.1.1 hC.1.2.1 hdg hl hn hL (fun ls2 hl2 => kk H locs ls2 hw hS hl2)
theorem z_astore_n (hC : zC p s m args c D tys ad ok A H0 cc nL own) {k : Fin 4} {i : Nat} {x : Nat} (L' : List (Nat × Value)) (hdg : decode cc pc = .ok (.astore_n k, 1)) (hi : (k : Nat) = i) (hn : i < nL) (hL : (i, Value.ref x) :: L.filter (fun q => !(q.1 == i) && !(q.1 + 1 == i && q.2.category == 2)) = L') (kk : zV p l e R s m args below meth c Q D ad ok tm A H0 nL cells slots M L' (pc + 1) (rest)) : zV p l e R s m args below meth c Q D ad ok tm A H0 nL cells slots M L (pc) (.ref x :: rest) := fun H locs ls hw hS hl => lv_astore_n hC.1.1 hC.1.2.1 hdg hi hl hn hL (fun ls2 hl2 => kk H locs ls2 hw hS hl2)
theorem z_astore (hC : zC p s m args c D tys ad ok A H0 cc nL own) {i : Nat} {x : Nat} (L' : List (Nat × Value)) (hdg : decode cc pc = .ok (.astore i, 2))  (hn : i < nL) (hL : (i, Value.ref x) :: L.filter (fun q => !(q.1 == i) && !(q.1 + 1 == i && q.2.category == 2)) = L') (kk : zV p l e R s m args below meth c Q D ad ok tm A H0 nL cells slots M L' (pc + 2) (rest)) : zV p l e R s m args below meth c Q D ad ok tm A H0 nL cells slots M L (pc) (.ref x :: rest) := fun H locs ls hw hS hl => lv_astore hC.1.1 hC.1.2.1 hdg hl hn hL (fun ls2 hl2 => kk H locs ls2 hw hS hl2)
theorem z_lstore_n (hC : zC p s m args c D tys ad ok A H0 cc nL own) {k : Fin 4} {i : Nat} {x : Int64} (L' : List (Nat × Value)) (hdg : decode cc pc = .ok (.lstore_n k, 1)) (hi : (k : Nat) = i) (hn : i + 1 < nL) (hL : (i, Value.long x) :: L.filter (fun q => !(q.1 == i) && (!(q.1 == i + 1) && !(q.1 + 1 == i && q.2.category == 2))) = L') (kk : zV p l e R s m args below meth c Q D ad ok tm A H0 nL cells slots M L' (pc + 1) (rest)) : zV p l e R s m args below meth c Q D ad ok tm A H0 nL cells slots M L (pc) (.long x :: rest) := fun H locs ls hw hS hl => lv_lstore_n hC.1.1 hC.1.2.1 hdg hi hl hn hL (fun ls2 hl2 => kk H locs ls2 hw hS hl2)
theorem z_lstore (hC : zC p s m args c D tys ad ok A H0 cc nL own) {i : Nat} {x : Int64} (L' : List (Nat × Value)) (hdg : decode cc pc = .ok (.lstore i, 2))  (hn : i + 1 < nL) (hL : (i, Value.long x) :: L.filter (fun q => !(q.1 == i) && (!(q.1 == i + 1) && !(q.1 + 1 == i && q.2.category == 2))) = L') (kk : zV p l e R s m args below meth c Q D ad ok tm A H0 nL cells slots M L' (pc + 2) (rest)) : zV p l e R s m args below meth c Q D ad ok tm A H0 nL cells slots M L (pc) (.long x :: rest) := fun H locs ls hw hS hl => lv_lstore hC.1.1 hC.1.2.1 hdg hl hn hL (fun ls2 hl2 => kk H locs ls2 hw hS hl2)
theorem z_iinc (hC : zC p s m args c D tys ad ok A H0 cc nL own) {i : Nat} {n : Int} {x : Int} (j : Nat) (L' : List (Nat × Value)) (hdg : decode cc pc = .ok (.iinc i n, 3)) (hj : L[j]? = some (i, iv x)) (hn : i < nL) (hL : (i, iv (x + n)) :: L.filter (fun q => !(q.1 == i) && !(q.1 + 1 == i && q.2.category == 2)) = L') (kk : zV p l e R s m args below meth c Q D ad ok tm A H0 nL cells slots M L' (pc + 3) (rest)) : zV p l e R s m args below meth c Q D ad ok tm A H0 nL cells slots M L (pc) (rest) := fun H locs ls hw hS hl => lv_iinc hC.1.1 hC.1.2.1 hdg hl hj (Int32.ofInt_add x n).symm hn hL (fun ls2 hl2 => kk H locs ls2 hw hS hl2)
theorem z_iadd (hC : zC p s m args c D tys ad ok A H0 cc nL own) {a b : Int} (hdg : decode cc pc = .ok (.iadd, 1)) (kk : zV p l e R s m args below meth c Q D ad ok tm A H0 nL cells slots M L (pc + 1) (iv (a + b) :: rest)) : zV p l e R s m args below meth c Q D ad ok tm A H0 nL cells slots M L (pc) (iv b :: iv a :: rest) := fun H locs ls hw hS hl => lv_iadd hC.1.1 hC.1.2.1 hdg (by rw [← Int32.ofInt_add]; exact kk H locs ls hw hS hl)
theorem z_isub (hC : zC p s m args c D tys ad ok A H0 cc nL own) {a b : Int} (hdg : decode cc pc = .ok (.isub, 1)) (kk : zV p l e R s m args below meth c Q D ad ok tm A H0 nL cells slots M L (pc + 1) (iv (a - b) :: rest)) : zV p l e R s m args below meth c Q D ad ok tm A H0 nL cells slots M L (pc) (iv b :: iv a :: rest) := fun H locs ls hw hS hl => lv_isub hC.1.1 hC.1.2.1 hdg (by rw [← Int32.ofInt_sub]; exact kk H locs ls hw hS hl)
theorem z_imul (hC : zC p s m args c D tys ad ok A H0 cc nL own) {a b : Int} (hdg : decode cc pc = .ok (.imul, 1)) (kk : zV p l e R s m args below meth c Q D ad ok tm A H0 nL cells slots M L (pc + 1) (iv (a * b) :: rest)) : zV p l e R s m args below meth c Q D ad ok tm A H0 nL cells slots M L (pc) (iv b :: iv a :: rest) := fun H locs ls hw hS hl => lv_imul hC.1.1 hC.1.2.1 hdg (by rw [← Int32.ofInt_mul]; exact kk H locs ls hw hS hl)
theorem z_ineg (hC : zC p s m args c D tys ad ok A H0 cc nL own) {a : Int} (hdg : decode cc pc = .ok (.ineg, 1)) (kk : zV p l e R s m args below meth c Q D ad ok tm A H0 nL cells slots M L (pc + 1) (iv (-a) :: rest)) : zV p l e R s m args below meth c Q D ad ok tm A H0 nL cells slots M L (pc) (iv a :: rest) := fun H locs ls hw hS hl => lv_ineg hC.1.1 hC.1.2.1 hdg (by rw [← Int32.ofInt_neg]; exact kk H locs ls hw hS hl)
theorem z_idiv (hC : zC p s m args c D tys ad ok A H0 cc nL own) {a b : Int} (hdg : decode cc pc = .ok (.idiv, 1)) (h1 : 0 ≤ a ∧ a < 2147483648) (h2 : 0 < b ∧ b < 2147483648) (kk : zV p l e R s m args below meth c Q D ad ok tm A H0 nL cells slots M L (pc + 1) (iv (a / b) :: rest)) : zV p l e R s m args below meth c Q D ad ok tm A H0 nL cells slots M L (pc) (iv b :: iv a :: rest) := fun H locs ls hw hS hl => lv_idiv hC.1.1 hC.1.2.1 hdg (zi_ne0 h2) (by rw [zi_div h1 h2]; exact kk H locs ls hw hS hl)
theorem z_irem (hC : zC p s m args c D tys ad ok A H0 cc nL own) {a b : Int} (hdg : decode cc pc = .ok (.irem, 1)) (h1 : 0 ≤ a ∧ a < 2147483648) (h2 : 0 < b ∧ b < 2147483648) (kk : zV p l e R s m args below meth c Q D ad ok tm A H0 nL cells slots M L (pc + 1) (iv (a % b) :: rest)) : zV p l e R s m args below meth c Q D ad ok tm A H0 nL cells slots M L (pc) (iv b :: iv a :: rest) := fun H locs ls hw hS hl => lv_irem hC.1.1 hC.1.2.1 hdg (zi_ne0 h2) (by rw [zi_rem h1 h2]; exact kk H locs ls hw hS hl)
theorem z_ixor (hC : zC p s m args c D tys ad ok A H0 cc nL own) {x y : Int32} (hdg : decode cc pc = .ok (.ixor, 1))  (kk : zV p l e R s m args below meth c Q D ad ok tm A H0 nL cells slots M L (pc + 1) (.int (x ^^^ y) :: rest)) : zV p l e R s m args below meth c Q D ad ok tm A H0 nL cells slots M L (pc) (.int y :: .int x :: rest) := fun H locs ls hw hS hl => lv_ixor hC.1.1 hC.1.2.1 hdg (kk H locs ls hw hS hl)
theorem z_lmul (hC : zC p s m args c D tys ad ok A H0 cc nL own) {x y : Int64} (hdg : decode cc pc = .ok (.lmul, 1))  (kk : zV p l e R s m args below meth c Q D ad ok tm A H0 nL cells slots M L (pc + 1) (.long (x * y) :: rest)) : zV p l e R s m args below meth c Q D ad ok tm A H0 nL cells slots M L (pc) (.long y :: .long x :: rest) := fun H locs ls hw hS hl => lv_lmul hC.1.1 hC.1.2.1 hdg (kk H locs ls hw hS hl)
theorem z_ladd (hC : zC p s m args c D tys ad ok A H0 cc nL own) {x y : Int64} (hdg : decode cc pc = .ok (.ladd, 1))  (kk : zV p l e R s m args below meth c Q D ad ok tm A H0 nL cells slots M L (pc + 1) (.long (x + y) :: rest)) : zV p l e R s m args below meth c Q D ad ok tm A H0 nL cells slots M L (pc) (.long y :: .long x :: rest) := fun H locs ls hw hS hl => lv_ladd hC.1.1 hC.1.2.1 hdg (kk H locs ls hw hS hl)
theorem z_i2l (hC : zC p s m args c D tys ad ok A H0 cc nL own) {x : Int32} (hdg : decode cc pc = .ok (.i2l, 1))  (kk : zV p l e R s m args below meth c Q D ad ok tm A H0 nL cells slots M L (pc + 1) (.long x.toInt64 :: rest)) : zV p l e R s m args below meth c Q D ad ok tm A H0 nL cells slots M L (pc) (.int x :: rest) := fun H locs ls hw hS hl => lv_i2l hC.1.1 hC.1.2.1 hdg rfl (kk H locs ls hw hS hl)
theorem z_dup (hC : zC p s m args c D tys ad ok A H0 cc nL own) {v : Value} (hdg : decode cc pc = .ok (.dup, 1)) (hv : v.category = 1) (kk : zV p l e R s m args below meth c Q D ad ok tm A H0 nL cells slots M L (pc + 1) (v :: v :: rest)) : zV p l e R s m args below meth c Q D ad ok tm A H0 nL cells slots M L (pc) (v :: rest) := fun H locs ls hw hS hl => lv_dup hC.1.1 hC.1.2.1 hdg hv (kk H locs ls hw hS hl)
theorem z_dup2 (hC : zC p s m args c D tys ad ok A H0 cc nL own) {v w : Value} (hdg : decode cc pc = .ok (.dup2, 1)) (hv : v.category = 1) (hw2 : w.category = 1) (kk : zV p l e R s m args below meth c Q D ad ok tm A H0 nL cells slots M L (pc + 1) (v :: w :: v :: w :: rest)) : zV p l e R s m args below meth c Q D ad ok tm A H0 nL cells slots M L (pc) (v :: w :: rest) := fun H locs ls hw hS hl => lv_dup2_11 hC.1.1 hC.1.2.1 hdg hv hw2 (kk H locs ls hw hS hl)
theorem z_pop (hC : zC p s m args c D tys ad ok A H0 cc nL own) {v : Value} (hdg : decode cc pc = .ok (.pop, 1)) (hv : v.category = 1) (kk : zV p l e R s m args below meth c Q D ad ok tm A H0 nL cells slots M L (pc + 1) (rest)) : zV p l e R s m args below meth c Q D ad ok tm A H0 nL cells slots M L (pc) (v :: rest) := fun H locs ls hw hS hl => lv_pop hC.1.1 hC.1.2.1 hdg hv (kk H locs ls hw hS hl)
theorem z_ldc2 (hC : zC p s m args c D tys ad ok A H0 cc nL own) {index : Nat} {v : Int64} (hdg : decode cc pc = .ok (.ldc2_w index, 3)) (hk : Cond.constantLong own index v ∈ zbig) (kk : zV p l e R s m args below meth c Q D ad ok tm A H0 nL cells slots M L (pc + 3) (.long v :: rest)) : zV p l e R s m args below meth c Q D ad ok tm A H0 nL cells slots M L (pc) (rest) := fun H locs ls hw hS hl => lv_ldc2 hC.1.1 hC.1.2.1 hC.1.2.2.2.1 (hC.1.2.2.2.2 _ hk) hdg (kk H locs ls hw hS hl)
theorem zi_r0 : -2147483648 ≤ (0 : Int) ∧ (0 : Int) < 2147483648 := by decide
theorem z_icmp_eq (hC : zC p s m args c D tys ad ok A H0 cc nL own) {a b : Int} {off : Int} (tgt : Nat) (hdg : decode cc pc = .ok (.if_icmp .eq off, 3)) (ht : (pc : Int) + off = (tgt : Int)) (h1 : -2147483648 ≤ a ∧ a < 2147483648) (h2 : -2147483648 ≤ b ∧ b < 2147483648) (kt : a = b → zV p l e R s m args below meth c Q D ad ok tm A H0 nL cells slots M L (tgt) (rest)) (kf : a ≠ b → zV p l e R s m args below meth c Q D ad ok tm A H0 nL cells slots M L (pc + 3) (rest)) : zV p l e R s m args below meth c Q D ad ok tm A H0 nL cells slots M L (pc) (iv b :: iv a :: rest) := fun H locs ls hw hS hl => lv_icmp_eq hC.1.1 hC.1.2.1 hdg ht (fun h => kt ((zi_eq h1 h2).mp h) H locs ls hw hS hl) (fun h => kf (fun q => h ((zi_eq h1 h2).mpr q)) H locs ls hw hS hl)
theorem z_if_eq (hC : zC p s m args c D tys ad ok A H0 cc nL own) {a : Int} {off : Int} (tgt : Nat) (hdg : decode cc pc = .ok (.ifCond .eq off, 3)) (ht : (pc : Int) + off = (tgt : Int)) (h1 : -2147483648 ≤ a ∧ a < 2147483648) (kt : a = 0 → zV p l e R s m args below meth c Q D ad ok tm A H0 nL cells slots M L (tgt) (rest)) (kf : a ≠ 0 → zV p l e R s m args below meth c Q D ad ok tm A H0 nL cells slots M L (pc + 3) (rest)) : zV p l e R s m args below meth c Q D ad ok tm A H0 nL cells slots M L (pc) (iv a :: rest) := fun H locs ls hw hS hl => lv_if_eq hC.1.1 hC.1.2.1 hdg ht (fun h => kt ((zi_eq h1 zi_r0).mp h) H locs ls hw hS hl) (fun h => kf (fun q => h ((zi_eq h1 zi_r0).mpr q)) H locs ls hw hS hl)
theorem z_icmp_ne (hC : zC p s m args c D tys ad ok A H0 cc nL own) {a b : Int} {off : Int} (tgt : Nat) (hdg : decode cc pc = .ok (.if_icmp .ne off, 3)) (ht : (pc : Int) + off = (tgt : Int)) (h1 : -2147483648 ≤ a ∧ a < 2147483648) (h2 : -2147483648 ≤ b ∧ b < 2147483648) (kt : a ≠ b → zV p l e R s m args below meth c Q D ad ok tm A H0 nL cells slots M L (tgt) (rest)) (kf : a = b → zV p l e R s m args below meth c Q D ad ok tm A H0 nL cells slots M L (pc + 3) (rest)) : zV p l e R s m args below meth c Q D ad ok tm A H0 nL cells slots M L (pc) (iv b :: iv a :: rest) := fun H locs ls hw hS hl => lv_icmp_ne hC.1.1 hC.1.2.1 hdg ht (fun h => kt (fun q => h ((zi_eq h1 h2).mpr q)) H locs ls hw hS hl) (fun h => kf ((zi_eq h1 h2).mp h) H locs ls hw hS hl)
theorem z_if_ne (hC : zC p s m args c D tys ad ok A H0 cc nL own) {a : Int} {off : Int} (tgt : Nat) (hdg : decode cc pc = .ok (.ifCond .ne off, 3)) (ht : (pc : Int) + off = (tgt : Int)) (h1 : -2147483648 ≤ a ∧ a < 2147483648) (kt : a ≠ 0 → zV p l e R s m args below meth c Q D ad ok tm A H0 nL cells slots M L (tgt) (rest)) (kf : a = 0 → zV p l e R s m args below meth c Q D ad ok tm A H0 nL cells slots M L (pc + 3) (rest)) : zV p l e R s m args below meth c Q D ad ok tm A H0 nL cells slots M L (pc) (iv a :: rest) := fun H locs ls hw hS hl => lv_if_ne hC.1.1 hC.1.2.1 hdg ht (fun h => kt (fun q => h ((zi_eq h1 zi_r0).mpr q)) H locs ls hw hS hl) (fun h => kf ((zi_eq h1 zi_r0).mp h) H locs ls hw hS hl)
theorem z_icmp_lt (hC : zC p s m args c D tys ad ok A H0 cc nL own) {a b : Int} {off : Int} (tgt : Nat) (hdg : decode cc pc = .ok (.if_icmp .lt off, 3)) (ht : (pc : Int) + off = (tgt : Int)) (h1 : -2147483648 ≤ a ∧ a < 2147483648) (h2 : -2147483648 ≤ b ∧ b < 2147483648) (kt : a < b → zV p l e R s m args below meth c Q D ad ok tm A H0 nL cells slots M L (tgt) (rest)) (kf : b ≤ a → zV p l e R s m args below meth c Q D ad ok tm A H0 nL cells slots M L (pc + 3) (rest)) : zV p l e R s m args below meth c Q D ad ok tm A H0 nL cells slots M L (pc) (iv b :: iv a :: rest) := fun H locs ls hw hS hl => lv_icmp_lt hC.1.1 hC.1.2.1 hdg ht (fun h => kt ((zi_lt h1 h2).mp h) H locs ls hw hS hl) (fun h => kf (Int.not_lt.mp fun q => h ((zi_lt h1 h2).mpr q)) H locs ls hw hS hl)
theorem z_if_lt (hC : zC p s m args c D tys ad ok A H0 cc nL own) {a : Int} {off : Int} (tgt : Nat) (hdg : decode cc pc = .ok (.ifCond .lt off, 3)) (ht : (pc : Int) + off = (tgt : Int)) (h1 : -2147483648 ≤ a ∧ a < 2147483648) (kt : a < 0 → zV p l e R s m args below meth c Q D ad ok tm A H0 nL cells slots M L (tgt) (rest)) (kf : 0 ≤ a → zV p l e R s m args below meth c Q D ad ok tm A H0 nL cells slots M L (pc + 3) (rest)) : zV p l e R s m args below meth c Q D ad ok tm A H0 nL cells slots M L (pc) (iv a :: rest) := fun H locs ls hw hS hl => lv_if_lt hC.1.1 hC.1.2.1 hdg ht (fun h => kt ((zi_lt h1 zi_r0).mp h) H locs ls hw hS hl) (fun h => kf (Int.not_lt.mp fun q => h ((zi_lt h1 zi_r0).mpr q)) H locs ls hw hS hl)
theorem z_icmp_ge (hC : zC p s m args c D tys ad ok A H0 cc nL own) {a b : Int} {off : Int} (tgt : Nat) (hdg : decode cc pc = .ok (.if_icmp .ge off, 3)) (ht : (pc : Int) + off = (tgt : Int)) (h1 : -2147483648 ≤ a ∧ a < 2147483648) (h2 : -2147483648 ≤ b ∧ b < 2147483648) (kt : b ≤ a → zV p l e R s m args below meth c Q D ad ok tm A H0 nL cells slots M L (tgt) (rest)) (kf : a < b → zV p l e R s m args below meth c Q D ad ok tm A H0 nL cells slots M L (pc + 3) (rest)) : zV p l e R s m args below meth c Q D ad ok tm A H0 nL cells slots M L (pc) (iv b :: iv a :: rest) := fun H locs ls hw hS hl => lv_icmp_ge hC.1.1 hC.1.2.1 hdg ht (fun h => kt ((zi_le h2 h1).mp h) H locs ls hw hS hl) (fun h => kf (Int.not_le.mp fun q => h ((zi_le h2 h1).mpr q)) H locs ls hw hS hl)
theorem z_if_ge (hC : zC p s m args c D tys ad ok A H0 cc nL own) {a : Int} {off : Int} (tgt : Nat) (hdg : decode cc pc = .ok (.ifCond .ge off, 3)) (ht : (pc : Int) + off = (tgt : Int)) (h1 : -2147483648 ≤ a ∧ a < 2147483648) (kt : 0 ≤ a → zV p l e R s m args below meth c Q D ad ok tm A H0 nL cells slots M L (tgt) (rest)) (kf : a < 0 → zV p l e R s m args below meth c Q D ad ok tm A H0 nL cells slots M L (pc + 3) (rest)) : zV p l e R s m args below meth c Q D ad ok tm A H0 nL cells slots M L (pc) (iv a :: rest) := fun H locs ls hw hS hl => lv_if_ge hC.1.1 hC.1.2.1 hdg ht (fun h => kt ((zi_le zi_r0 h1).mp h) H locs ls hw hS hl) (fun h => kf (Int.not_le.mp fun q => h ((zi_le zi_r0 h1).mpr q)) H locs ls hw hS hl)
theorem z_icmp_gt (hC : zC p s m args c D tys ad ok A H0 cc nL own) {a b : Int} {off : Int} (tgt : Nat) (hdg : decode cc pc = .ok (.if_icmp .gt off, 3)) (ht : (pc : Int) + off = (tgt : Int)) (h1 : -2147483648 ≤ a ∧ a < 2147483648) (h2 : -2147483648 ≤ b ∧ b < 2147483648) (kt : b < a → zV p l e R s m args below meth c Q D ad ok tm A H0 nL cells slots M L (tgt) (rest)) (kf : a ≤ b → zV p l e R s m args below meth c Q D ad ok tm A H0 nL cells slots M L (pc + 3) (rest)) : zV p l e R s m args below meth c Q D ad ok tm A H0 nL cells slots M L (pc) (iv b :: iv a :: rest) := fun H locs ls hw hS hl => lv_icmp_gt hC.1.1 hC.1.2.1 hdg ht (fun h => kt ((zi_lt h2 h1).mp h) H locs ls hw hS hl) (fun h => kf (Int.not_lt.mp fun q => h ((zi_lt h2 h1).mpr q)) H locs ls hw hS hl)
theorem z_if_gt (hC : zC p s m args c D tys ad ok A H0 cc nL own) {a : Int} {off : Int} (tgt : Nat) (hdg : decode cc pc = .ok (.ifCond .gt off, 3)) (ht : (pc : Int) + off = (tgt : Int)) (h1 : -2147483648 ≤ a ∧ a < 2147483648) (kt : 0 < a → zV p l e R s m args below meth c Q D ad ok tm A H0 nL cells slots M L (tgt) (rest)) (kf : a ≤ 0 → zV p l e R s m args below meth c Q D ad ok tm A H0 nL cells slots M L (pc + 3) (rest)) : zV p l e R s m args below meth c Q D ad ok tm A H0 nL cells slots M L (pc) (iv a :: rest) := fun H locs ls hw hS hl => lv_if_gt hC.1.1 hC.1.2.1 hdg ht (fun h => kt ((zi_lt zi_r0 h1).mp h) H locs ls hw hS hl) (fun h => kf (Int.not_lt.mp fun q => h ((zi_lt zi_r0 h1).mpr q)) H locs ls hw hS hl)
theorem z_icmp_le (hC : zC p s m args c D tys ad ok A H0 cc nL own) {a b : Int} {off : Int} (tgt : Nat) (hdg : decode cc pc = .ok (.if_icmp .le off, 3)) (ht : (pc : Int) + off = (tgt : Int)) (h1 : -2147483648 ≤ a ∧ a < 2147483648) (h2 : -2147483648 ≤ b ∧ b < 2147483648) (kt : a ≤ b → zV p l e R s m args below meth c Q D ad ok tm A H0 nL cells slots M L (tgt) (rest)) (kf : b < a → zV p l e R s m args below meth c Q D ad ok tm A H0 nL cells slots M L (pc + 3) (rest)) : zV p l e R s m args below meth c Q D ad ok tm A H0 nL cells slots M L (pc) (iv b :: iv a :: rest) := fun H locs ls hw hS hl => lv_icmp_le hC.1.1 hC.1.2.1 hdg ht (fun h => kt ((zi_le h1 h2).mp h) H locs ls hw hS hl) (fun h => kf (Int.not_le.mp fun q => h ((zi_le h1 h2).mpr q)) H locs ls hw hS hl)
theorem z_if_le (hC : zC p s m args c D tys ad ok A H0 cc nL own) {a : Int} {off : Int} (tgt : Nat) (hdg : decode cc pc = .ok (.ifCond .le off, 3)) (ht : (pc : Int) + off = (tgt : Int)) (h1 : -2147483648 ≤ a ∧ a < 2147483648) (kt : a ≤ 0 → zV p l e R s m args below meth c Q D ad ok tm A H0 nL cells slots M L (tgt) (rest)) (kf : 0 < a → zV p l e R s m args below meth c Q D ad ok tm A H0 nL cells slots M L (pc + 3) (rest)) : zV p l e R s m args below meth c Q D ad ok tm A H0 nL cells slots M L (pc) (iv a :: rest) := fun H locs ls hw hS hl => lv_if_le hC.1.1 hC.1.2.1 hdg ht (fun h => kt ((zi_le h1 zi_r0).mp h) H locs ls hw hS hl) (fun h => kf (Int.not_le.mp fun q => h ((zi_le h1 zi_r0).mpr q)) H locs ls hw hS hl)
theorem z_if_ne_b (hC : zC p s m args c D tys ad ok A H0 cc nL own) {P : Prop} [Decidable P] {off : Int} (tgt : Nat) (hdg : decode cc pc = .ok (.ifCond .ne off, 3)) (ht : (pc : Int) + off = (tgt : Int)) (kt : P → zV p l e R s m args below meth c Q D ad ok tm A H0 nL cells slots M L (tgt) (rest)) (kf : ¬ P → zV p l e R s m args below meth c Q D ad ok tm A H0 nL cells slots M L (pc + 3) (rest)) : zV p l e R s m args below meth c Q D ad ok tm A H0 nL cells slots M L (pc) (iv (if P then 1 else 0) :: rest) := z_if_ne hC tgt hdg ht (by split <;> decide) (fun h => kt (Classical.byContradiction fun q => h (if_neg q))) (fun h => kf (fun q => by rw [if_pos q] at h; exact absurd h (by decide)))
theorem z_if_eq_b (hC : zC p s m args c D tys ad ok A H0 cc nL own) {P : Prop} [Decidable P] {off : Int} (tgt : Nat) (hdg : decode cc pc = .ok (.ifCond .eq off, 3)) (ht : (pc : Int) + off = (tgt : Int)) (kt : ¬ P → zV p l e R s m args below meth c Q D ad ok tm A H0 nL cells slots M L (tgt) (rest)) (kf : P → zV p l e R s m args below meth c Q D ad ok tm A H0 nL cells slots M L (pc + 3) (rest)) : zV p l e R s m args below meth c Q D ad ok tm A H0 nL cells slots M L (pc) (iv (if P then 1 else 0) :: rest) := z_if_eq hC tgt hdg ht (by split <;> decide) (fun h => kt (fun q => by rw [if_pos q] at h; exact absurd h (by decide))) (fun h => kf (Classical.byContradiction fun q => h (if_neg q)))
theorem z_goto (hC : zC p s m args c D tys ad ok A H0 cc nL own) {off : Int} (tgt : Nat) (hdg : decode cc pc = .ok (.goto off, 3)) (ht : (pc : Int) + off = (tgt : Int)) (kk : zV p l e R s m args below meth c Q D ad ok tm A H0 nL cells slots M L (tgt) (rest)) : zV p l e R s m args below meth c Q D ad ok tm A H0 nL cells slots M L (pc) (rest) := fun H locs ls hw hS hl => lv_goto hC.1.1 hC.1.2.1 hdg ht (kk H locs ls hw hS hl)
theorem z_tableIn (hC : zC p s m args c D tys ad ok A H0 cc nL own) {dflt lo hi : Int} {offs : Array Int} {len : Nat} {a off : Int} (tgt : Nat) (hdg : decode cc pc = .ok (.tableswitch dflt lo hi offs, len)) (h1 : -2147483648 ≤ a ∧ a < 2147483648) (h2 : lo ≤ a) (h3 : a ≤ hi) (ho : offs[(a - lo).toNat]? = some off) (ht : (pc : Int) + off = (tgt : Int)) (kk : zV p l e R s m args below meth c Q D ad ok tm A H0 nL cells slots M L (tgt) (rest)) : zV p l e R s m args below meth c Q D ad ok tm A H0 nL cells slots M L (pc) (iv a :: rest) := fun H locs ls hw hS hl => lv_tableIn hC.1.1 hC.1.2.1 hdg (by rw [zi_toInt h1]; omega) (by rw [zi_toInt h1]; omega) (by rw [zi_toInt h1]; exact ho) ht (kk H locs ls hw hS hl)
theorem z_tableOut (hC : zC p s m args c D tys ad ok A H0 cc nL own) {dflt lo hi : Int} {offs : Array Int} {len : Nat} {a : Int} (tgt : Nat) (hdg : decode cc pc = .ok (.tableswitch dflt lo hi offs, len)) (h1 : -2147483648 ≤ a ∧ a < 2147483648) (h2 : a < lo ∨ hi < a) (ht : (pc : Int) + dflt = (tgt : Int)) (kk : zV p l e R s m args below meth c Q D ad ok tm A H0 nL cells slots M L (tgt) (rest)) : zV p l e R s m args below meth c Q D ad ok tm A H0 nL cells slots M L (pc) (iv a :: rest) := fun H locs ls hw hS hl => lv_tableOut hC.1.1 hC.1.2.1 hdg (by rw [zi_toInt h1]; exact h2) ht (kk H locs ls hw hS hl)
theorem z_perm {L' : List (Nat × Value)} (ks : List Nat) (h : lv_pick L ks = L') (kk : zV p l e R s m args below meth c Q D ad ok tm A H0 nL cells slots M L' (pc) (rest)) : zV p l e R s m args below meth c Q D ad ok tm A H0 nL cells slots M L (pc) (rest) := fun H locs ls hw hS hl => kk H locs ls hw hS (lv_sub hl ks h)
theorem z_mem {M2 : zM} (h : M = M2) (kk : zV p l e R s m args below meth c Q D ad ok tm A H0 nL cells slots M2 L (pc) (rest)) : zV p l e R s m args below meth c Q D ad ok tm A H0 nL cells slots M L (pc) (rest) := by subst h; exact kk
theorem z_conv {M2 : zM} {L2 : List (Nat × Value)} {St2 : List Value} (kk : zV p l e R s m args below meth c Q D ad ok tm A H0 nL cells slots M2 L2 pc St2) (hM : M = M2) (hL : L = L2) (hSt : St = St2) : zV p l e R s m args below meth c Q D ad ok tm A H0 nL cells slots M L (pc) (St) := by subst hM; subst hL; subst hSt; exact kk
theorem z_widen {k n : Nat} (h1 : cells ≤ k) (h2 : slots ≤ n) (kk : zV p l e R s m args below meth c Q D ad ok tm A H0 nL k n M L (pc) (rest)) : zV p l e R s m args below meth c Q D ad ok tm A H0 nL cells slots M L (pc) (rest) := fun H locs ls hw hS hl => W.widen h1 h2 (kk H locs ls hw hS hl)
theorem z_iaload (hC : zC p s m args c D tys ad ok A H0 cc nL own) {f i : Nat} {a : Int} {cA : ClassId} {n : Nat} (t0 : Nat) (k : Nat) (ht : tm f i = .inr (.inl (cA, n))) (hty : tys[t0]? = some (cA, .int)) (ho : ok f i) (hk : a = (k : Int)) (h1 : k < n) (hn : n < 2147483648) (hdg : decode cc pc = .ok (.iaload, 1)) (kk : zV p l e R s m args below meth c Q D ad ok tm A H0 nL cells slots M L (pc + 1) (iv (M f i k) :: rest)) : zV p l e R s m args below meth c Q D ad ok tm A H0 nL cells slots M L (pc) (iv a :: .ref (ad f i) :: rest) := by
  intro H locs ls hw hS hl
  have hP := hw.one ho
  rw [ht] at hP
  refine va_iald hC.1.1 hC.1.2.1 hC.2.1 hP 0 t0 rfl hty (zi_in (n := n) (by omega) (by omega)) hdg ?_
  rw [zi_nat (by omega), show a.toNat = k by omega]
  exact kk H locs ls hw hS hl
theorem z_aaload (hC : zC p s m args c D tys ad ok A H0 cc nL own) {f i : Nat} {a : Int} {cA : ClassId} {n : Nat} {r : Nat → Nat} {Cn : String} (t0 : Nat) (k : Nat) (q : Nat) (ht : tm f i = .inr (.inr (cA, n, r))) (hty : tys[t0]? = some (cA, .object Cn)) (ho : ok f i) (hk : a = (k : Int)) (h1 : k < n) (hn : n < 2147483648) (hq : r k = q) (hdg : decode cc pc = .ok (.aaload, 1)) (kk : zV p l e R s m args below meth c Q D ad ok tm A H0 nL cells slots M L (pc + 1) (.ref q :: rest)) : zV p l e R s m args below meth c Q D ad ok tm A H0 nL cells slots M L (pc) (iv a :: .ref (ad f i) :: rest) := by
  intro H locs ls hw hS hl
  have hP := hw.one ho
  rw [ht] at hP
  refine va_aldq hC.1.1 hC.1.2.1 hC.2.1 hP 0 t0 rfl hty (zi_in (n := n) (by omega) (by omega)) hdg ?_
  rw [zi_nat (by omega), show a.toNat = k by omega, hq]
  exact kk H locs ls hw hS hl
theorem z_iastore (hC : zC p s m args c D tys ad ok A H0 cc nL own) {f i : Nat} {a x : Int} {cA : ClassId} {n : Nat} (t0 : Nat) (k : Nat) (ht : tm f i = .inr (.inl (cA, n))) (hty : tys[t0]? = some (cA, .int)) (ho : ok f i) (hk : a = (k : Int)) (h1 : k < n) (hn : n < 2147483648) (hdg : decode cc pc = .ok (.iastore, 1)) (kk : zV p l e R s m args below meth c Q D ad ok tm A H0 nL cells slots (zup M f i k x) L (pc + 1) (rest)) : zV p l e R s m args below meth c Q D ad ok tm A H0 nL cells slots M L (pc) (iv x :: iv a :: .ref (ad f i) :: rest) := by
  intro H locs ls hw hS hl
  subst hk
  have hw0 := hw f i ho
  rw [ht] at hw0
  have hin := zi_in (a := (k : Int)) (n := n) (by omega) (by omega)
  refine W.iast hC.1.1 hC.1.2.1 hw0 ((hC.2.1.2 t0 _ hty).1 n (fun j => .int (Int32.ofInt (M f i j)))) (fun q => by cases q) (by show ¬ (Int32.ofInt (k : Int) < 0 ∨ (arrV _ _ _).slots.size ≤ _); rw [arrV_size]; exact hin) rfl rfl hdg fun H1 e z oq => ?_
  refine kk H1 _ ls (hw.put hC.2.2.1 ho ?_ oq (fun f' i' h => zup_off h)) (hS.put z oq (hC.2.2.2.1 f i ho)) hl
  rw [ht]
  show H1[ad f i]? = some (vp_cell _ _)
  rw [e]
  rw [vp_cell_i, vp_cell_i, arrV_store]
  congr 2
  funext q
  rw [zi_nat (by omega), Int.toNat_natCast]
  by_cases hq : q = k
  · subst hq
    simp [updV, zup]
  · simp [updV, zup, hq]
theorem z_alen (hC : zC p s m args c D tys ad ok A H0 cc nL own) {f i : Nat} {cA : ClassId} {n : Nat} (t0 : Nat) (ht : tm f i = .inr (.inl (cA, n))) (hty : tys[t0]? = some (cA, .int)) (ho : ok f i) (hdg : decode cc pc = .ok (.arraylength, 1)) (kk : zV p l e R s m args below meth c Q D ad ok tm A H0 nL cells slots M L (pc + 1) (iv (n : Int) :: rest)) : zV p l e R s m args below meth c Q D ad ok tm A H0 nL cells slots M L (pc) (.ref (ad f i) :: rest) := by
  intro H locs ls hw hS hl
  have hP := hw.one ho
  rw [ht] at hP
  exact va_alen hC.1.1 hC.1.2.1 hC.2.1 hP 0 t0 rfl hty (v := Int32.ofInt n) Int32.ofInt_eq_ofNat.symm hdg (kk H locs ls hw hS hl)
end ZR
end
section
/-! contracts over the layer, calls, ends -/
abbrev zws (y : MethodName) (bytes : ByteArray) (maxL : Nat) (ret : Option FieldType) : List Cond := .code y bytes maxL ret :: zbig
abbrev zrm (d mc ms : Nat) : Room := { frames := d, cells := mc, slots := ms, locals := 40 * d }
abbrev zPre (D : va_G) (tys : List (ClassId × FieldType)) (ad : Nat → Nat → Nat) (ok : Nat → Nat → Prop) (tm : Nat → Nat → zT) (av : List Value) (M : zM) (sz : Nat) : Array Value → State → Prop := va_Pc av (fun U => U.heap.size = sz ∧ zH D ad ok tm M U.heap ∧ va_K D vwCl tys U ∧ ∀ w ∈ znl, va_Nw w U)
abbrev zQi (D : va_G) (ad : Nat → Nat → Nat) (ok : Nat → Nat → Prop) (tm : Nat → Nat → zT) (r : Int) (M' : zM) (A : Nat → Prop) : Array Value → State → Outcome → State → Prop := va_Qi (fun (x : Int32) (_ : Unit) => x = Int32.ofInt r) (fun _ t => zH D ad ok tm M' t.heap) A
abbrev zQl (D : va_G) (ad : Nat → Nat → Nat) (ok : Nat → Nat → Prop) (tm : Nat → Nat → zT) (r : Int64) (M' : zM) (A : Nat → Prop) : Array Value → State → Outcome → State → Prop := va_Ql (fun (x : Int64) (_ : Unit) => x = r) (fun _ t => zH D ad ok tm M' t.heap) A
abbrev zQd (D : va_G) (ad : Nat → Nat → Nat) (ok : Nat → Nat → Prop) (tm : Nat → Nat → zT) (r : UInt64) (M' : zM) (A : Nat → Prop) : Array Value → State → Outcome → State → Prop := va_Qd (fun (x : UInt64) (_ : Unit) => x = r) (fun _ t => zH D ad ok tm M' t.heap) A
abbrev zQv (D : va_G) (ad : Nat → Nat → Nat) (ok : Nat → Nat → Prop) (tm : Nat → Nat → zT) (M' : zM) (A : Nat → Prop) : Array Value → State → Outcome → State → Prop := va_Qv (fun (_ : Unit) => True) (fun _ t => zH D ad ok tm M' t.heap) A
/-- from the memory M the method answers r and leaves M' -/
def zMi (l : Launch) (y : MethodName) (bytes : ByteArray) (maxL : Nat) (ret : Option FieldType) (d : Nat) (D : va_G) (tys : List (ClassId × FieldType)) (ad : Nat → Nat → Nat) (ok : Nat → Nat → Prop) (tm : Nat → Nat → zT) (av : List Value) (M : zM) (r : Int) (M' : zM) (mc ms : Nat) : Prop :=
  ∀ sz : Nat, Met l y (zws y bytes maxL ret) (zrm d mc ms) (zPre D tys ad ok tm av M sz) (zQi D ad ok tm r M' (zA ad ok sz)) mc ms (zA ad ok sz)
def zMl (l : Launch) (y : MethodName) (bytes : ByteArray) (maxL : Nat) (ret : Option FieldType) (d : Nat) (D : va_G) (tys : List (ClassId × FieldType)) (ad : Nat → Nat → Nat) (ok : Nat → Nat → Prop) (tm : Nat → Nat → zT) (av : List Value) (M : zM) (r : Int64) (M' : zM) (mc ms : Nat) : Prop :=
  ∀ sz : Nat, Met l y (zws y bytes maxL ret) (zrm d mc ms) (zPre D tys ad ok tm av M sz) (zQl D ad ok tm r M' (zA ad ok sz)) mc ms (zA ad ok sz)
def zMd (l : Launch) (y : MethodName) (bytes : ByteArray) (maxL : Nat) (ret : Option FieldType) (d : Nat) (D : va_G) (tys : List (ClassId × FieldType)) (ad : Nat → Nat → Nat) (ok : Nat → Nat → Prop) (tm : Nat → Nat → zT) (av : List Value) (M : zM) (r : UInt64) (M' : zM) (mc ms : Nat) : Prop :=
  ∀ sz : Nat, Met l y (zws y bytes maxL ret) (zrm d mc ms) (zPre D tys ad ok tm av M sz) (zQd D ad ok tm r M' (zA ad ok sz)) mc ms (zA ad ok sz)
def zMv (l : Launch) (y : MethodName) (bytes : ByteArray) (maxL : Nat) (ret : Option FieldType) (d : Nat) (D : va_G) (tys : List (ClassId × FieldType)) (ad : Nat → Nat → Nat) (ok : Nat → Nat → Prop) (tm : Nat → Nat → zT) (av : List Value) (M : zM) (M' : zM) (mc ms : Nat) : Prop :=
  ∀ sz : Nat, Met l y (zws y bytes maxL ret) (zrm d mc ms) (zPre D tys ad ok tm av M sz) (zQv D ad ok tm M' (zA ad ok sz)) mc ms (zA ad ok sz)
theorem zPre_blind {D : va_G} {tys : List (ClassId × FieldType)} {ad : Nat → Nat → Nat} {ok : Nat → Nat → Prop} {tm : Nat → Nat → zT} {av : List Value} {M : zM} {sz : Nat} : FrameBlind (zPre D tys ad ok tm av M sz) := fun a U g mk q => by
  obtain ⟨q0, q1, qP, qK, qN⟩ := q
  exact ⟨q0, q1, qP, va_K.moved (u := U) (U := U.calling g mk a) (Vm.Alike.refl U.vm) qK, znl_same (u := U) (U := U.calling g mk a) rfl qN⟩
section ZMET
variable {l : Launch} {y : MethodName} {bytes : ByteArray} {maxL : Nat} {ret : Option FieldType} {d : Nat} {D : va_G} {tys : List (ClassId × FieldType)} {ad : Nat → Nat → Nat} {ok : Nat → Nat → Prop} {tm : Nat → Nat → zT} {av : List Value} {M : zM} {M' : zM} {mc ms : Nat}
theorem z_met {Qc : Nat → Array Value → State → Outcome → State → Prop} (hI : zI ad ok) (hy : plainName y.cls = true) (hav : (lg_sl av).length ≤ maxL)
    (body : ∀ (p : Program) (e : Env) (s : State) (m : MethodId) (args : Array Value) (below : List Frame) (meth : Method) (c : Code), zC p s m args c D tys ad ok (zA ad ok s.heap.size) s.heap bytes maxL y.cls → meth.sig.returnType = ret → meth.locks = false →
      zV p l e (zrm d mc ms) s m args below meth c (MQ below (Qc s.heap.size) args s mc ms (zA ad ok s.heap.size)) D ad ok tm (zA ad ok s.heap.size) s.heap maxL 0 0 M (lv_args 0 av) 0 []) (sz : Nat) : Met l y (zws y bytes maxL ret) (zrm d mc ms) (zPre D tys ad ok tm av M sz) (Qc sz) mc ms (zA ad ok sz) := by
  refine Met.ofW (cc := bytes) (maxL := maxL) (ret := ret) hy rfl ?_
  intro p e s m args below meth c s₁ B hml hv
  obtain ⟨rfl, hsz, hP, hK, hN⟩ := hv
  subst hsz
  have hts := atoms_spec (ws := zws y bytes maxL ret) B.pre
  have hown : s.vm.findClass y.cls = some m.cls := findClass_of_methodNamed B.named
  rw [lg_entry_eq]
  refine body p e s m av.toArray below meth c ⟨⟨B.exec, B.bytes, hml, hown, fun x h => hts x (List.mem_cons_of_mem _ h)⟩, hK, hI, fun f i h => Or.inl ⟨f, i, h, rfl⟩, fun q h => Or.inr h, hN⟩ B.returns B.notSynchronized s.heap [] _ hP va_S.rf (lv_entry av hav)
end ZMET
section ZCALL
variable {p : Program} {l : Launch} {e : Env} {R : Room} {s : State} {m : MethodId} {args : Array Value} {below : List Frame} {meth : Method} {c : Code} {Q : State → Prop} {D : va_G} {tys : List (ClassId × FieldType)} {ad : Nat → Nat → Nat} {ok : Nat → Nat → Prop} {tm : Nat → Nat → zT} {A : Nat → Prop} {H0 : Heap} {nL : Nat} {cells slots : Nat} {M M' : zM} {L : List (Nat × Value)} {pc : Nat} {St rest : List Value} {cc : ByteArray} {own : String}
variable {y : MethodName} {bytes : ByteArray} {maxL index n d mc ms : Nat} {ret : Option FieldType} {As : List Value}
theorem z_callB (hC : zC p s m args c D tys ad ok A H0 cc nL own) (h : ∀ w ∈ ([.methodLink own index y, .initialized y.cls, .code y bytes maxL ret] : List Cond), w ∈ zbig) (hd : y.cls ≠ "java/lang/invoke/MethodHandle" ∧ y.cls ≠ "java/lang/invoke/VarHandle" ∧ (parseMethodDescriptor y.desc).map (fun d => d.parameters.length) = some n) (hR : d + 1 ≤ R.frames ∧ 8 + (maxL + 11) + 40 * d ≤ R.locals) : CallB R s args own index y bytes maxL ret (zws y bytes maxL ret) (zrm d mc ms) mc ms n := by
  have hts := hC.1.2.2.2.2
  refine callB_of n hts (zbig_good ?_) rfl rfl rfl (hts _ (h _ (by simp))) (hts _ (h _ (by simp))) hd hR
  intro w hw
  rcases List.mem_cons.mp hw with rfl | hw
  · exact h _ (by simp)
  · exact hw
theorem z_free (hC : zC p s m args c D tys ad ok A H0 cc nL own) {H : Heap} {locs : List Loc} (hS : va_S A H0 H locs) : ∀ q, zA ad ok H.size q → A q := by
  intro q h
  rcases h with ⟨f, i, h, rfl⟩ | h
  · exact hC.2.2.2.1 f i h
  · exact hC.2.2.2.2.1 q (Nat.le_trans hS.1 h)
theorem z_recv (hC : zC p s m args c D tys ad ok A H0 cc nL own) {H : Heap} (hw : zH D ad ok tm M H) {f0 i0 ci : Nat} {lt : List (Option Value)} {Cn : String} {T : u_T} {N : Nat} (ht : tm f0 i0 = .inl (ci, lt)) (hci : vwCl[ci]? = some (Cn, T, N)) (ho : ok f0 i0) : ∃ cell : Cell, H[ad f0 i0]? = some cell ∧ cell.vm.isStatics = false ∧ s.vm.findClass Cn = some cell.cls := by
  have hP := hw.one ho
  rw [ht] at hP
  exact va_recv (q0 := 0) hC.2.1 hP hci rfl
theorem z_runV (hC : zC p s m args c D tys ad ok A H0 cc nL own) (hL : zLV own index y bytes maxL ret n) {f0 i0 ci : Nat} {lt : List (Option Value)} {T : u_T} {N : Nat} {Qc : Array Value → State → Outcome → State → Prop} {H : Heap} {locs : List Loc} {ls : Array Slot} (hM : Met l y (zws y bytes maxL ret) (zrm d mc ms) (zPre D tys ad ok tm (.ref (ad f0 i0) :: As) M H.size) Qc mc ms (zA ad ok H.size)) (ht : tm f0 i0 = .inl (ci, lt)) (hci : vwCl[ci]? = some (y.cls, T, N)) (ho : ok f0 i0) (hn : As.length = n) (hW : (rest.map fun v => v.category).sum ≤ 8) (hR : d + 1 ≤ R.frames ∧ 8 + (maxL + 11) + 40 * d ≤ R.locals) (hf : cells + mc ≤ R.cells ∧ slots + ms ≤ R.slots) (hdg : decode cc pc = .ok (.invokevirtual index, 3)) (hw : zH D ad ok tm M H) (hl : ls.size = nL) :
    va_Run p l e R s m args below meth c H locs cells slots mc ms (F0 m pc ls (As.reverse ++ .ref (ad f0 i0) :: rest)) rest (Qc (Value.ref (ad f0 i0) :: As).toArray) (zA ad ok H.size) := by
  have hts := hC.1.2.2.2.2
  have cw : CallW R s args own y.cls index y bytes maxL ret (zws y bytes maxL ret) (zrm d mc ms) mc ms n := ⟨z_callB hC (fun w h => hL.1 w (by simp only [List.mem_cons, List.not_mem_nil, or_false] at h ⊢; rcases h with h | h | h <;> simp [h])) hL.2 hR, hts _ (hL.1 _ (by simp)), hts _ (hL.1 _ (by simp))⟩
  exact va_runV (As := As) (rest := rest) hC.1 hM cw ⟨zPre_blind, z_recv hC hw ht hci ho, fun U hU hW2 => ⟨rfl, by rw [hU], by rw [hU]; exact hw, va_K.moved hW2.alike hC.2.1, znl_moved hW2 hC.2.2.2.2.2⟩⟩ rfl hn hl rfl (lv_room hW) hdg hf
theorem z_runS (hC : zC p s m args c D tys ad ok A H0 cc nL own) (hL : zLS own index y bytes maxL ret n) {Qc : Array Value → State → Outcome → State → Prop} {H : Heap} {locs : List Loc} {ls : Array Slot} (hM : Met l y (zws y bytes maxL ret) (zrm d mc ms) (zPre D tys ad ok tm As M H.size) Qc mc ms (zA ad ok H.size)) (hn : As.length = n) (hW : (rest.map fun v => v.category).sum ≤ 8) (hR : d + 1 ≤ R.frames ∧ 8 + (maxL + 11) + 40 * d ≤ R.locals) (hf : cells + mc ≤ R.cells ∧ slots + ms ≤ R.slots) (hdg : decode cc pc = .ok (.invokestatic index, 3)) (hw : zH D ad ok tm M H) (hl : ls.size = nL) :
    va_Run p l e R s m args below meth c H locs cells slots mc ms (F0 m pc ls (As.reverse ++ rest)) rest (Qc As.toArray) (zA ad ok H.size) := by
  have hts := hC.1.2.2.2.2
  have cw : CallB R s args own index y bytes maxL ret (zws y bytes maxL ret) (zrm d mc ms) mc ms n ∧ (Cond.static y).before args s = true := ⟨z_callB hC (fun w h => hL.1 w (by simp only [List.mem_cons, List.not_mem_nil, or_false] at h ⊢; rcases h with h | h | h <;> simp [h])) hL.2 hR, hts _ (hL.1 _ (by simp))⟩
  exact va_runS (As := As) (rest := rest) hC.1 hM cw ⟨zPre_blind, fun U hU hW2 => ⟨rfl, by rw [hU], by rw [hU]; exact hw, va_K.moved hW2.alike hC.2.1, znl_moved hW2 hC.2.2.2.2.2⟩⟩ rfl hn hl rfl (lv_room hW) hdg hf
theorem z_gw (h : Cond.code y bytes maxL ret ∈ zbig) : GoodIn zbig (zws y bytes maxL ret) := zbig_good (fun w hw => (List.mem_cons.mp hw).elim (fun e => e ▸ h) id)
theorem z_runVN (hC : zC p s m args c D tys ad ok A H0 cc nL own) (hL : zLVN own index y bytes maxL ret n) {f0 i0 ci : Nat} {lt : List (Option Value)} {T : u_T} {N : Nat} {Qc : Array Value → State → Outcome → State → Prop} {H : Heap} {locs : List Loc} {ls : Array Slot} (hM : Met l y (zws y bytes maxL ret) (zrm d mc ms) (zPre D tys ad ok tm (.ref (ad f0 i0) :: As) M H.size) Qc mc ms (zA ad ok H.size)) (ht : tm f0 i0 = .inl (ci, lt)) (hci : vwCl[ci]? = some (y.cls, T, N)) (ho : ok f0 i0) (hn : As.length = n) (hW : (rest.map fun v => v.category).sum ≤ 8) (hR : d + 1 ≤ R.frames ∧ 8 + (maxL + 11) + 40 * d ≤ R.locals) (hf : cells + mc ≤ R.cells ∧ slots + ms ≤ R.slots) (hdg : decode cc pc = .ok (.invokevirtual index, 3)) (hw : zH D ad ok tm M H) (hl : ls.size = nL) :
    va_Run p l e R s m args below meth c H locs cells slots mc ms (F0 m pc ls (As.reverse ++ .ref (ad f0 i0) :: rest)) rest (Qc (Value.ref (ad f0 i0) :: As).toArray) (zA ad ok H.size) := by
  have hts := hC.1.2.2.2.2
  have cw : va_CN R s args own index y hL.1.choose bytes maxL ret (zws y bytes maxL ret) (zrm d mc ms) mc ms n ∧ (Cond.instanceMethod y).before args s = true ∧ (Cond.selects y.cls y y).before args s = true := ⟨va_cnB n hts (z_gw (hL.2.1 _ (by simp))) rfl rfl rfl (hC.2.2.2.2.2 _ hL.1.choose_spec) (hts _ (hL.2.1 _ (by simp))) hL.2.2 hR, hts _ (hL.2.1 _ (by simp)), hts _ (hL.2.1 _ (by simp))⟩
  exact va_runVN (As := As) (rest := rest) hC.1 hM cw ⟨zPre_blind, z_recv hC hw ht hci ho, fun U hU hW2 => ⟨rfl, by rw [hU], by rw [hU]; exact hw, va_K.moved hW2.alike hC.2.1, znl_moved hW2 hC.2.2.2.2.2⟩⟩ rfl hn hl rfl (lv_room hW) hdg hf
theorem z_runSN (hC : zC p s m args c D tys ad ok A H0 cc nL own) (hL : zLSN own index y bytes maxL ret n) {Qc : Array Value → State → Outcome → State → Prop} {H : Heap} {locs : List Loc} {ls : Array Slot} (hM : Met l y (zws y bytes maxL ret) (zrm d mc ms) (zPre D tys ad ok tm As M H.size) Qc mc ms (zA ad ok H.size)) (hn : As.length = n) (hW : (rest.map fun v => v.category).sum ≤ 8) (hR : d + 1 ≤ R.frames ∧ 8 + (maxL + 11) + 40 * d ≤ R.locals) (hf : cells + mc ≤ R.cells ∧ slots + ms ≤ R.slots) (hdg : decode cc pc = .ok (.invokestatic index, 3)) (hw : zH D ad ok tm M H) (hl : ls.size = nL) :
    va_Run p l e R s m args below meth c H locs cells slots mc ms (F0 m pc ls (As.reverse ++ rest)) rest (Qc As.toArray) (zA ad ok H.size) := by
  have hts := hC.1.2.2.2.2
  have cw : va_CN R s args own index y hL.1.choose bytes maxL ret (zws y bytes maxL ret) (zrm d mc ms) mc ms n ∧ (Cond.static y).before args s = true ∧ True := ⟨va_cnB n hts (z_gw (hL.2.1 _ (by simp))) rfl rfl rfl (hC.2.2.2.2.2 _ hL.1.choose_spec) (hts _ (hL.2.1 _ (by simp))) hL.2.2 hR, hts _ (hL.2.1 _ (by simp)), trivial⟩
  exact va_runSN (As := As) (rest := rest) hC.1 hM cw ⟨zPre_blind, fun U hU hW2 => ⟨rfl, by rw [hU], by rw [hU]; exact hw, va_K.moved hW2.alike hC.2.1, znl_moved hW2 hC.2.2.2.2.2⟩⟩ rfl hn hl rfl (lv_room hW) hdg hf
theorem z_callVi (hC : zC p s m args c D tys ad ok A H0 cc nL own) (hL : zLV own index y bytes maxL ret n) {f0 i0 ci : Nat} {lt : List (Option Value)} {T : u_T} {N : Nat} {r : Int} (hM : zMi l y bytes maxL ret d D tys ad ok tm (.ref (ad f0 i0) :: As) M r M' mc ms) (ht : tm f0 i0 = .inl (ci, lt)) (hci : vwCl[ci]? = some (y.cls, T, N)) (ho : ok f0 i0) (hst : St = As.reverse ++ .ref (ad f0 i0) :: rest) (hn : As.length = n) (hW : (rest.map fun v => v.category).sum ≤ 8) (hR : d + 1 ≤ R.frames ∧ 8 + (maxL + 11) + 40 * d ≤ R.locals) (hf : cells + mc ≤ R.cells ∧ slots + ms ≤ R.slots) (hdg : decode cc pc = .ok (.invokevirtual index, 3)) (kk : zV p l e R s m args below meth c Q D ad ok tm A H0 nL (cells + mc) (slots + ms) M' L (pc + 3) (iv r :: rest)) : zV p l e R s m args below meth c Q D ad ok tm A H0 nL cells slots M L pc St := by
  intro H locs ls hw hS hl
  subst hst
  refine va_calli (z_runV hC hL (hM H.size) ht hci ho hn hW hR hf hdg hw hl.1) hS (fun q _ h => z_free hC hS q h) (z_free hC hS) (fun r2 u t H1 locs1 ht1 hvm hr hB hz1 hk1 hS1 => ?_)
  subst hr
  rw [ht1] at hB
  exact kk H1 locs1 ls hB hS1 hl
theorem z_callViN (hC : zC p s m args c D tys ad ok A H0 cc nL own) (hL : zLVN own index y bytes maxL ret n) {f0 i0 ci : Nat} {lt : List (Option Value)} {T : u_T} {N : Nat} {r : Int} (hM : zMi l y bytes maxL ret d D tys ad ok tm (.ref (ad f0 i0) :: As) M r M' mc ms) (ht : tm f0 i0 = .inl (ci, lt)) (hci : vwCl[ci]? = some (y.cls, T, N)) (ho : ok f0 i0) (hst : St = As.reverse ++ .ref (ad f0 i0) :: rest) (hn : As.length = n) (hW : (rest.map fun v => v.category).sum ≤ 8) (hR : d + 1 ≤ R.frames ∧ 8 + (maxL + 11) + 40 * d ≤ R.locals) (hf : cells + mc ≤ R.cells ∧ slots + ms ≤ R.slots) (hdg : decode cc pc = .ok (.invokevirtual index, 3)) (kk : zV p l e R s m args below meth c Q D ad ok tm A H0 nL (cells + mc) (slots + ms) M' L (pc + 3) (iv r :: rest)) : zV p l e R s m args below meth c Q D ad ok tm A H0 nL cells slots M L pc St := by
  intro H locs ls hw hS hl
  subst hst
  refine va_calli (z_runVN hC hL (hM H.size) ht hci ho hn hW hR hf hdg hw hl.1) hS (fun q _ h => z_free hC hS q h) (z_free hC hS) (fun r2 u t H1 locs1 ht1 hvm hr hB hz1 hk1 hS1 => ?_)
  subst hr
  rw [ht1] at hB
  exact kk H1 locs1 ls hB hS1 hl
theorem z_callVl (hC : zC p s m args c D tys ad ok A H0 cc nL own) (hL : zLV own index y bytes maxL ret n) {f0 i0 ci : Nat} {lt : List (Option Value)} {T : u_T} {N : Nat} {r : Int64} (hM : zMl l y bytes maxL ret d D tys ad ok tm (.ref (ad f0 i0) :: As) M r M' mc ms) (ht : tm f0 i0 = .inl (ci, lt)) (hci : vwCl[ci]? = some (y.cls, T, N)) (ho : ok f0 i0) (hst : St = As.reverse ++ .ref (ad f0 i0) :: rest) (hn : As.length = n) (hW : (rest.map fun v => v.category).sum ≤ 8) (hR : d + 1 ≤ R.frames ∧ 8 + (maxL + 11) + 40 * d ≤ R.locals) (hf : cells + mc ≤ R.cells ∧ slots + ms ≤ R.slots) (hdg : decode cc pc = .ok (.invokevirtual index, 3)) (kk : zV p l e R s m args below meth c Q D ad ok tm A H0 nL (cells + mc) (slots + ms) M' L (pc + 3) (.long r :: rest)) : zV p l e R s m args below meth c Q D ad ok tm A H0 nL cells slots M L pc St := by
  intro H locs ls hw hS hl
  subst hst
  refine va_calll (z_runV hC hL (hM H.size) ht hci ho hn hW hR hf hdg hw hl.1) hS (fun q _ h => z_free hC hS q h) (z_free hC hS) (fun r2 u t H1 locs1 ht1 hvm hr hB hz1 hk1 hS1 => ?_)
  subst hr
  rw [ht1] at hB
  exact kk H1 locs1 ls hB hS1 hl
theorem z_callVlN (hC : zC p s m args c D tys ad ok A H0 cc nL own) (hL : zLVN own index y bytes maxL ret n) {f0 i0 ci : Nat} {lt : List (Option Value)} {T : u_T} {N : Nat} {r : Int64} (hM : zMl l y bytes maxL ret d D tys ad ok tm (.ref (ad f0 i0) :: As) M r M' mc ms) (ht : tm f0 i0 = .inl (ci, lt)) (hci : vwCl[ci]? = some (y.cls, T, N)) (ho : ok f0 i0) (hst : St = As.reverse ++ .ref (ad f0 i0) :: rest) (hn : As.length = n) (hW : (rest.map fun v => v.category).sum ≤ 8) (hR : d + 1 ≤ R.frames ∧ 8 + (maxL + 11) + 40 * d ≤ R.locals) (hf : cells + mc ≤ R.cells ∧ slots + ms ≤ R.slots) (hdg : decode cc pc = .ok (.invokevirtual index, 3)) (kk : zV p l e R s m args below meth c Q D ad ok tm A H0 nL (cells + mc) (slots + ms) M' L (pc + 3) (.long r :: rest)) : zV p l e R s m args below meth c Q D ad ok tm A H0 nL cells slots M L pc St := by
  intro H locs ls hw hS hl
  subst hst
  refine va_calll (z_runVN hC hL (hM H.size) ht hci ho hn hW hR hf hdg hw hl.1) hS (fun q _ h => z_free hC hS q h) (z_free hC hS) (fun r2 u t H1 locs1 ht1 hvm hr hB hz1 hk1 hS1 => ?_)
  subst hr
  rw [ht1] at hB
  exact kk H1 locs1 ls hB hS1 hl
theorem z_callVv (hC : zC p s m args c D tys ad ok A H0 cc nL own) (hL : zLV own index y bytes maxL ret n) {f0 i0 ci : Nat} {lt : List (Option Value)} {T : u_T} {N : Nat} (hM : zMv l y bytes maxL ret d D tys ad ok tm (.ref (ad f0 i0) :: As) M M' mc ms) (ht : tm f0 i0 = .inl (ci, lt)) (hci : vwCl[ci]? = some (y.cls, T, N)) (ho : ok f0 i0) (hst : St = As.reverse ++ .ref (ad f0 i0) :: rest) (hn : As.length = n) (hW : (rest.map fun v => v.category).sum ≤ 8) (hR : d + 1 ≤ R.frames ∧ 8 + (maxL + 11) + 40 * d ≤ R.locals) (hf : cells + mc ≤ R.cells ∧ slots + ms ≤ R.slots) (hdg : decode cc pc = .ok (.invokevirtual index, 3)) (kk : zV p l e R s m args below meth c Q D ad ok tm A H0 nL (cells + mc) (slots + ms) M' L (pc + 3) rest) : zV p l e R s m args below meth c Q D ad ok tm A H0 nL cells slots M L pc St := by
  intro H locs ls hw hS hl
  subst hst
  refine va_callv (z_runV hC hL (hM H.size) ht hci ho hn hW hR hf hdg hw hl.1) hS (fun q _ h => z_free hC hS q h) (z_free hC hS) (fun u t H1 locs1 ht1 hvm hr hB hz1 hk1 hS1 => ?_)
  rw [ht1] at hB
  exact kk H1 locs1 ls hB hS1 hl
theorem z_callVvN (hC : zC p s m args c D tys ad ok A H0 cc nL own) (hL : zLVN own index y bytes maxL ret n) {f0 i0 ci : Nat} {lt : List (Option Value)} {T : u_T} {N : Nat} (hM : zMv l y bytes maxL ret d D tys ad ok tm (.ref (ad f0 i0) :: As) M M' mc ms) (ht : tm f0 i0 = .inl (ci, lt)) (hci : vwCl[ci]? = some (y.cls, T, N)) (ho : ok f0 i0) (hst : St = As.reverse ++ .ref (ad f0 i0) :: rest) (hn : As.length = n) (hW : (rest.map fun v => v.category).sum ≤ 8) (hR : d + 1 ≤ R.frames ∧ 8 + (maxL + 11) + 40 * d ≤ R.locals) (hf : cells + mc ≤ R.cells ∧ slots + ms ≤ R.slots) (hdg : decode cc pc = .ok (.invokevirtual index, 3)) (kk : zV p l e R s m args below meth c Q D ad ok tm A H0 nL (cells + mc) (slots + ms) M' L (pc + 3) rest) : zV p l e R s m args below meth c Q D ad ok tm A H0 nL cells slots M L pc St := by
  intro H locs ls hw hS hl
  subst hst
  refine va_callv (z_runVN hC hL (hM H.size) ht hci ho hn hW hR hf hdg hw hl.1) hS (fun q _ h => z_free hC hS q h) (z_free hC hS) (fun u t H1 locs1 ht1 hvm hr hB hz1 hk1 hS1 => ?_)
  rw [ht1] at hB
  exact kk H1 locs1 ls hB hS1 hl
theorem z_callSi (hC : zC p s m args c D tys ad ok A H0 cc nL own) (hL : zLS own index y bytes maxL ret n) {r : Int} (hM : zMi l y bytes maxL ret d D tys ad ok tm As M r M' mc ms) (hst : St = As.reverse ++ rest) (hn : As.length = n) (hW : (rest.map fun v => v.category).sum ≤ 8) (hR : d + 1 ≤ R.frames ∧ 8 + (maxL + 11) + 40 * d ≤ R.locals) (hf : cells + mc ≤ R.cells ∧ slots + ms ≤ R.slots) (hdg : decode cc pc = .ok (.invokestatic index, 3)) (kk : zV p l e R s m args below meth c Q D ad ok tm A H0 nL (cells + mc) (slots + ms) M' L (pc + 3) (iv r :: rest)) : zV p l e R s m args below meth c Q D ad ok tm A H0 nL cells slots M L pc St := by
  intro H locs ls hw hS hl
  subst hst
  refine va_calli (z_runS hC hL (hM H.size) hn hW hR hf hdg hw hl.1) hS (fun q _ h => z_free hC hS q h) (z_free hC hS) (fun r2 u t H1 locs1 ht1 hvm hr hB hz1 hk1 hS1 => ?_)
  subst hr
  rw [ht1] at hB
  exact kk H1 locs1 ls hB hS1 hl
theorem z_callSiN (hC : zC p s m args c D tys ad ok A H0 cc nL own) (hL : zLSN own index y bytes maxL ret n) {r : Int} (hM : zMi l y bytes maxL ret d D tys ad ok tm As M r M' mc ms) (hst : St = As.reverse ++ rest) (hn : As.length = n) (hW : (rest.map fun v => v.category).sum ≤ 8) (hR : d + 1 ≤ R.frames ∧ 8 + (maxL + 11) + 40 * d ≤ R.locals) (hf : cells + mc ≤ R.cells ∧ slots + ms ≤ R.slots) (hdg : decode cc pc = .ok (.invokestatic index, 3)) (kk : zV p l e R s m args below meth c Q D ad ok tm A H0 nL (cells + mc) (slots + ms) M' L (pc + 3) (iv r :: rest)) : zV p l e R s m args below meth c Q D ad ok tm A H0 nL cells slots M L pc St := by
  intro H locs ls hw hS hl
  subst hst
  refine va_calli (z_runSN hC hL (hM H.size) hn hW hR hf hdg hw hl.1) hS (fun q _ h => z_free hC hS q h) (z_free hC hS) (fun r2 u t H1 locs1 ht1 hvm hr hB hz1 hk1 hS1 => ?_)
  subst hr
  rw [ht1] at hB
  exact kk H1 locs1 ls hB hS1 hl
/-! ends -/
theorem z_iret (hC : zC p s m args c D tys ad ok A s.heap cc nL own) {r r' : Int} {ty : FieldType} (hr : meth.sig.returnType = some ty) (hlocks : meth.locks = false) (hn : narrow ty (iv r') = iv r') (hrr : r' = r) (hMM : M = M') (hdg : decode cc pc = .ok (.ireturn, 1)) : zV p l e R s m args below meth c (MQ below (zQi D ad ok tm r M' A) args s cells slots A) D ad ok tm A s.heap nL cells slots M L pc [iv r'] := by
  intro H locs ls hw hS hl
  subst hrr; subst hMM
  exact W.zret hC.1.1 hC.1.2.1 hr hn (fun t ht hW => ⟨⟨_, (), rfl, rfl, by show zH D ad ok tm M t.heap; rw [ht]; exact hw⟩, hS.F ht⟩) hS.2.2 hdg hlocks
theorem z_lret (hC : zC p s m args c D tys ad ok A s.heap cc nL own) {r r' : Int64} (hr : meth.sig.returnType = some .long) (hlocks : meth.locks = false) (hrr : r' = r) (hMM : M = M') (hdg : decode cc pc = .ok (.lreturn, 1)) : zV p l e R s m args below meth c (MQ below (zQl D ad ok tm r M' A) args s cells slots A) D ad ok tm A s.heap nL cells slots M L pc [.long r'] := by
  intro H locs ls hw hS hl
  subst hrr; subst hMM
  exact W.lret hC.1.1 hC.1.2.1 hr (fun t ht hW => ⟨⟨_, (), rfl, rfl, by show zH D ad ok tm M t.heap; rw [ht]; exact hw⟩, hS.F ht⟩) hS.2.2 hdg hlocks
theorem z_dret (hC : zC p s m args c D tys ad ok A s.heap cc nL own) {r r' : UInt64} (hr : meth.sig.returnType = some .double) (hlocks : meth.locks = false) (hrr : r' = r) (hMM : M = M') (hdg : decode cc pc = .ok (.dreturn, 1)) : zV p l e R s m args below meth c (MQ below (zQd D ad ok tm r M' A) args s cells slots A) D ad ok tm A s.heap nL cells slots M L pc [.double r'] := by
  intro H locs ls hw hS hl
  subst hrr; subst hMM
  exact W.dret hC.1.1 hC.1.2.1 hr (fun t ht hW => ⟨⟨_, (), rfl, rfl, by show zH D ad ok tm M t.heap; rw [ht]; exact hw⟩, hS.F ht⟩) hS.2.2 hdg hlocks
theorem z_vret (hC : zC p s m args c D tys ad ok A s.heap cc nL own) (hr : meth.sig.returnType = none) (hlocks : meth.locks = false) (hMM : M = M') (hdg : decode cc pc = .ok (.return_, 1)) : zV p l e R s m args below meth c (MQ below (zQv D ad ok tm M' A) args s cells slots A) D ad ok tm A s.heap nL cells slots M L pc [] := by
  intro H locs ls hw hS hl
  subst hMM
  exact W.vret hC.1.1 hC.1.2.1 hr (fun t ht hW => ⟨⟨(), rfl, trivial, by show zH D ad ok tm M t.heap; rw [ht]; exact hw⟩, hS.F ht⟩) hS.2.2 hdg hlocks
end ZCALL
end
