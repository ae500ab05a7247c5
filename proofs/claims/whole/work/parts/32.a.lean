/-! the means; zNoNaN: a whole number over one that is not 0 is a number (proved at the end, over the rest of the library) -/
def zNoNaN : Prop := ∀ a b : Int32, ¬ b = 0 → vf_n64 (FP.ddiv (FP.i2d a) (FP.i2d b))
section ZDBL
variable {p : Program} {l : Launch} {e : Env} {R : Room} {s : State} {m : MethodId} {args : Array Value} {below : List Frame} {meth : Method} {c : Code} {Q : State → Prop} {D : va_G} {tys : List (ClassId × FieldType)} {ad : Nat → Nat → Nat} {ok : Nat → Nat → Prop} {tm : Nat → Nat → zT} {A : Nat → Prop} {H0 : Heap} {nL : Nat} {cells slots : Nat} {M : zM} {L : List (Nat × Value)} {pc : Nat} {rest : List Value} {cc : ByteArray} {own : String}
theorem z_dconst0 (hC : zC p s m args c D tys ad ok A H0 cc nL own) (hdg : decode cc pc = .ok (.dconst 0, 1)) (kk : zV p l e R s m args below meth c Q D ad ok tm A H0 nL cells slots M L (pc + 1) (.double FP.dconst0 :: rest)) : zV p l e R s m args below meth c Q D ad ok tm A H0 nL cells slots M L pc rest := fun H locs ls hw hS hl => lv_dconst0 hC.1.1 hC.1.2.1 hdg (kk H locs ls hw hS hl)
theorem z_i2d (hC : zC p s m args c D tys ad ok A H0 cc nL own) {x : Int32} (hdg : decode cc pc = .ok (.i2d, 1)) (kk : zV p l e R s m args below meth c Q D ad ok tm A H0 nL cells slots M L (pc + 1) (.double (FP.i2d x) :: rest)) : zV p l e R s m args below meth c Q D ad ok tm A H0 nL cells slots M L pc (.int x :: rest) := fun H locs ls hw hS hl => lv_i2d hC.1.1 hC.1.2.1 hdg (kk H locs ls hw hS hl)
theorem z_ddiv (hC : zC p s m args c D tys ad ok A H0 cc nL own) {x y : UInt64} (hdg : decode cc pc = .ok (.ddiv, 1)) (hne : vf_n64 (FP.ddiv x y)) (kk : zV p l e R s m args below meth c Q D ad ok tm A H0 nL cells slots M L (pc + 1) (.double (FP.ddiv x y) :: rest)) : zV p l e R s m args below meth c Q D ad ok tm A H0 nL cells slots M L pc (.double y :: .double x :: rest) := fun H locs ls hw hS hl => lv_ddiv hC.1.1 hC.1.2.1 hdg hne (kk H locs ls hw hS hl)
end ZDBL
def meanV (sm n : Int) : UInt64 := if n = 0 then FP.dconst0 else FP.ddiv (FP.i2d (Int32.ofInt sm)) (FP.i2d (Int32.ofInt n))
def meanS (M : zM) (n : Nat) : Int := zsum (fun j => if M 16 (12 * 0 + j) 0 = 2 then M 16 (12 * 0 + j) 5 else 0) n
def meanC (M : zM) : UInt64 := meanV (meanS M (M 1 0 6).toNat) (ridersC M 0 2)
def meanSM (M : zM) (n : Nat) : Int := zsum (fun j => if M 20 0 j = 2 then M 24 0 j else 0) n
def meanM (M : zM) : UInt64 := meanV (meanSM M (M 0 0 10).toNat) (manyM M 0 2)
