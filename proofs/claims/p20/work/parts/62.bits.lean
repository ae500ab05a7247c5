/-! a set of riders, bit by bit -/
theorem shr_bv (x : Int32) {r : Nat} (hr : r < 12) : (x >>> (Int32.ofInt (r : Int) &&& 31)).toBitVec = x.toBitVec.sshiftRight r := by
  have h : ∀ r : Nat, r < 12 → ((Int32.ofInt (r : Int) &&& 31).toBitVec.smod 32).toNat = r := by decide +kernel
  rw [Int32.toBitVec_shiftRight]
  show x.toBitVec.sshiftRight ((Int32.ofInt (r : Int) &&& 31).toBitVec.smod 32).toNat = _
  rw [h r hr]
theorem bit_no {x : Int32} {r : Nat} (hr : r < 12) (h : x.toBitVec.getLsbD r = false) : (x >>> (Int32.ofInt (r : Int) &&& 31)) &&& Int32.ofInt 1 = Int32.ofInt 0 := by
  refine Int32.toBitVec.inj ?_
  rw [Int32.toBitVec_and, shr_bv x hr]
  show x.toBitVec.sshiftRight r &&& 1#32 = 0#32
  refine BitVec.eq_of_getLsbD_eq (fun i hi => ?_)
  rw [BitVec.getLsbD_and, BitVec.getLsbD_sshiftRight, BitVec.getLsbD_one, BitVec.getLsbD_zero]
  by_cases e : i = 0
  · subst e
    rw [if_pos (by omega), Nat.add_zero, h]
    simp
  · simp [e]
theorem bit_or {x : Int32} {r y : Nat} (hr : r < 12) (hy : y < 12) : (x ||| (Int32.ofInt 1 <<< (Int32.ofInt (r : Int) &&& 31))).toBitVec.getLsbD y = (x.toBitVec.getLsbD y || decide (y = r)) := by
  have h2 : ∀ r : Nat, r < 12 → ∀ y : Nat, y < 12 → (Int32.ofInt 1 <<< (Int32.ofInt (r : Int) &&& 31)).toBitVec.getLsbD y = decide (y = r) := by decide +kernel
  rw [Int32.toBitVec_or, BitVec.getLsbD_or, h2 r hr y hy]
theorem bit_0 (y : Nat) : (Int32.ofInt 0).toBitVec.getLsbD y = false := by
  show (0#32).getLsbD y = false
  exact BitVec.getLsbD_zero
