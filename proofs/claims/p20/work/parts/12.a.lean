/-! functions on the memory: what the leaf methods do -/
def zit {α : Type} (f : Nat → α → α) : Nat → α → α
  | 0, a => a
  | n + 1, a => f n (zit f n a)
theorem zit_fr {f : Nat → zM → zM} {g : Nat} (h : ∀ j M, f j M g = M g) (n : Nat) (M : zM) : zit f n M g = M g := by
  induction n with
  | zero => rfl
  | succ n ih => rw [zit, h, ih]
theorem zup_fr {M : zM} {f i k : Nat} {v : Int} {g : Nat} (h : g ≠ f) : zup M f i k v g = M g := by
  funext i' k'; simp [zup, h]
/-- how many j below n -/
def zcnt (P : Nat → Prop) [DecidablePred P] : Nat → Int
  | 0 => 0
  | n + 1 => zcnt P n + (if P n then 1 else 0)
theorem zcnt_le (P : Nat → Prop) [DecidablePred P] (n : Nat) : 0 ≤ zcnt P n ∧ zcnt P n ≤ n := by
  induction n with
  | zero => exact ⟨Int.le_refl _, Int.le_refl _⟩
  | succ n ih => simp only [zcnt]; split <;> omega
def rideC (len drop w : Int) : Int := if drop + w / 10 ≤ 0 then 0 else if w * drop < 10 * len then 2 * ((2 * len + (drop + w / 10) - 1) / (drop + w / 10)) else (2 * len + (drop + w / 10) - 1) / (drop + w / 10)
theorem zi_xor {a b : Int} (ha : 0 ≤ a ∧ a < 2147483648) (hb : 0 ≤ b ∧ b < 2147483648) : 0 ≤ (Int32.ofInt a ^^^ Int32.ofInt b).toInt ∧ (Int32.ofInt a ^^^ Int32.ofInt b).toInt < 2147483648 := by
  refine ⟨?_, Int32.toInt_lt _⟩
  have h1 : ¬ (Int32.ofInt a).toBitVec.toInt < 0 := by show ¬ (Int32.ofInt a).toInt < 0; rw [zi_toInt (by omega)]; omega
  have h2 : ¬ (Int32.ofInt b).toBitVec.toInt < 0 := by show ¬ (Int32.ofInt b).toInt < 0; rw [zi_toInt (by omega)]; omega
  have m1 := BitVec.msb_eq_toInt (x := (Int32.ofInt a).toBitVec)
  have m2 := BitVec.msb_eq_toInt (x := (Int32.ofInt b).toBitVec)
  have m3 := BitVec.msb_eq_toInt (x := (Int32.ofInt a).toBitVec ^^^ (Int32.ofInt b).toBitVec)
  rw [BitVec.msb_xor, m1, m2, decide_eq_false h1, decide_eq_false h2] at m3
  have h3 := of_decide_eq_false m3.symm
  show 0 ≤ ((Int32.ofInt a).toBitVec ^^^ (Int32.ofInt b).toBitVec).toInt
  omega
def waitC (M : zM) (i : Nat) (pf : Int) : zM := zup (zup (zup (zup M 16 i 0 0) 16 i 1 pf) 16 i 2 (-1)) 16 i 3 0
theorem waitC_fr {M : zM} {i : Nat} {pf : Int} {f : Nat} (h : ¬ (f = 16)) : waitC M i pf f = M f := by
  simp only [waitC]
  rw [zup_fr h, zup_fr h, zup_fr h, zup_fr h]
def rideTC (M : zM) (i : Nat) (on mi : Int) : zM := zup (zup (zup (zup (zup M 16 i 0 1) 16 i 1 (-1)) 16 i 2 on) 16 i 3 mi) 16 i 4 (M 16 i 4 + 1)
theorem rideTC_fr {M : zM} {i : Nat} {on mi : Int} {f : Nat} (h : ¬ (f = 16)) : rideTC M i on mi f = M f := by
  simp only [rideTC]
  rw [zup_fr h, zup_fr h, zup_fr h, zup_fr h, zup_fr h]
def arriveC (M : zM) (i : Nat) (pf mi : Int) : zM := zup (zup (zup (zup (zup M 16 i 0 2) 16 i 1 pf) 16 i 2 (-1)) 16 i 3 0) 16 i 5 mi
theorem arriveC_fr {M : zM} {i : Nat} {pf mi : Int} {f : Nat} (h : ¬ (f = 16)) : arriveC M i pf mi f = M f := by
  simp only [arriveC]
  rw [zup_fr h, zup_fr h, zup_fr h, zup_fr h, zup_fr h]
def giveUpC (M : zM) (i : Nat) : zM := zup (zup (zup M 16 i 0 3) 16 i 1 (-1)) 16 i 3 0
theorem giveUpC_fr {M : zM} {i : Nat} {f : Nat} (h : ¬ (f = 16)) : giveUpC M i f = M f := by
  simp only [giveUpC]
  rw [zup_fr h, zup_fr h, zup_fr h]
def pullC (M : zM) (i j : Nat) (mi : Int) : zM := zup (zup M 18 i j (-1)) 19 i j mi
theorem pullC_fr {M : zM} {i j : Nat} {mi : Int} {f : Nat} (h : ¬ (f = 18 ∨ f = 19)) : pullC M i j mi f = M f := by simp only [pullC]; rw [zup_fr (by omega), zup_fr (by omega)]
def leaveTopC (M : zM) (i : Nat) (r mi : Int) : zM := zup (zup (zup (zup (zup M 18 i (M 17 i 1).toNat r) 19 i (M 17 i 1).toNat mi) 17 i 1 (M 17 i 1 + 1)) 17 i 0 (M 17 i 0 - 1)) 17 i 4 (M 17 i 4 + 1)
theorem leaveTopC_fr {M : zM} {i : Nat} {r mi : Int} {f : Nat} (h : ¬ (f = 17 ∨ f = 18 ∨ f = 19)) : leaveTopC M i r mi f = M f := by
  simp only [leaveTopC]
  rw [zup_fr (by omega), zup_fr (by omega), zup_fr (by omega), zup_fr (by omega), zup_fr (by omega)]
def absC (a : Int) : Int := if 0 ≤ a then a else -a
def tcpStep (i o : Nat) (j : Nat) (M : zM) : zM := zup (zup M 18 i j (M 18 o j)) 19 i j (M 19 o j)
def tcpN (M : zM) (i o n : Nat) : zM := zit (tcpStep i o) n M
theorem tcpN_fr {M : zM} {i o n f : Nat} (h : ¬ (f = 18 ∨ f = 19)) : tcpN M i o n f = M f := zit_fr (fun j M => by rw [tcpStep, zup_fr (by omega), zup_fr (by omega)]) n M
def tcp (M : zM) (i o : Nat) : zM := zup (zup (tcpN (zup (zup M 17 i 0 (M 17 o 0)) 17 i 1 (M 17 o 1)) i o (M 17 o 1).toNat) 17 i 4 (M 17 o 4)) 17 i 5 (M 17 o 5)
def dropS (i : Nat) (j : Nat) (p : zM × Nat) : zM × Nat := if p.1 19 i j ≤ 0 then p else (zup (zup p.1 18 i p.2 (p.1 18 i j)) 19 i p.2 (p.1 19 i j), p.2 + 1)
def dropN (M : zM) (i n : Nat) : zM × Nat := zit (dropS i) n (M, 0)
theorem dropN_le (M : zM) (i n : Nat) : (dropN M i n).2 ≤ n := by
  induction n with
  | zero => exact Nat.le_refl _
  | succ n ih => simp only [dropN, zit, dropS] at ih ⊢; split <;> omega
theorem dropN_fr {M : zM} {i n f : Nat} (h : ¬ (f = 18 ∨ f = 19)) : (dropN M i n).1 f = M f := by
  induction n with
  | zero => rfl
  | succ n ih =>
    simp only [dropN, zit, dropS] at ih ⊢
    split
    · exact ih
    · simp only []
      rw [zup_fr (by omega), zup_fr (by omega), ih]
theorem dropN_bd {M : zM} {i : Nat} {lo hi : Int} (h : ∀ k, lo ≤ M 19 i k ∧ M 19 i k ≤ hi) (n : Nat) : ∀ k, lo ≤ (dropN M i n).1 19 i k ∧ (dropN M i n).1 19 i k ≤ hi := by
  induction n with
  | zero => exact h
  | succ n ih =>
    intro k
    simp only [dropN, zit, dropS] at ih ⊢
    split
    · exact ih k
    · simp only [zup]
      split
      · have := ih n
        simp at *
        exact this
      · have := ih k
        simp at *
        exact this
def dropC (M : zM) (i : Nat) : zM := zup (zup (dropN M i (M 17 i 1).toNat).1 17 i 0 (M 17 i 0 + (M 17 i 1 - (dropN M i (M 17 i 1).toNat).2))) 17 i 1 (dropN M i (M 17 i 1).toNat).2
theorem dropC_fr {M : zM} {i f : Nat} (h : ¬ (f = 17 ∨ f = 18 ∨ f = 19)) : dropC M i f = M f := by simp only [dropC]; rw [zup_fr (by omega), zup_fr (by omega), dropN_fr (by omega)]
theorem tcp_fr {M : zM} {i o f : Nat} (h : ¬ (f = 17 ∨ f = 18 ∨ f = 19)) : tcp M i o f = M f := by simp only [tcp]; rw [zup_fr (by omega), zup_fr (by omega), tcpN_fr (by omega), zup_fr (by omega), zup_fr (by omega)]
def tripCp (M : zM) (i o : Nat) : zM := zup (zup (zup (zup (zup (zup M 16 i 0 (M 16 o 0)) 16 i 1 (M 16 o 1)) 16 i 2 (M 16 o 2)) 16 i 3 (M 16 o 3)) 16 i 4 (M 16 o 4)) 16 i 5 (M 16 o 5)
theorem tripCp_fr {M : zM} {i o f : Nat} (h : ¬ (f = 16)) : tripCp M i o f = M f := by
  simp only [tripCp]
  rw [zup_fr h, zup_fr h, zup_fr h, zup_fr h, zup_fr h, zup_fr h]
