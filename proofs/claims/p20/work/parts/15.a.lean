def platFactC (M : zM) (n w : Int) : Int :=
  if w = 0 then M 6 n.toNat 0 else if w = 1 then M 6 n.toNat 1 else if w = 2 then M 6 n.toNat 2 else if w = 3 then qLen M 0 n else if w = 4 then qAt M 0 n 0
  else if w = 5 then zcnt (fun j => M 7 j 0 = n) (M 1 0 5).toNat else if w = 6 then zcnt (fun j => M 7 j 1 = n) (M 1 0 5).toNat else arrAt M 0 n
def lineFactC (M : zM) (n w : Int) : Int :=
  if w = 0 then M 7 n.toNat 0 else if w = 1 then M 7 n.toNat 1 else if w = 2 then M 7 n.toNat 2 else if w = 3 then M 7 n.toNat 3 else if w = 4 then M 7 n.toNat 4
  else if w = 5 then M 17 (12 * 0 + n.toNat) 0 + M 17 (12 * 0 + n.toNat) 1 else if w = 6 then M 17 (12 * 0 + n.toNat) 0
  else if w = 7 then zcnt (fun j => M 18 (12 * 0 + n.toNat) j ≠ -1) (M 17 (12 * 0 + n.toNat) 1).toNat
  else if w = 8 then M 17 (12 * 0 + n.toNat) 4 else if w = 9 then M 17 (12 * 0 + n.toNat) 5 else if closedP M n.toNat (M 12 0 5) then 1 else 0
def riderFactC (M : zM) (n w : Int) : Int :=
  if w = 0 then M 8 n.toNat 2 else if w = 1 then M 8 n.toNat 3 else if w = 2 then M 8 n.toNat 1 else if w = 3 then M 16 (12 * 0 + n.toNat) 0 else if w = 4 then M 16 (12 * 0 + n.toNat) 1
  else if w = 5 then M 16 (12 * 0 + n.toNat) 2 else if w = 6 then M 16 (12 * 0 + n.toNat) 3
  else if w = 7 then (if M 16 (12 * 0 + n.toNat) 0 = 0 then (if linesFromC M n.toNat (M 16 (12 * 0 + n.toNat) 1) < 0 then 0 else linesFromC M n.toNat (M 16 (12 * 0 + n.toNat) 1)) else 0)
  else if w = 8 then (if M 16 (12 * 0 + n.toNat) 0 = 0 then firstFromC M n.toNat (M 16 (12 * 0 + n.toNat) 1) else -1)
  else if w = 9 then M 16 (12 * 0 + n.toNat) 4 else M 16 (12 * 0 + n.toNat) 5
def countFactC (M : zM) (w : Int) : Int :=
  if w = 0 then M 12 0 5 else if w = 1 then M 1 0 4 else if w = 2 then M 1 0 5 else if w = 3 then M 1 0 6 else if w = 4 then ridersC M 0 0 else if w = 5 then ridersC M 0 1 else if w = 6 then ridersC M 0 2
  else if w = 7 then ridersC M 0 3 else if w = 8 then zsum (fun j => M 17 (12 * 0 + j) 0 + M 17 (12 * 0 + j) 1) (M 1 0 5).toNat else zsum (fun j => M 17 (12 * 0 + j) 4) (M 1 0 5).toNat
def dstep (d : Int64) (x : Int) : Int64 := d * 31 + (Int32.ofInt x).toInt64
/-- a checksum goes on over n numbers -/
def dgo (f : Nat → Int) (d0 : Int64) (n : Nat) : Int64 := zit (fun k d => dstep d (f k)) n d0
theorem dgo_0 {f : Nat → Int} {d0 : Int64} : dgo f d0 0 = d0 := rfl
theorem dgo_s {f : Nat → Int} {d0 : Int64} {j : Nat} : dgo f d0 (j + 1) = dgo f d0 j * 31 + (Int32.ofInt (f j)).toInt64 := rfl
def dgg (f : Nat → Int64 → Int64) (d0 : Int64) (n : Nat) : Int64 := zit f n d0
theorem dgg_0 {f : Nat → Int64 → Int64} {d0 : Int64} : dgg f d0 0 = d0 := rfl
theorem dgg_s {f : Nat → Int64 → Int64} {d0 : Int64} {j : Nat} : dgg f d0 (j + 1) = f j (dgg f d0 j) := rfl
def digPC (M : zM) (n : Int) (d : Int64) : Int64 := dgo (fun j => qAt M 0 n j) (dgo (fun w => platFactC M n w) d 8) (qLen M 0 n).toNat
def dg2 (M : zM) : Int64 := dgo (fun k => M 5 0 k) (dgo (fun w => countFactC M w) 593 10) 12
def dg3 (M : zM) : Int64 := dgg (fun x9 d => digPC M x9 d) (dg2 M) (M 1 0 4).toNat
def dg4 (M : zM) : Int64 := dgg (fun x9 d => dgo (fun w => lineFactC M x9 w) d 11) (dg3 M) (M 1 0 5).toNat
def dg5 (M : zM) : Int64 := dgg (fun x9 d => dgo (fun w => riderFactC M x9 w) d 11) (dg4 M) (M 1 0 6).toNat
theorem tcp_at {M : zM} {i o k : Nat} (hk : k = 0 ∨ k = 1 ∨ k = 4 ∨ k = 5) : tcp M i o 17 i k = M 17 o k := by
  rcases hk with rfl | rfl | rfl | rfl <;> simp [tcp, zup, tcpN_fr (f := 17)]
theorem tcp_off {M : zM} {i o i' k : Nat} (h : i' ≠ i) : tcp M i o 17 i' k = M 17 i' k := by
  simp [tcp, zup, tcpN_fr (f := 17), h]
theorem cpL_17 {M : zM} {t o n j k : Nat} (ht : t < 2) (ho : o < 2) (hto : t ≠ o) (hn : n ≤ 12) (hj : j < n) (hk : k = 0 ∨ k = 1 ∨ k = 4 ∨ k = 5) : cpL M t o n 17 (12 * t + j) k = M 17 (12 * o + j) k := by
  have hs : ∀ n, n ≤ 12 → ∀ j, j < 12 → cpL M t o n 17 (12 * o + j) = M 17 (12 * o + j) := by
    intro n
    induction n with
    | zero => intro _ j _; rfl
    | succ n ih =>
      intro hn j hj
      funext k
      simp only [cpL, zit] at ih ⊢
      rw [tcp_off (by omega), ih (by omega) j hj]
  induction n with
  | zero => omega
  | succ n ih =>
    have h1 : cpL M t o (n + 1) 17 (12 * t + j) k = tcp (cpL M t o n) (12 * t + n) (12 * o + n) 17 (12 * t + j) k := rfl
    rw [h1]
    by_cases q : j = n
    · subst q
      rw [tcp_at hk, hs j (by omega) j (by omega)]
    · rw [tcp_off (by omega), ih (by omega) (by omega)]
theorem copyC_17 {M : zM} {t o j k : Nat} (ht : t < 2) (ho : o < 2) (hto : t ≠ o) (hn : (M 1 0 5).toNat ≤ 12) (hj : j < (M 1 0 5).toNat) (hk : k = 0 ∨ k = 1 ∨ k = 4 ∨ k = 5) : copyC M t o 17 (12 * t + j) k = M 17 (12 * o + j) k := by
  rw [copyC, zup_fr (by decide), cpW_fr (by decide), zup_fr (by decide), cpL_17 ht ho hto hn hj hk, cpT_fr (by decide)]
def oneMore (M : zM) (n mi : Int) : zM := passN (addTC (copyC M 1 0) 1 n 1) 1 mi.toNat
def oneMoreR (M : zM) (n mi : Int) : Int := ridersC (oneMore M n mi) 1 2 - ridersC (addTC (copyC M 1 0) 1 n 1) 1 2
theorem oneMore_fr {M : zM} {n mi : Int} {f : Nat} (h : ¬ (f = 12 ∨ f = 15 ∨ f = 16 ∨ f = 17 ∨ f = 18 ∨ f = 19)) : oneMore M n mi f = M f := by rw [oneMore, passN_fr h, addTC_fr (by omega), copyC_fr h]
theorem oneMore0_wt {T U : Int} {M : zM} (h : WTC T U M) {n : Int} (hn : 0 ≤ n ∧ n < M 1 0 5) (hs : M 17 (12 * 0 + n.toNat) 0 + M 17 (12 * 0 + n.toNat) 1 < 3) : WTC T U (addTC (copyC M 1 0) 1 n 1) := by
  have h5 : 0 ≤ M 1 0 5 ∧ M 1 0 5 ≤ 12 := h.1 1 0 5
  refine addTC_wt (copyC_wt h) (by decide) ?_
  rw [copyC_17 (by decide) (by decide) (by decide) (by omega) (by omega) (Or.inl rfl), copyC_17 (by decide) (by decide) (by decide) (by omega) (by omega) (Or.inr (Or.inl rfl))]
  omega
