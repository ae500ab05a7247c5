def inM (T U : Int) (f k : Nat) (v : Int) : Prop := match f, k with
  | 0, 0 => 0 ≤ v ∧ v ≤ 3
  | 0, 1 => 0 ≤ v ∧ v ≤ 8
  | 0, 5 => 0 ≤ v ∧ v ≤ 12
  | 0, 10 => 0 ≤ v ∧ v ≤ 12
  | 1, _ => 0 ≤ v ∧ v ≤ 40
  | 2, _ => 0 ≤ v ∧ v ≤ 40
  | 3, _ => 0 ≤ v ∧ v ≤ 60
  | 4, _ => 0 ≤ v ∧ v ≤ 7
  | 5, _ => 0 ≤ v ∧ v ≤ 7
  | 6, _ => 0 ≤ v ∧ v ≤ 150
  | 7, _ => 0 ≤ v ∧ v ≤ 9
  | 8, _ => 0 ≤ v ∧ v ≤ 120
  | 9, _ => 0 ≤ v ∧ v ≤ 60
  | 10, _ => 0 ≤ v ∧ v ≤ 7
  | 11, 0 => 0 ≤ v ∧ v ≤ T
  | 12, _ => 0 ≤ v ∧ v ≤ 3
  | 13, _ => 0 ≤ v ∧ v ≤ 3
  | 14, _ => -1 ≤ v ∧ v ≤ 11
  | 15, _ => -(1000 + U) ≤ v ∧ v ≤ 1000
  | 18, _ => 0 ≤ v ∧ v ≤ 12
  | 19, _ => 0 ≤ v ∧ v ≤ 11
  | 20, _ => 0 ≤ v ∧ v ≤ 3
  | 21, _ => 0 ≤ v ∧ v ≤ 11
  | 22, _ => -(1000 + U) ≤ v ∧ v ≤ 1000 + U
  | _, _ => True
def WTM (T U : Int) (M : zM) : Prop := (∀ f i k, inM T U f k (M f i k)) ∧ (∀ l : Nat, (l : Int) < M 0 0 5 → M 3 0 (M 5 0 l).toNat < M 3 0 (M 4 0 l).toNat) ∧ (0 ≤ T ∧ T ≤ 1000000) ∧ (0 ≤ U ∧ U ≤ 100000000)
def lenM (M : zM) (l : Int) : Int := absC (M 1 0 (M 4 0 l.toNat).toNat - M 1 0 (M 5 0 l.toNat).toNat) + absC (M 2 0 (M 4 0 l.toNat).toNat - M 2 0 (M 5 0 l.toNat).toNat)
def dropM (M : zM) (l : Int) : Int := M 3 0 (M 4 0 l.toNat).toNat - M 3 0 (M 5 0 l.toNat).toNat
theorem lenM_bd {T U : Int} {M : zM} (h : WTM T U M) (l : Int) : 0 ≤ lenM M l ∧ lenM M l ≤ 80 := by
  have h1 := absC_bd (h.1 1 0 (M 4 0 l.toNat).toNat) (h.1 1 0 (M 5 0 l.toNat).toNat)
  have h2 := absC_bd (h.1 2 0 (M 4 0 l.toNat).toNat) (h.1 2 0 (M 5 0 l.toNat).toNat)
  simp only [lenM]; omega
theorem dropM_bd {T U : Int} {M : zM} (h : WTM T U M) {l : Int} (hl : 0 ≤ l ∧ l < M 0 0 5) : 0 < dropM M l ∧ dropM M l ≤ 60 := by
  have h1 : 0 ≤ M 3 0 (M 5 0 l.toNat).toNat ∧ M 3 0 (M 5 0 l.toNat).toNat ≤ 60 := h.1 3 0 _
  have h2 : 0 ≤ M 3 0 (M 4 0 l.toNat).toNat ∧ M 3 0 (M 4 0 l.toNat).toNat ≤ 60 := h.1 3 0 _
  have h3 := h.2.1 l.toNat (by omega)
  simp only [dropM]; omega
abbrev closedM (M : zM) (l mi : Int) : Prop := 80 - 8 * M 7 0 (mi % 12).toNat < lenM M l
def rideM (M : zM) (l w : Int) : Int := if w * dropM M l < 10 * lenM M l then -2 * ((2 * lenM M l + (dropM M l + w / 10) - 1) / (dropM M l + w / 10)) else (2 * lenM M l + (dropM M l + w / 10) - 1) / (dropM M l + w / 10)
def manyM (M : zM) (u : Nat) (sx : Int) : Int := zcnt (fun j => M 20 u j = sx) (M 0 0 10).toNat
def ridingM (M : zM) (u : Nat) (l : Int) : Int := zcnt (fun j => M 14 u (3 * l.toNat + j) ≠ -1) (M 13 u l.toNat).toNat
abbrev leftP (M : zM) (u : Nat) (r : Int) (k : Nat) : Prop := ((k % 3 : Nat) : Int) < M 13 u (k / 3) ∧ M 14 u k = r
def leftM (M : zM) (u : Nat) (r : Int) : Int := if zfst (leftP M u r) 36 < 36 then M 15 u (zfst (leftP M u r) 36) else 0
/-- the lines of a way, by a depth that is greater than the height -/
def fewN (M : zM) (to w : Int) : Nat → Int → Int
  | 0, _ => -1
  | d + 1, a => if a = to then 0 else zit (fun l best => if M 4 0 l = a ∧ w ≤ M 6 0 l then (if fewN M to w d (M 5 0 l) ≠ -1 ∧ (best = -1 ∨ fewN M to w d (M 5 0 l) + 1 < best) then fewN M to w d (M 5 0 l) + 1 else best) else best) (M 0 0 5).toNat (-1)
def fewS (M : zM) (to w : Int) (d : Nat) (a : Int) (l : Nat) (best : Int) : Int := if M 4 0 l = a ∧ w ≤ M 6 0 l then (if fewN M to w d (M 5 0 l) ≠ -1 ∧ (best = -1 ∨ fewN M to w d (M 5 0 l) + 1 < best) then fewN M to w d (M 5 0 l) + 1 else best) else best
def fewI (M : zM) (to w : Int) (d : Nat) (a : Int) (n : Nat) : Int := zit (fewS M to w d a) n (-1)
theorem fewN_s {M : zM} {to w : Int} {d : Nat} {a : Int} : fewN M to w (d + 1) a = if a = to then 0 else fewI M to w d a (M 0 0 5).toNat := rfl
theorem fewI_s {M : zM} {to w : Int} {d : Nat} {a : Int} {n : Nat} : fewI M to w d a (n + 1) = fewS M to w d a n (fewI M to w d a n) := rfl
theorem fewN_bd {M : zM} {to w : Int} {d : Nat} : ∀ a, -1 ≤ fewN M to w d a ∧ fewN M to w d a ≤ d := by
  induction d with
  | zero => intro a; exact ⟨by simp [fewN], by simp [fewN]⟩
  | succ d ih =>
    intro a
    rw [fewN_s]
    split
    · omega
    · have : ∀ n, -1 ≤ fewI M to w d a n ∧ fewI M to w d a n ≤ d + 1 := by
        intro n
        induction n with
        | zero => exact ⟨by simp [fewI, zit], by simp [fewI, zit]; omega⟩
        | succ n ihn =>
          rw [fewI_s, fewS]
          have := ih (M 5 0 n)
          split
          · split <;> omega
          · exact ihn
      have := this (M 0 0 5).toNat
      omega
theorem fewI_bd {M : zM} {to w : Int} {d : Nat} {a : Int} (n : Nat) : -1 ≤ fewI M to w d a n ∧ fewI M to w d a n ≤ d + 1 := by
  induction n with
  | zero => exact ⟨by simp [fewI, zit], by simp [fewI, zit]; omega⟩
  | succ n ihn =>
    rw [fewI_s, fewS]
    have := fewN_bd (M := M) (to := to) (w := w) (d := d) (M 5 0 n)
    split
    · split <;> omega
    · exact ihn
/-- fewest: 61 is more than any height -/
def fewM (M : zM) (a to w : Int) : Int := fewN M to w 61 a
abbrev firstP (M : zM) (a to w : Int) (l : Nat) : Prop := M 4 0 l = a ∧ w ≤ M 6 0 l ∧ fewM M (M 5 0 l) to w = fewM M a to w - 1
def firstM (M : zM) (a to w : Int) : Int := if 0 < fewM M a to w ∧ zfst (firstP M a to w) (M 0 0 5).toNat < (M 0 0 5).toNat then (zfst (firstP M a to w) (M 0 0 5).toNat : Int) else -1
theorem firstM_none1 {M : zM} {a to w : Int} (h : fewM M a to w ≤ 0) : firstM M a to w = -1 := by
  simp only [firstM]; rw [if_neg (by omega)]
theorem firstM_none2 {M : zM} {a to w : Int} {j : Nat} (hz : ∀ k, k < j → ¬ firstP M a to w k) (hj : j = (M 0 0 5).toNat) : firstM M a to w = -1 := by
  subst hj
  simp only [firstM]; rw [zfst_none hz, if_neg (by omega)]
theorem firstM_found {M : zM} {a to w : Int} {j : Nat} (h : 0 < fewM M a to w) (hz : ∀ k, k < j → ¬ firstP M a to w k) (hp : firstP M a to w j) (hj : j < (M 0 0 5).toNat) : firstM M a to w = j := by
  simp only [firstM]; rw [zfst_found hz hp hj, if_pos ⟨h, hj⟩]
