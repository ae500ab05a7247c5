/-! the model's faces that move no minute -/
theorem WTM.thr {T U : Int} {M : zM} (h : WTM T U M) {v : Int} (hv : 0 ≤ v ∧ v ≤ 3) : WTM T U (zup M 0 0 0 v) := by
  refine ⟨fun f' i' k' => ?_, ?_, h.2.2⟩
  · simp only [zup]
    split
    · rename_i z
      obtain ⟨rfl, rfl, rfl⟩ := z
      exact hv
    · exact h.1 f' i' k'
  · intro x hx
    have e : zup M 0 0 0 v 0 0 5 = M 0 0 5 := by simp [zup]
    rw [e] at hx
    rw [zup_fr (show 3 ≠ 0 by decide), zup_fr (show 4 ≠ 0 by decide), zup_fr (show 5 ≠ 0 by decide)]
    exact h.2.1 x hx
def kWindM (di w : Int) : Int := if 0 ≤ di ∧ di ≤ 11 then (if 0 ≤ w ∧ w ≤ 9 then 0 else 2) else 1
def thM (M : zM) (k : Int) : zM := zup (zup M 0 0 0 0) 0 0 0 k
def windM (M : zM) (di w : Int) : zM := if kWindM di w = 0 then zup (zup M 0 0 0 0) 7 0 di.toNat w else thM M (kWindM di w)
def windR (M : zM) (di w : Int) : Int := if kWindM di w = 0 then M 7 0 di.toNat else 0
def kRideM (M : zM) (q w : Int) : Int := if 0 ≤ q ∧ q ≤ M 0 0 5 - 1 then (if 20 ≤ w ∧ w ≤ 120 then 0 else 2) else 1
def rideFM (M : zM) (q w : Int) : zM := if kRideM M q w = 0 then zup M 0 0 0 0 else thM M (kRideM M q w)
def rideFR (M : zM) (q w : Int) : Int := if kRideM M q w = 0 then (if M 6 0 q.toNat < w then 0 else rideM (zup M 0 0 0 0) q w) else 0
def kSpanM (M : zM) (t b mo tr : Int) : Int := if (0 ≤ t ∧ t ≤ M 0 0 1 - 1) ∧ (0 ≤ b ∧ b ≤ M 0 0 1 - 1) then (if M 3 0 b.toNat < M 3 0 t.toNat ∧ (20 ≤ mo ∧ mo ≤ 150) ∧ (1 ≤ tr ∧ tr ≤ 3) then (if M 0 0 5 = 12 then 3 else 0) else 2) else 1
def spanM (M : zM) (t b mo tr : Int) : zM := if kSpanM M t b mo tr = 0 then zup (zup (zup (zup (zup (zup M 0 0 0 0) 4 0 (M 0 0 5).toNat t) 5 0 (M 0 0 5).toNat b) 6 0 (M 0 0 5).toNat mo) 12 0 (M 0 0 5).toNat tr) 0 0 5 (M 0 0 5 + 1) else thM M (kSpanM M t b mo tr)
def spanR (M : zM) (t b mo tr : Int) : Int := if kSpanM M t b mo tr = 0 then M 0 0 5 else 0
def kQueueM (M : zM) (n x : Int) : Int := if (0 ≤ n ∧ n ≤ M 0 0 1 - 1) ∧ (0 ≤ x ∧ x ≤ M 18 0 n.toNat - 1) then 0 else 1
def queueFM (M : zM) (n x : Int) : zM := if kQueueM M n x = 0 then zup M 0 0 0 0 else thM M (kQueueM M n x)
def queueFR (M : zM) (n x : Int) : Int := if kQueueM M n x = 0 then M 19 0 (12 * n + x).toNat else 0
def bOk (M : zM) (x9 y9 : Int) : Nat → Int
  | 0 => if M 0 0 1 < 8 then 1 else 0
  | j + 1 => if bOk M x9 y9 j ≠ 0 ∧ (M 1 0 j ≠ x9 ∨ M 2 0 j ≠ y9) then 1 else 0
theorem bOk_bd (M : zM) (x9 y9 : Int) (j : Nat) : 0 ≤ bOk M x9 y9 j ∧ bOk M x9 y9 j ≤ 1 := by
  cases j <;> simp only [bOk] <;> split <;> omega
theorem bOk_lt {M : zM} {x9 y9 : Int} {j : Nat} (h : bOk M x9 y9 j ≠ 0) : M 0 0 1 < 8 := by
  induction j with
  | zero => simp only [bOk] at h; split at h <;> omega
  | succ j ih =>
    simp only [bOk] at h
    split at h
    · rename_i z; exact ih z.1
    · omega
def kBuildM (M : zM) (x9 y9 h9 : Int) : Int := if (0 ≤ x9 ∧ x9 ≤ 40) ∧ (0 ≤ y9 ∧ y9 ≤ 40) ∧ (0 ≤ h9 ∧ h9 ≤ 60) then (if bOk M x9 y9 (M 0 0 1).toNat ≠ 0 then 0 else 2) else 1
def buildM (M : zM) (x9 y9 h9 : Int) : zM := if kBuildM M x9 y9 h9 = 0 then zup (zup (zup (zup (zup M 0 0 0 0) 1 0 (M 0 0 1).toNat x9) 2 0 (M 0 0 1).toNat y9) 3 0 (M 0 0 1).toNat h9) 0 0 1 (M 0 0 1 + 1) else thM M (kBuildM M x9 y9 h9)
def buildR (M : zM) (x9 y9 h9 : Int) : Int := if kBuildM M x9 y9 h9 = 0 then M 0 0 1 else 0
