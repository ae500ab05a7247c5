/-! the model's faces: add, way, come -/
theorem WTM.rc {T U : Int} {M : zM} (h : WTM T U M) {v : Int} (hv : 0 ≤ v ∧ v ≤ 12) : WTM T U (zup M 0 0 10 v) := by
  refine ⟨fun f' i' k' => ?_, ?_, h.2.2⟩
  · simp only [zup]
    split
    · rename_i z
      obtain ⟨rfl, rfl, rfl⟩ := z
      exact hv
    · exact h.1 f' i' k'
  · intro x hx
    have e : zup M 0 0 10 v 0 0 5 = M 0 0 5 := by simp [zup]
    rw [e] at hx
    rw [zup_fr (show 3 ≠ 0 by decide), zup_fr (show 4 ≠ 0 by decide), zup_fr (show 5 ≠ 0 by decide)]
    exact h.2.1 x hx
def kAddM (M : zM) (q : Int) : Int := if 0 ≤ q ∧ q ≤ M 0 0 5 - 1 then (if M 12 0 q.toNat = 3 then 2 else 0) else 1
def addM (M : zM) (q : Int) : zM := if kAddM M q = 0 then zup (zup M 0 0 0 0) 12 0 q.toNat (M 12 0 q.toNat + 1) else thM M (kAddM M q)
def addR (M : zM) (q : Int) : Int := if kAddM M q = 0 then M 12 0 q.toNat + 1 else 0
def kWayM (M : zM) (a to w : Int) : Int := if (0 ≤ a ∧ a ≤ M 0 0 1 - 1) ∧ (0 ≤ to ∧ to ≤ M 0 0 1 - 1) then (if 20 ≤ w ∧ w ≤ 120 then 0 else 2) else 1
def wayM (M : zM) (a to w : Int) : zM := if kWayM M a to w = 0 then zup M 0 0 0 0 else thM M (kWayM M a to w)
def wayR (M : zM) (a to w : Int) : Int := if kWayM M a to w = 0 then fewN (zup M 0 0 0 0) to w 61 a else 0
def kComeM (M : zM) (t g9 w pt : Int) : Int := if (0 ≤ t ∧ t ≤ M 0 0 1 - 1) ∧ (0 ≤ g9 ∧ g9 ≤ M 0 0 1 - 1) then (if (20 ≤ w ∧ w ≤ 120) ∧ (1 ≤ pt ∧ pt ≤ 60) then (if M 0 0 10 = 12 then 3 else 0) else 2) else 1
def comeFM0 (M : zM) (g9 w pt : Int) : zM := zup (zup (zup (zup (zup (zup M 0 0 0 0) 8 0 (M 0 0 10).toNat w) 9 0 (M 0 0 10).toNat pt) 10 0 (M 0 0 10).toNat g9) 24 0 (M 0 0 10).toNat (-1)) 0 0 10 (M 0 0 10 + 1)
def comeFM (M : zM) (t g9 w pt : Int) : zM := if kComeM M t g9 w pt = 0 then comeM (comeFM0 M g9 w pt) 0 (M 0 0 10 + 1 - 1) t else thM M (kComeM M t g9 w pt)
def comeFR (M : zM) (t g9 w pt : Int) : Int := if kComeM M t g9 w pt = 0 then M 0 0 10 else 0
theorem comeM_fr {M : zM} {u : Nat} {r q : Int} {f : Nat} (h : f ≠ 18 ∧ f ≠ 19 ∧ f ≠ 20 ∧ f ≠ 21 ∧ f ≠ 22 ∧ f ≠ 24) : comeM M u r q f = M f := by
  unfold comeM
  split <;> (funext i k; simp [zup, h])
