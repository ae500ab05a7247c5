/-! the model's State: begin -/
theorem WTM.up {T U : Int} {M : zM} (h : WTM T U M) {f i k : Nat} {v : Int} (hf : 6 ≤ f) (hv : inM T U f k v) : WTM T U (zup M f i k v) := by
  refine ⟨fun f' i' k' => ?_, ?_, h.2.2⟩
  · simp only [zup]
    split
    · rename_i z
      obtain ⟨rfl, rfl, rfl⟩ := z
      exact hv
    · exact h.1 f' i' k'
  · rw [zup_fr (show 0 ≠ f by omega), zup_fr (show 3 ≠ f by omega), zup_fr (show 4 ≠ f by omega), zup_fr (show 5 ≠ f by omega)]
    exact h.2.1
theorem WTM.sh {T U : Int} {M : zM} (h : WTM T U M) {u a b : Nat} : WTM T U (shM M u a b) := by
  refine ⟨fun f' i' k' => ?_, ?_, h.2.2⟩
  · simp only [shM]
    split
    · rename_i z
      obtain ⟨rfl, rfl, z⟩ := z
      have := h.1 19 i' (k' + 1)
      exact this
    · exact h.1 f' i' k'
  · simp only [shM_fr (show 0 ≠ 19 by decide), shM_fr (show 3 ≠ 19 by decide), shM_fr (show 4 ≠ 19 by decide), shM_fr (show 5 ≠ 19 by decide)]
    exact h.2.1
theorem strikeM_wt {T U : Int} {M : zM} (h : WTM T U M) {u : Nat} {r : Int} {w : Nat} (hs : 1 ≤ M 18 u (M 21 u r.toNat).toNat) : WTM T U (strikeM M u r w) := by
  have hb : 0 ≤ M 18 u (M 21 u r.toNat).toNat ∧ M 18 u (M 21 u r.toNat).toNat ≤ 12 := h.1 18 u _
  exact (h.up (f := 18) (by decide) ⟨by omega, by omega⟩).sh
theorem strikeM_fr {M : zM} {u : Nat} {r : Int} {w f : Nat} (h : f ≠ 18 ∧ f ≠ 19) : strikeM M u r w f = M f := by
  funext i k
  rw [strikeM, shM_fr h.2, zup_fr h.1]
theorem rideM_eq {M M' : zM} {q w : Int} (h : ∀ f, f < 8 → M' f = M f) : rideM M' q w = rideM M q w := by
  have h1 : lenM M' q = lenM M q := by unfold lenM; rw [h 1 (by decide), h 2 (by decide), h 4 (by decide), h 5 (by decide)]
  have h2 : dropM M' q = dropM M q := by unfold dropM; rw [h 3 (by decide), h 4 (by decide), h 5 (by decide)]
  unfold rideM; rw [h1, h2]
theorem rideM_bd {T U : Int} {M : zM} (h : WTM T U M) {q w : Int} (hq : 0 ≤ q ∧ q < M 0 0 5) (hw : 20 ≤ w ∧ w ≤ 120) : -500 ≤ rideM M q w ∧ rideM M q w ≤ 500 := by
  have hlb := lenM_bd h q
  have hdb := dropM_bd h hq
  have h1 : 0 ≤ (2 * lenM M q + (dropM M q + w / 10) - 1) / (dropM M q + w / 10) := Int.ediv_nonneg (by omega) (by omega)
  have h2 : (2 * lenM M q + (dropM M q + w / 10) - 1) / (dropM M q + w / 10) ≤ 240 := by
    have := Int.ediv_le_self (a := 2 * lenM M q + (dropM M q + w / 10) - 1) (dropM M q + w / 10) (by omega)
    omega
  simp only [rideM]
  split <;> omega
theorem firstM_bd {T U : Int} {M : zM} (h : WTM T U M) (a to w : Int) : -1 ≤ firstM M a to w ∧ firstM M a to w ≤ 12 := by
  have hlc : 0 ≤ M 0 0 5 ∧ M 0 0 5 ≤ 12 := h.1 0 0 5
  simp only [firstM]
  split <;> omega
abbrev bgP (M : zM) (u : Nat) (q : Int) (k : Nat) : Prop := firstM M (M 4 0 q.toNat) (M 10 0 (M 19 u (12 * (M 4 0 q.toNat).toNat + k)).toNat) (M 8 0 (M 19 u (12 * (M 4 0 q.toNat).toNat + k)).toNat) = q
def seatM1 (M : zM) (u : Nat) (q r : Int) (w : Nat) : zM := zup (zup (zup (zup (strikeM M u r w) 20 u r.toNat 1) 21 u r.toNat q) 23 u r.toNat (M 23 u r.toNat + 1)) 14 u (3 * q + M 13 u q.toNat).toNat r
def seatM (M : zM) (u : Nat) (q r : Int) (w : Nat) : zM := zup (zup (zup (zup (seatM1 M u q r w) 15 u (3 * q + M 13 u q.toNat).toNat (absC (rideM M q (M 8 0 r.toNat)))) 13 u q.toNat (M 13 u q.toNat + 1)) 16 u q.toNat (M 16 u q.toNat + 1)) 17 u q.toNat (M 17 u q.toNat + (if rideM M q (M 8 0 r.toNat) < 0 then 1 else 0))
def beginM (M : zM) (u : Nat) (q : Int) : zM := if zfst (bgP M u q) (M 18 u (M 4 0 q.toNat).toNat).toNat < (M 18 u (M 4 0 q.toNat).toNat).toNat then seatM M u q (M 19 u (12 * (M 4 0 q.toNat).toNat + zfst (bgP M u q) (M 18 u (M 4 0 q.toNat).toNat).toNat)) (zfst (bgP M u q) (M 18 u (M 4 0 q.toNat).toNat).toNat) else M
theorem beginM_none {M : zM} {u : Nat} {q : Int} {j : Nat} (hz : ∀ k, k < j → ¬ bgP M u q k) (hj : j = (M 18 u (M 4 0 q.toNat).toNat).toNat) : beginM M u q = M := by
  subst hj
  simp only [beginM]; rw [zfst_none hz, if_neg (by omega)]
theorem beginM_found {M : zM} {u : Nat} {q r : Int} {j : Nat} (hz : ∀ k, k < j → ¬ bgP M u q k) (hp : bgP M u q j) (hj : j < (M 18 u (M 4 0 q.toNat).toNat).toNat) (hr : r = M 19 u (12 * (M 4 0 q.toNat).toNat + j)) : beginM M u q = seatM M u q r j := by
  subst hr
  simp only [beginM]; rw [zfst_found hz hp hj, if_pos hj]
