/-! the trial's rows are other rows -/
theorem zit_off {f : Nat → zM → zM} {g i : Nat} (h : ∀ j M, f j M g i = M g i) (n : Nat) (M : zM) : zit f n M g i = M g i := by
  induction n with
  | zero => rfl
  | succ n ih => rw [zit, h, ih]
/-- not a place of row t -/
def Lo (t f i : Nat) : Prop := ¬ ((f = 12 ∨ f = 15) ∧ i = t) ∧ ¬ ((16 ≤ f ∧ f ≤ 19) ∧ 12 * t ≤ i)
theorem reachC_lo {C : zM} {t f i : Nat} {r pl : Int} (h : Lo t f i) : reachC C t r pl f i = C f i := by
  unfold Lo at h
  unfold reachC arriveC waitC
  split
  · repeat rw [zup_off (by omega)]
  · split
    · repeat rw [zup_off (by omega)]
    · rfl
theorem moveS_lo {C : zM} {t ln j f i : Nat} (h : Lo t f i) : moveS t ln (12 * t + ln) j C f i = C f i := by
  have h' := h
  unfold Lo at h'
  unfold moveS
  split
  · repeat rw [zup_off (by omega)]
  · split
    · rw [reachC_lo h]
      unfold pullC
      repeat rw [zup_off (by omega)]
    · repeat rw [zup_off (by omega)]
theorem dropN_lo {C : zM} {t ln n f i : Nat} (h : Lo t f i) : (dropN C (12 * t + ln) n).1 f i = C f i := by
  unfold Lo at h
  induction n with
  | zero => rfl
  | succ n ih =>
    have e : dropN C (12 * t + ln) (n + 1) = dropS (12 * t + ln) n (dropN C (12 * t + ln) n) := rfl
    rw [e, dropS]
    split
    · exact ih
    · simp only []
      rw [zup_off (by omega), zup_off (by omega), ih]
theorem moveC_lo {C : zM} {t ln f i : Nat} (h : Lo t f i) : moveC C t ln (12 * t + ln) f i = C f i := by
  have h' := h
  unfold Lo at h'
  unfold moveC dropC
  rw [zup_off (by omega), zup_off (by omega), dropN_lo h]
  exact zit_off (fun j M => moveS_lo h) _ _
theorem beginC_lo {C : zM} {t ln f i : Nat} (h : Lo t f i) : beginC C t ln f i = C f i := by
  unfold Lo at h
  have hl : ∀ n M, leaveN M t (firstC C t (ln : Int)).toNat n f i = M f i := fun n M => zit_off (fun j M => zup_off (by omega)) n M
  unfold beginC
  split
  · rfl
  · split
    · unfold leaveTopC rideTC leaveC
      repeat rw [zup_off (by omega)]
      exact hl _ _
    · rfl
theorem tireN_lo {C : zM} {t n f i : Nat} (h : Lo t f i) : (tireN C t n).1 f i = C f i := by
  unfold Lo at h
  induction n with
  | zero => rfl
  | succ n ih =>
    have e : tireN C t (n + 1) = tireS t n (tireN C t n) := rfl
    rw [e, tireS]
    split
    · simp only []
      unfold giveUpC tireM
      repeat rw [zup_off (by omega)]
      exact ih
    · simp only []
      unfold tireM
      repeat rw [zup_off (by omega)]
      exact ih
theorem passC_lo {C : zM} {t f i : Nat} (h : Lo t f i) : passC C t f i = C f i := by
  have h' := h
  unfold Lo at h'
  unfold passC tireC
  rw [zup_off (by omega), zup_off (by omega), tireN_lo h]
  have e1 : ∀ n M, beginsN M t n f i = M f i := fun n M => zit_off (fun j M => by
    split
    · rfl
    · exact beginC_lo h) n M
  rw [e1]
  exact zit_off (fun j M => moveC_lo h) _ _
theorem passN_lo {C : zM} {t n f i : Nat} (h : Lo t f i) : passN C t n f i = C f i := zit_off (fun j M => passC_lo h) n C
theorem copyC_lo {C : zM} {t o f i : Nat} (h : Lo t f i) : copyC C t o f i = C f i := by
  unfold Lo at h
  have e1 : ∀ n M, cpW M t o n f i = M f i := fun n M => zit_off (fun j M => zup_off (by omega)) n M
  have e2 : ∀ n M, cpT M t o n f i = M f i := fun n M => zit_off (fun j M => by
    unfold tripCp
    repeat rw [zup_off (by omega)]) n M
  have e4 : ∀ l n M, tcpN M (12 * t + l) (12 * o + l) n f i = M f i := fun l n M => zit_off (fun j M => by
    unfold tcpStep
    repeat rw [zup_off (by omega)]) n M
  have e3 : ∀ n M, cpL M t o n f i = M f i := fun n M => zit_off (fun l M => by
    unfold tcp
    rw [zup_off (by omega), zup_off (by omega), e4, zup_off (by omega), zup_off (by omega)]) n M
  unfold copyC
  rw [zup_off (by omega), e1, zup_off (by omega), e3, e2]
theorem comeM_off {M : zM} {u f i : Nat} {r q : Int} (h : i ≠ u) : comeM M u r q f i = M f i := by
  unfold comeM
  split <;> repeat rw [zup_off (by omega)]
theorem shM_off {M : zM} {u a b f i : Nat} (h : i ≠ u) : shM M u a b f i = M f i := by
  funext k
  simp only [shM]
  rw [if_neg (by omega)]
theorem strikeM_off {M : zM} {u f i w : Nat} {r : Int} (h : i ≠ u) : strikeM M u r w f i = M f i := by
  unfold strikeM
  rw [shM_off h, zup_off (by omega)]
theorem rollM_off {M : zM} {u f i : Nat} {q : Int} (h : i ≠ u) : rollM M u q f i = M f i := by
  have e : ∀ n, (rollI M u q n).1 f i = M f i := by
    intro n
    induction n with
    | zero => rfl
    | succ n ih =>
      rw [rollI, rollS]
      split
      · split
        · simp only []
          repeat rw [zup_off (by omega)]
          exact ih
        · simp only []
          rw [zup_off (by omega), zup_off (by omega), zup_off (by omega), zup_off (by omega), comeM_off h, zup_off (by omega)]
          exact ih
      · simp only []
        repeat rw [zup_off (by omega)]
        exact ih
  exact e _
theorem beginM_off {M : zM} {u f i : Nat} {q : Int} (h : i ≠ u) : beginM M u q f i = M f i := by
  unfold beginM
  split
  · unfold seatM seatM1
    rw [zup_off (by omega), zup_off (by omega), zup_off (by omega), zup_off (by omega), zup_off (by omega), zup_off (by omega), zup_off (by omega), zup_off (by omega), strikeM_off h]
  · rfl
theorem passM_off {M : zM} {u f i : Nat} (h : i ≠ u) : passM M u f i = M f i := by
  unfold passM tired begun rolled
  rw [zup_off (by omega)]
  have e1 : ∀ n M, tiresM M u n f i = M f i := fun n M => zit_off (fun r M => by
    unfold tireSM
    repeat' split
    · rw [zup_off (by omega), strikeM_off h, zup_off (by omega)]
    · rw [zup_off (by omega)]
    · rw [zup_off (by omega), strikeM_off h, zup_off (by omega)]
    · rfl) n M
  have e2 : ∀ n M, beginsM M u n f i = M f i := fun n M => zit_off (fun l M => by
    unfold beginSM
    repeat' split
    · rfl
    · rfl
    · exact beginM_off h) n M
  rw [e1, e2]
  exact zit_off (fun l M => rollM_off h) _ _
theorem passMN_off {M : zM} {u n f i : Nat} (h : i ≠ u) : passMN M u n f i = M f i := zit_off (fun j M => passM_off h) n M
