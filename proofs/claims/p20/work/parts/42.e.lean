theorem begin_all {C M : zM} {t u : Nat} (hT : RT C M t u) (hS : RS C M) (hB : SB M) (h13 : ∀ l' : Nat, (l' : Int) < M 0 0 5 → M 13 u l' ≤ 3) (h12 : ∀ l' : Nat, M 12 u l' ≤ 3) (n : Nat) (hn : (n : Int) ≤ M 0 0 5) :
    RT (beginsN C t n) (beginsM M u n) t u ∧ (∀ l, l < n → beginOK (beginsM M u l) u l) ∧ (∀ l' : Nat, (l' : Int) < M 0 0 5 → beginsM M u n 13 u l' ≤ 3) ∧ FZ C (beginsN C t n) M (beginsM M u n) t u (M 0 0 10) (M 0 0 5) := by
  induction n with
  | zero => exact ⟨hT, fun l hl => absurd hl (Nat.not_lt_zero l), h13, FZ.refl _ _ _ _ _ _⟩
  | succ n ih =>
    obtain ⟨i1, i2, i3, i4⟩ := ih (by omega)
    have e0 : beginsM M u n 0 = M 0 := beginsM_fr (by decide)
    have e12 : beginsM M u n 12 = M 12 := beginsM_fr (by decide)
    obtain ⟨k1, k2, k3, k4⟩ := begin_step (l := n) i1 (hS.eq (fun f hf => beginsN_fr (by omega)) (fun f hf => beginsM_fr (by omega))) (hB.eq (fun f hf => beginsM_fr (by omega))) (by rw [e0]; omega) (by rw [e0]; exact i3) (by rw [e12]; exact h12)
    rw [e0] at k3 k4
    refine ⟨k1, fun l hl => ?_, k3, i4.trans k4⟩
    by_cases e : l = n
    · subst e; exact k2
    · exact i2 l (by omega)
/-! the waiting tire, in both memories -/
abbrev KP (M : zM) (u r : Nat) : Prop := fewM M (M 21 u r) (M 10 0 r) (M 8 0 r) ≠ -1 ∧ M 22 u r + 1 < M 9 0 r
theorem snoc_of : ∀ (n : Nat) (V : List Nat), V.length = n + 1 → ∃ V' r, V = V' ++ [r] ∧ V'.length = n := by
  intro n
  induction n with
  | zero =>
    intro V h
    match V, h with
    | [a], _ => exact ⟨[], a, rfl, rfl⟩
  | succ n ih =>
    intro V h
    match V, h with
    | a :: V, h =>
      obtain ⟨V', r, h1, h2⟩ := ih V (by simpa using h)
      exact ⟨a :: V', r, by rw [h1]; rfl, by rw [List.length_cons, h2]⟩
theorem tireN_is {C : zM} {t : Nat} (kp : Nat → Prop) [DecidablePred kp] (n : Nat) : ∀ V : List Nat, V.length = n → (∀ k x : Nat, V[k]? = some x → C 15 t k = (x : Int)) → V.Nodup → (∀ r, r ∈ V → (¬ kp r ↔ (linesFromC C r (C 16 (12 * t + r) 1) = -1 ∨ C 8 r 3 ≤ C 16 (12 * t + r) 3 + 1))) →
    (tireN C t n).2 = (V.filter (fun r => decide (kp r))).length ∧ (∀ k x : Nat, (V.filter (fun r => decide (kp r)))[k]? = some x → (tireN C t n).1 15 t k = (x : Int)) ∧ (∀ k, n ≤ k → (tireN C t n).1 15 t k = C 15 t k) ∧
    (∀ r, r ∉ V → ∀ k, (tireN C t n).1 16 (12 * t + r) k = C 16 (12 * t + r) k) ∧
    (∀ r, r ∈ V → kp r → (tireN C t n).1 16 (12 * t + r) 3 = C 16 (12 * t + r) 3 + 1 ∧ ∀ k, k ≠ 3 → (tireN C t n).1 16 (12 * t + r) k = C 16 (12 * t + r) k) ∧
    (∀ r, r ∈ V → ¬ kp r → (tireN C t n).1 16 (12 * t + r) 0 = 3 ∧ (tireN C t n).1 16 (12 * t + r) 1 = -1 ∧ (tireN C t n).1 16 (12 * t + r) 3 = 0 ∧ ∀ k, k ≠ 0 → k ≠ 1 → k ≠ 3 → (tireN C t n).1 16 (12 * t + r) k = C 16 (12 * t + r) k) := by
  induction n with
  | zero =>
    intro V hV _ _ _
    have hV : V = [] := List.length_eq_zero_iff.mp hV
    subst hV
    exact ⟨rfl, fun k x h => by simp at h, fun k _ => rfl, fun r _ k => rfl, fun r hr => by simp at hr, fun r hr => by simp at hr⟩
  | succ n ih =>
    intro V hV h15 hnd hkp
    obtain ⟨V', r, rfl, hV'⟩ := snoc_of n V hV
    rw [List.nodup_append] at hnd
    have hrV : r ∉ V' := fun z => hnd.2.2 r z r (by simp) rfl
    obtain ⟨i1, i2, i3, i4, i5, i6⟩ := ih V' hV' (fun k x hk => h15 k x (by rw [List.getElem?_append_left (List.getElem?_eq_some_iff.mp hk).1]; exact hk)) hnd.1 (fun x hx => hkp x (List.mem_append_left _ hx))
    have hle : (V'.filter (fun r => decide (kp r))).length ≤ n := by rw [← hV']; exact List.length_filter_le _ _
    have e : tireN C t (n + 1) = tireS t n (tireN C t n) := rfl
    have hr15 : (tireN C t n).1 15 t n = (r : Int) := by rw [i3 n (Nat.le_refl n)]; exact h15 n r (by simp [← hV'])
    have f8 : (tireN C t n).1 8 = C 8 := tireN_fr (by decide)
    have f10 : (tireN C t n).1 10 = C 10 := tireN_fr (by decide)
    have ht : tireM t n (tireN C t n).1 = zup (tireN C t n).1 16 (12 * t + r) 3 (C 16 (12 * t + r) 3 + 1) := by
      unfold tireM
      rw [hr15, Int.toNat_natCast, i4 r hrV]
    have hP : tiresP (tireM t n (tireN C t n).1) r (12 * t + r) ↔ ¬ kp r := by
      rw [hkp r (by simp), ht]
      show linesFromC (zup (tireN C t n).1 16 (12 * t + r) 3 (C 16 (12 * t + r) 3 + 1)) r (zup (tireN C t n).1 16 (12 * t + r) 3 (C 16 (12 * t + r) 3 + 1) 16 (12 * t + r) 1) = -1 ∨ zup (tireN C t n).1 16 (12 * t + r) 3 (C 16 (12 * t + r) 3 + 1) 8 r 3 ≤ zup (tireN C t n).1 16 (12 * t + r) 3 (C 16 (12 * t + r) 3 + 1) 16 (12 * t + r) 3 ↔ _
      unfold linesFromC
      rw [zup_fr (show 10 ≠ 16 by decide), zup_fr (show 8 ≠ 16 by decide), f8, f10]
      have g1 : zup (tireN C t n).1 16 (12 * t + r) 3 (C 16 (12 * t + r) 3 + 1) 16 (12 * t + r) 1 = C 16 (12 * t + r) 1 := by simp [zup, i4 r hrV]
      have g3 : zup (tireN C t n).1 16 (12 * t + r) 3 (C 16 (12 * t + r) 3 + 1) 16 (12 * t + r) 3 = C 16 (12 * t + r) 3 + 1 := by simp [zup]
      rw [g1, g3]
    rw [e]
    unfold tireS
    rw [hr15, Int.toNat_natCast, List.filter_append]
    by_cases q : kp r
    · rw [if_neg (fun z => hP.mp z q), ht, i1]
      have eq9 : [r].filter (fun r => decide (kp r)) = [r] := by simp [q]
      rw [eq9]
      refine ⟨by simp, fun k x hk => ?_, fun k hk => ?_, fun z hz k => ?_, fun z hz hkz => ?_, fun z hz hkz => ?_⟩
      · rw [List.getElem?_append] at hk
        split at hk
        · rename_i hlt
          have e1 : k ≠ (V'.filter (fun r => decide (kp r))).length := by omega
          simp [zup, e1]
          exact i2 k x hk
        · rename_i hlt
          have hk2 := (List.getElem?_eq_some_iff.mp hk).1
          simp at hk2
          have h0 : k - (V'.filter (fun r => decide (kp r))).length = 0 := by omega
          rw [h0] at hk
          simp at hk
          subst hk
          rw [show k = (V'.filter (fun r => decide (kp r))).length by omega]
          simp [zup]
      · have e1 : k ≠ (V'.filter (fun r => decide (kp r))).length := by omega
        simp [zup, e1]
        exact i3 k (by omega)
      · have hz2 : z ∉ V' ∧ z ≠ r := by simpa using hz
        simp [zup, hz2.2]
        exact i4 z hz2.1 k
      · by_cases e1 : z = r
        · subst e1
          refine ⟨by simp [zup], fun k hk => ?_⟩
          simp [zup, hk]
          exact i4 z hrV k
        · have hz2 : z ∈ V' := by simpa [e1] using hz
          obtain ⟨j1, j2⟩ := i5 z hz2 hkz
          refine ⟨by simp [zup, e1]; exact j1, fun k hk => by simp [zup, e1]; exact j2 k hk⟩
      · by_cases e1 : z = r
        · subst e1; exact absurd q hkz
        · have hz2 : z ∈ V' := by simpa [e1] using hz
          obtain ⟨j1, j2, j3, j4⟩ := i6 z hz2 hkz
          exact ⟨by simp [zup, e1]; exact j1, by simp [zup, e1]; exact j2, by simp [zup, e1]; exact j3, fun k a b c => by simp [zup, e1]; exact j4 k a b c⟩
    · rw [if_pos (hP.mpr q), ht]
      have eq9 : [r].filter (fun r => decide (kp r)) = [] := by simp [q]
      rw [eq9, List.append_nil]
      have h15' : giveUpC (zup (tireN C t n).1 16 (12 * t + r) 3 (C 16 (12 * t + r) 3 + 1)) (12 * t + r) 15 = (tireN C t n).1 15 := by rw [giveUpC_fr (by decide), zup_fr (by decide)]
      have hgo : ∀ z k, z ≠ r → giveUpC (zup (tireN C t n).1 16 (12 * t + r) 3 (C 16 (12 * t + r) 3 + 1)) (12 * t + r) 16 (12 * t + z) k = (tireN C t n).1 16 (12 * t + z) k := fun z k e1 => by rw [giveUpC_off (by omega)]; simp [zup, e1]
      refine ⟨i1, fun k x hk => ?_, fun k hk => ?_, fun z hz k => ?_, fun z hz hkz => ?_, fun z hz hkz => ?_⟩
      · show giveUpC (zup (tireN C t n).1 16 (12 * t + r) 3 (C 16 (12 * t + r) 3 + 1)) (12 * t + r) 15 t k = _
        rw [h15']; exact i2 k x hk
      · show giveUpC (zup (tireN C t n).1 16 (12 * t + r) 3 (C 16 (12 * t + r) 3 + 1)) (12 * t + r) 15 t k = _
        rw [h15']; exact i3 k (by omega)
      · have hz2 : z ∉ V' ∧ z ≠ r := by simpa using hz
        show giveUpC (zup (tireN C t n).1 16 (12 * t + r) 3 (C 16 (12 * t + r) 3 + 1)) (12 * t + r) 16 (12 * t + z) k = _
        rw [hgo z k hz2.2]
        exact i4 z hz2.1 k
      · by_cases e1 : z = r
        · subst e1; exact absurd hkz q
        · have hz2 : z ∈ V' := by simpa [e1] using hz
          obtain ⟨j1, j2⟩ := i5 z hz2 hkz
          refine ⟨?_, fun k hk => ?_⟩
          · show giveUpC (zup (tireN C t n).1 16 (12 * t + r) 3 (C 16 (12 * t + r) 3 + 1)) (12 * t + r) 16 (12 * t + z) 3 = _
            rw [hgo z _ e1]; exact j1
          · show giveUpC (zup (tireN C t n).1 16 (12 * t + r) 3 (C 16 (12 * t + r) 3 + 1)) (12 * t + r) 16 (12 * t + z) k = _
            rw [hgo z _ e1]; exact j2 k hk
      · by_cases e1 : z = r
        · subst e1
          refine ⟨by simp [giveUpC, zup], by simp [giveUpC, zup], by simp [giveUpC, zup], fun k a b c => ?_⟩
          simp [giveUpC, zup, a, b, c]
          exact i4 z hrV k
        · have hz2 : z ∈ V' := by simpa [e1] using hz
          obtain ⟨j1, j2, j3, j4⟩ := i6 z hz2 hkz
          refine ⟨?_, ?_, ?_, fun k a b c => ?_⟩
          · show giveUpC (zup (tireN C t n).1 16 (12 * t + r) 3 (C 16 (12 * t + r) 3 + 1)) (12 * t + r) 16 (12 * t + z) 0 = _
            rw [hgo z _ e1]; exact j1
          · show giveUpC (zup (tireN C t n).1 16 (12 * t + r) 3 (C 16 (12 * t + r) 3 + 1)) (12 * t + r) 16 (12 * t + z) 1 = _
            rw [hgo z _ e1]; exact j2
          · show giveUpC (zup (tireN C t n).1 16 (12 * t + r) 3 (C 16 (12 * t + r) 3 + 1)) (12 * t + r) 16 (12 * t + z) 3 = _
            rw [hgo z _ e1]; exact j3
          · show giveUpC (zup (tireN C t n).1 16 (12 * t + r) 3 (C 16 (12 * t + r) 3 + 1)) (12 * t + r) 16 (12 * t + z) k = _
            rw [hgo z _ e1]; exact j4 k a b c
