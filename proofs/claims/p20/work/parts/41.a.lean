/-! the trolleys of a line move, in both memories -/
/-- the slots below n that have minutes left -/
def dropL (C : zM) (i : Nat) : Nat → List (Int × Int)
  | 0 => []
  | n + 1 => dropL C i n ++ (if C 19 i n ≤ 0 then [] else [(C 18 i n, C 19 i n)])
theorem dropL_eq {C C' : zM} {i n : Nat} (h : ∀ k, k < n → C' 18 i k = C 18 i k ∧ C' 19 i k = C 19 i k) : dropL C' i n = dropL C i n := by
  induction n with
  | zero => rfl
  | succ n ih => rw [dropL, dropL, ih (fun k hk => h k (by omega)), (h n (by omega)).1, (h n (by omega)).2]
theorem dropL_len (C : zM) (i n : Nat) : (dropL C i n).length ≤ n := by
  induction n with
  | zero => exact Nat.le_refl _
  | succ n ih =>
    rw [dropL, List.length_append]
    split <;> simp <;> omega
/-- what dropN does: its count, the slots in front, the slots behind n -/
theorem dropN_is (C : zM) (i n : Nat) : (dropN C i n).2 = (dropL C i n).length ∧ (∀ (k : Nat) (a : Int × Int), (dropL C i n)[k]? = some a → (dropN C i n).1 18 i k = a.1 ∧ (dropN C i n).1 19 i k = a.2) ∧ (∀ k, n ≤ k → (dropN C i n).1 18 i k = C 18 i k ∧ (dropN C i n).1 19 i k = C 19 i k) ∧ (∀ i' k, i' ≠ i → (dropN C i n).1 18 i' k = C 18 i' k ∧ (dropN C i n).1 19 i' k = C 19 i' k) := by
  induction n with
  | zero => exact ⟨rfl, fun k a h => by simp [dropL] at h, fun k _ => ⟨rfl, rfl⟩, fun i' k _ => ⟨rfl, rfl⟩⟩
  | succ n ih =>
    obtain ⟨h1, h2, h3, h4⟩ := ih
    have hl := dropL_len C i n
    have h3n := h3 n (Nat.le_refl n)
    have e : dropN C i (n + 1) = dropS i n (dropN C i n) := rfl
    rw [e, dropS, dropL, h3n.2]
    by_cases q : C 19 i n ≤ 0
    · rw [if_pos q, if_pos q, List.append_nil]
      exact ⟨h1, h2, fun k hk => h3 k (by omega), h4⟩
    · rw [if_neg q, if_neg q, h3n.1, h1]
      refine ⟨by simp, fun k a hk => ?_, fun k hk => ?_, fun i' k hi => ?_⟩
      · rw [List.getElem?_append] at hk
        split at hk
        · rename_i hlt
          have e1 : k ≠ (dropL C i n).length := by omega
          simp [zup, e1]
          exact h2 k a hk
        · rename_i hlt
          have h0 : k - (dropL C i n).length = 0 := by
            have := (List.getElem?_eq_some_iff.mp hk).1
            simp at this
            omega
          rw [h0] at hk
          simp at hk
          subst hk
          rw [show k = (dropL C i n).length by omega]
          simp [zup]
      · have e1 : k ≠ (dropL C i n).length := by omega
        simp [zup, e1]
        exact h3 k (by omega)
      · simp [zup, hi]
        exact h4 i' k hi
/-- line l, j slots moved of n: P stays, Rt still to move -/
def RI (C : zM) (A : zM × Nat) (t u l j n : Nat) (W : List Nat) (SL : Nat → List (Int × Int)) (P Rt : List (Int × Int)) : Prop :=
  (n = j + Rt.length ∧ n ≤ 3 ∧ SL l = P ++ Rt ∧ P.length ≤ j ∧ A.2 = 3 * l + P.length) ∧ RG C A.1 t u W SL ∧
  A.1 13 u l = (P.length : Int) + Rt.length ∧ dropL C (12 * t + l) j = P ∧ C 17 (12 * t + l) 1 = (n : Int) ∧
  (∀ (k : Nat) (a : Int × Int), P[k]? = some a → A.1 14 u (3 * l + k) = a.1 ∧ A.1 15 u (3 * l + k) = a.2) ∧
  (∀ (k : Nat) (a : Int × Int), Rt[k]? = some a → A.1 14 u (3 * l + j + k) = a.1 ∧ A.1 15 u (3 * l + j + k) = a.2) ∧
  (∀ (k : Nat) (a : Int × Int), Rt[k]? = some a → C 18 (12 * t + l) (j + k) = a.1 ∧ C 19 (12 * t + l) (j + k) = a.2) ∧
  (∀ l' : Nat, (l' : Int) < A.1 0 0 5 → l' ≠ l → repC C t l' (SL l') ∧ repM A.1 u l' (SL l') ∧ (SL l').length ≤ 3)
theorem RI.next {C : zM} {A : zM × Nat} {t u l j n : Nat} {W : List Nat} {SL : Nat → List (Int × Int)} {P R2 : List (Int × Int)} {a : Int × Int} (h : RI C A t u l j n W SL P (a :: R2)) {C' : zM} {A' : zM × Nat} {W' : List Nat} {B : List (Int × Int)} (hG : RG C' A'.1 t u W' (setL SL l (P ++ B ++ R2)))
    (hB1 : B.length ≤ 1) (h2 : A'.2 = A.2 + B.length) (h13 : A'.1 13 u l = A.1 13 u l - 1 + B.length) (h13o : ∀ l', l' ≠ l → A'.1 13 u l' = A.1 13 u l')
    (h14 : ∀ k, k ≠ A.2 → k ≠ 3 * l + j → A'.1 14 u k = A.1 14 u k) (h15 : ∀ k, k ≠ A.2 → k ≠ 3 * l + j → A'.1 15 u k = A.1 15 u k)
    (hC17 : C' 17 = C 17) (hC18 : ∀ i k, ¬ (i = 12 * t + l ∧ k = j) → C' 18 i k = C 18 i k) (hC19 : ∀ i k, ¬ (i = 12 * t + l ∧ k = j) → C' 19 i k = C 19 i k)
    (hb : ∀ b, b ∈ B → A'.1 14 u A.2 = b.1 ∧ A'.1 15 u A.2 = b.2 ∧ C' 18 (12 * t + l) j = b.1 ∧ C' 19 (12 * t + l) j = b.2 ∧ 1 ≤ b.2) (hn : B = [] → C' 19 (12 * t + l) j ≤ 0) (h05 : A'.1 0 0 5 = A.1 0 0 5) :
    RI C' A' t u l (j + 1) n W' (setL SL l (P ++ B ++ R2)) (P ++ B) R2 := by
  obtain ⟨⟨g1, g2, g3, g4, g5⟩, g6, g7, g8, g9, g10, g11, g12, g13⟩ := h
  simp only [List.length_cons] at g1 g7
  refine ⟨⟨by omega, g2, setL_at _ _ _, by rw [List.length_append]; omega, by rw [List.length_append]; omega⟩, hG, by rw [List.length_append, h13]; omega, ?_, by rw [hC17]; exact g9, fun k b hk => ?_, fun k b hk => ?_, fun k b hk => ?_, fun l' hl' e => ?_⟩
  · rw [dropL, dropL_eq (fun k hk => ⟨hC18 _ k (by omega), hC19 _ k (by omega)⟩), g8]
    congr 1
    cases B with
    | nil => rw [if_pos (hn rfl)]
    | cons b B =>
      have hB2 : B = [] := by simpa using hB1
      subst hB2
      obtain ⟨k1, k2, k3, k4, k5⟩ := hb b List.mem_cons_self
      rw [if_neg (by omega), k3, k4]
  · rw [List.getElem?_append] at hk
    split at hk
    · rw [h14 _ (by omega) (by omega), h15 _ (by omega) (by omega)]
      exact g10 k b hk
    · have hlt := (List.getElem?_eq_some_iff.mp hk).1
      have hm := List.mem_of_getElem? hk
      obtain ⟨k1, k2, -⟩ := hb b hm
      rw [show 3 * l + k = A.2 by omega]
      exact ⟨k1, k2⟩
  · have := g11 (k + 1) b (by simpa using hk)
    rw [h14 _ (by omega) (by omega), h15 _ (by omega) (by omega), show 3 * l + (j + 1) + k = 3 * l + j + (k + 1) by omega]
    exact this
  · have := g12 (k + 1) b (by simpa using hk)
    rw [hC18 _ _ (by omega), hC19 _ _ (by omega), show j + 1 + k = j + (k + 1) by omega]
    exact this
  · rw [h05] at hl'
    rw [setL_off e]
    obtain ⟨⟨m1, m2⟩, ⟨m3, m4⟩, m5⟩ := g13 l' hl' e
    refine ⟨⟨by rw [hC17]; exact m1, fun k b hk => ?_⟩, ⟨by rw [h13o l' e]; exact m3, fun k b hk => ?_⟩, m5⟩
    · rw [hC18 _ _ (by omega), hC19 _ _ (by omega)]
      exact m2 k b hk
    · have hlt := (List.getElem?_eq_some_iff.mp hk).1
      rw [h14 _ (by omega) (by omega), h15 _ (by omega) (by omega)]
      exact m4 k b hk
