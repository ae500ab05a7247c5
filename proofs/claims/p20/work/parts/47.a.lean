/-! the ways: the model's -/
def Wk (M : zM) (to w : Int) : Nat → Int → Prop
  | 0, a => a = to
  | k + 1, a => ∃ l : Nat, (l : Int) < M 0 0 5 ∧ M 4 0 l = a ∧ w ≤ M 6 0 l ∧ Wk M to w k (M 5 0 l)
def Ds (M : zM) (to w : Int) (k : Nat) (a : Int) : Prop := Wk M to w k a ∧ ∀ j, j < k → ¬ Wk M to w j a
theorem Ds.uniq {M : zM} {to w : Int} {k j : Nat} {a : Int} (h : Ds M to w k a) (g : Ds M to w j a) : k = j := by
  rcases Nat.lt_trichotomy k j with q | q | q
  · exact absurd h.1 (g.2 k q)
  · exact q
  · exact absurd g.1 (h.2 j q)
theorem fewI_is (M : zM) (to w : Int) (d : Nat) (a : Int) (n : Nat) :
    (fewI M to w d a n = -1 ∧ ∀ l, l < n → M 4 0 l = a → w ≤ M 6 0 l → fewN M to w d (M 5 0 l) = -1) ∨
    (∃ l, l < n ∧ M 4 0 l = a ∧ w ≤ M 6 0 l ∧ fewN M to w d (M 5 0 l) ≠ -1 ∧ fewI M to w d a n = fewN M to w d (M 5 0 l) + 1 ∧ ∀ l2, l2 < n → M 4 0 l2 = a → w ≤ M 6 0 l2 → fewN M to w d (M 5 0 l2) ≠ -1 → fewI M to w d a n ≤ fewN M to w d (M 5 0 l2) + 1) := by
  induction n with
  | zero => exact Or.inl ⟨rfl, fun l hl => absurd hl (Nat.not_lt_zero l)⟩
  | succ n ih =>
    rw [fewI_s, fewS]
    have hb := (fewN_bd (M := M) (to := to) (w := w) (d := d) (M 5 0 n)).1
    by_cases q : M 4 0 n = a ∧ w ≤ M 6 0 n
    · rw [if_pos q]
      rcases ih with ⟨h1, h2⟩ | ⟨l, l1, l2, l3, l4, l5, l6⟩
      · by_cases q2 : fewN M to w d (M 5 0 n) = -1
        · rw [if_neg (fun z => z.1 q2)]
          refine Or.inl ⟨h1, fun l hl e1 e2 => ?_⟩
          by_cases e : l = n
          · subst e; exact q2
          · exact h2 l (by omega) e1 e2
        · rw [if_pos ⟨q2, Or.inl h1⟩]
          refine Or.inr ⟨n, by omega, q.1, q.2, q2, rfl, fun l hl e1 e2 e3 => ?_⟩
          by_cases e : l = n
          · subst e; exact Int.le_refl _
          · exact absurd (h2 l (by omega) e1 e2) e3
      · have hbl := (fewN_bd (M := M) (to := to) (w := w) (d := d) (M 5 0 l)).1
        by_cases q2 : fewN M to w d (M 5 0 n) ≠ -1 ∧ fewN M to w d (M 5 0 n) + 1 < fewI M to w d a n
        · rw [if_pos ⟨q2.1, Or.inr q2.2⟩]
          refine Or.inr ⟨n, by omega, q.1, q.2, q2.1, rfl, fun l2 hl e1 e2 e3 => ?_⟩
          by_cases e : l2 = n
          · subst e; exact Int.le_refl _
          · have := l6 l2 (by omega) e1 e2 e3
            omega
        · rw [if_neg (fun z => q2 ⟨z.1, z.2.elim (fun y => by omega) id⟩)]
          refine Or.inr ⟨l, by omega, l2, l3, l4, l5, fun l2 hl e1 e2 e3 => ?_⟩
          by_cases e : l2 = n
          · subst e
            rcases Int.lt_or_le (fewN M to w d (M 5 0 l2) + 1) (fewI M to w d a l2) with z | z
            · exact absurd ⟨e3, z⟩ q2
            · exact z
          · exact l6 l2 (by omega) e1 e2 e3
    · rw [if_neg q]
      rcases ih with ⟨h1, h2⟩ | ⟨l, l1, l2, l3, l4, l5, l6⟩
      · refine Or.inl ⟨h1, fun l hl e1 e2 => ?_⟩
        by_cases e : l = n
        · subst e; exact absurd ⟨e1, e2⟩ q
        · exact h2 l (by omega) e1 e2
      · refine Or.inr ⟨l, by omega, l2, l3, l4, l5, fun l2 hl e1 e2 e3 => ?_⟩
        by_cases e : l2 = n
        · subst e; exact absurd ⟨e1, e2⟩ q
        · exact l6 l2 (by omega) e1 e2 e3
theorem fewN_is (M : zM) (to w : Int) (d : Nat) : ∀ a : Int, (fewN M to w d a = -1 ∧ ∀ k, k < d → ¬ Wk M to w k a) ∨ (∃ k : Nat, k < d ∧ fewN M to w d a = (k : Int) ∧ Ds M to w k a) := by
  induction d with
  | zero => intro a; exact Or.inl ⟨rfl, fun k hk => absurd hk (Nat.not_lt_zero k)⟩
  | succ d ih =>
    intro a
    rw [fewN_s]
    by_cases q : a = to
    · rw [if_pos q]
      exact Or.inr ⟨0, by omega, rfl, q, fun j hj => absurd hj (Nat.not_lt_zero j)⟩
    · rw [if_neg q]
      rcases fewI_is M to w d a (M 0 0 5).toNat with ⟨h1, h2⟩ | ⟨l, l1, l2, l3, l4, l5, l6⟩
      · refine Or.inl ⟨h1, fun k hk hw => ?_⟩
        cases k with
        | zero => exact q hw
        | succ k =>
          obtain ⟨l, w1, w2, w3, w4⟩ := hw
          rcases ih (M 5 0 l) with ⟨-, g⟩ | ⟨m, g1, g2, g3⟩
          · exact g k (by omega) w4
          · have := h2 l (by omega) w2 w3
            omega
      · rcases ih (M 5 0 l) with ⟨g, -⟩ | ⟨m, g1, g2, g3⟩
        · exact absurd g l4
        · refine Or.inr ⟨m + 1, by omega, by rw [l5, g2]; omega, ⟨l, by omega, l2, l3, g3.1⟩, fun j hj hw => ?_⟩
          cases j with
          | zero => exact q hw
          | succ j =>
            obtain ⟨x, w1, w2, w3, w4⟩ := hw
            rcases ih (M 5 0 x) with ⟨-, g⟩ | ⟨m2, y1, y2, y3⟩
            · exact g j (by omega) w4
            · have hm : m2 ≤ j := by
                rcases Nat.lt_or_ge j m2 with z | z
                · exact absurd w4 (y3.2 j z)
                · exact z
              have := l6 x (by omega) w2 w3 (by omega)
              omega
/-- a way that is the shortest has different platforms -/
theorem Ds.short {M : zM} {to w : Int} (hto : 0 ≤ to ∧ to < M 0 0 1) (h4 : ∀ l : Nat, (l : Int) < M 0 0 5 → 0 ≤ M 4 0 l ∧ M 4 0 l < M 0 0 1) (k : Nat) : ∀ a : Int, Ds M to w k a → (0 ≤ a ∧ a < M 0 0 1) ∧ ∃ L : List Nat, L.length = k + 1 ∧ L.Nodup ∧ ∀ x, x ∈ L → (x : Int) < M 0 0 1 ∧ ∃ j, j ≤ k ∧ Ds M to w j (x : Int) := by
  induction k with
  | zero =>
    intro a h
    have ha : a = to := h.1
    subst ha
    refine ⟨hto, [a.toNat], rfl, by simp, fun x hx => ?_⟩
    simp at hx
    subst hx
    have e : ((a.toNat : Nat) : Int) = a := by omega
    rw [e]
    exact ⟨hto.2, 0, Nat.le_refl 0, h⟩
  | succ k ih =>
    intro a h
    obtain ⟨l, w1, w2, w3, w4⟩ := h.1
    have hb : Ds M to w k (M 5 0 l) := ⟨w4, fun j hj hw => h.2 (j + 1) (by omega) ⟨l, w1, w2, w3, hw⟩⟩
    obtain ⟨-, L, h1, h2, h3⟩ := ih _ hb
    have ha := h4 l w1
    rw [w2] at ha
    have e : ((a.toNat : Nat) : Int) = a := by omega
    refine ⟨ha, a.toNat :: L, by rw [List.length_cons, h1], List.nodup_cons.mpr ⟨fun hx => ?_, h2⟩, fun x hx => ?_⟩
    · obtain ⟨-, j, hj, hd⟩ := h3 _ hx
      rw [e] at hd
      have := h.uniq hd
      omega
    · rcases List.mem_cons.mp hx with rfl | hx
      · rw [e]; exact ⟨ha.2, k + 1, Nat.le_refl _, h⟩
      · obtain ⟨y1, j, hj, hd⟩ := h3 x hx
        exact ⟨y1, j, by omega, hd⟩
theorem Ds.le {M : zM} {to w : Int} (hto : 0 ≤ to ∧ to < M 0 0 1) (h4 : ∀ l : Nat, (l : Int) < M 0 0 5 → 0 ≤ M 4 0 l ∧ M 4 0 l < M 0 0 1) {k : Nat} {a : Int} (h : Ds M to w k a) : (k : Int) ≤ M 0 0 1 - 1 := by
  obtain ⟨-, L, h1, h2, h3⟩ := Ds.short hto h4 k a h
  have := nodup_len (M 0 0 1).toNat L h2 (fun x hx => by have := (h3 x hx).1; omega)
  omega
