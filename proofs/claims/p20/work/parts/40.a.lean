/-! THE PURE PART: the two memories side by side. No machine here. -/
/-- what minutes don't change -/
def RS (C M : zM) : Prop :=
  (C 1 0 4 = M 0 0 1 ∧ C 1 0 5 = M 0 0 5 ∧ C 1 0 6 = M 0 0 10) ∧
  (∀ i : Nat, C 6 i 0 = M 1 0 i ∧ C 6 i 1 = M 2 0 i ∧ C 6 i 2 = M 3 0 i) ∧
  (∀ i : Nat, C 7 i 0 = M 4 0 i ∧ C 7 i 1 = M 5 0 i ∧ C 7 i 2 = M 6 0 i) ∧
  (∀ l : Nat, (l : Int) < M 0 0 5 → C 7 l 3 = lenM M l ∧ C 7 l 4 = dropM M l ∧ M 4 0 l < M 0 0 1 ∧ M 5 0 l < M 0 0 1 ∧ 1 ≤ lenM M l) ∧
  (∀ r : Nat, C 8 r 1 = M 10 0 r ∧ C 8 r 2 = M 8 0 r ∧ C 8 r 3 = M 9 0 r) ∧
  (∀ r : Nat, (r : Int) < M 0 0 10 → 20 ≤ M 8 0 r ∧ M 10 0 r < M 0 0 1) ∧
  (∀ k : Nat, C 5 0 k = M 7 0 k) ∧
  (∀ r q : Nat, (r : Int) < M 0 0 10 → q < 8 → C 10 r q = fewM M q (M 10 0 r) (M 8 0 r) ∧ C 11 r q = firstM M q (M 10 0 r) (M 8 0 r)) ∧
  (∀ p q : Nat, (p : Int) < M 0 0 1 → (q : Int) < M 0 0 1 → p ≠ q → ¬ (M 1 0 p = M 1 0 q ∧ M 2 0 p = M 2 0 q))
theorem RS.eq {C M C' M' : zM} (h : RS C M) (hC : ∀ f, f < 12 → C' f = C f) (hM : ∀ f, f < 11 → M' f = M f) : RS C' M' := by
  have e1 : ∀ q : Int, lenM M' q = lenM M q := fun q => lenM_eq (fun f hf => hM f (by omega))
  have e2 : ∀ q : Int, dropM M' q = dropM M q := fun q => by unfold dropM; rw [hM 3 (by omega), hM 4 (by omega), hM 5 (by omega)]
  have e0 : M' 0 0 5 = M 0 0 5 := by rw [hM 0 (by omega)]
  have e3 : ∀ a to w : Int, fewM M' a to w = fewM M a to w := fun a to w => fewN_eq e0 (fun f h4 h7 => hM f (by omega)) _ _ _ _
  have e4 : ∀ a to w : Int, firstM M' a to w = firstM M a to w := fun a to w => firstM_eq e0 (fun f h4 h7 => hM f (by omega)) _ _ _
  unfold RS at h ⊢
  simp only [e1, e2, e3, e4]
  rw [hC 1 (by omega), hC 5 (by omega), hC 6 (by omega), hC 7 (by omega), hC 8 (by omega), hC 10 (by omega), hC 11 (by omega), hM 0 (by omega), hM 1 (by omega), hM 2 (by omega), hM 3 (by omega), hM 4 (by omega), hM 5 (by omega), hM 6 (by omega), hM 7 (by omega), hM 8 (by omega), hM 9 (by omega), hM 10 (by omega)]
  exact h
/-- a rider -/
def RR (C M : zM) (t u r : Nat) : Prop :=
  C 16 (12 * t + r) 0 = M 20 u r ∧ C 16 (12 * t + r) 4 = M 23 u r ∧ C 16 (12 * t + r) 5 = M 24 u r ∧
  (M 20 u r = 0 → C 16 (12 * t + r) 1 = M 21 u r ∧ C 16 (12 * t + r) 2 = -1 ∧ C 16 (12 * t + r) 3 = M 22 u r ∧ 0 ≤ M 21 u r ∧ M 21 u r < M 0 0 1) ∧
  (M 20 u r = 1 → C 16 (12 * t + r) 1 = -1 ∧ C 16 (12 * t + r) 2 = M 21 u r) ∧
  (M 20 u r = 2 → C 16 (12 * t + r) 1 = M 21 u r ∧ M 21 u r = M 10 0 r ∧ C 16 (12 * t + r) 2 = -1 ∧ C 16 (12 * t + r) 3 = 0) ∧
  (M 20 u r = 3 → C 16 (12 * t + r) 1 = -1 ∧ C 16 (12 * t + r) 2 = -1 ∧ C 16 (12 * t + r) 3 = 0)
theorem RR.eq {C M C' M' : zM} {t u r : Nat} (h : RR C M t u r) (hC : ∀ k, C' 16 (12 * t + r) k = C 16 (12 * t + r) k) (h20 : M' 20 u r = M 20 u r) (h21 : M' 21 u r = M 21 u r) (h22 : M' 22 u r = M 22 u r) (h23 : M' 23 u r = M 23 u r) (h24 : M' 24 u r = M 24 u r) (h01 : M' 0 0 1 = M 0 0 1) (h10 : M' 10 0 r = M 10 0 r) : RR C' M' t u r := by
  unfold RR at h ⊢
  rw [hC, hC, hC, hC, hC, hC, h20, h21, h22, h23, h24, h01, h10]
  exact h
/-- those of a row who are at a platform -/
def Wp (M : zM) (u : Nat) (W : List Nat) (p : Nat) : List Nat := W.filter (fun r => decide (M 21 u r = (p : Int)))
theorem Wp_eq {M M' : zM} {u : Nat} {W : List Nat} {p : Nat} (h : ∀ r, r ∈ W → M' 21 u r = M 21 u r) : Wp M' u W p = Wp M u W p := by
  unfold Wp
  exact List.filter_congr (fun r hr => by rw [h r hr])
/-- the waiting riders W: the class's row, the model's queues -/
def RW (C M : zM) (t u : Nat) (W : List Nat) : Prop :=
  C 12 t 4 = (W.length : Int) ∧ (∀ k r : Nat, W[k]? = some r → C 15 t k = (r : Int)) ∧ W.Nodup ∧ (∀ r : Nat, r ∈ W ↔ (r : Int) < M 0 0 10 ∧ M 20 u r = 0) ∧
  (∀ p : Nat, p < 8 → M 18 u p = ((Wp M u W p).length : Int) ∧ ∀ k r : Nat, (Wp M u W p)[k]? = some r → M 19 u (12 * p + k) = (r : Int))
/-- the trolleys that are away, line by line: who rides (-1: nobody), minutes left -/
def RL9 (C M : zM) (t u : Nat) (SL : Nat → List (Int × Int)) : Prop :=
  (∀ l : Nat, (l : Int) < M 0 0 5 → ∀ a : Int × Int, a ∈ SL l → 1 ≤ a.2 ∧ (a.1 ≠ -1 → 0 ≤ a.1 ∧ a.1 < M 0 0 10 ∧ M 20 u a.1.toNat = 1 ∧ M 21 u a.1.toNat = (l : Int) ∧ C 16 (12 * t + a.1.toNat) 3 = a.2)) ∧
  (∀ l : Nat, (l : Int) < M 0 0 5 → (SL l).Pairwise (fun a a' => a.1 ≠ -1 → a.1 ≠ a'.1)) ∧
  (∀ r : Nat, (r : Int) < M 0 0 10 → M 20 u r = 1 → 0 ≤ M 21 u r ∧ M 21 u r < M 0 0 5 ∧ ∃ a : Int × Int, a ∈ SL (M 21 u r).toNat ∧ a.1 = (r : Int))
/-- a line's counts -/
def RC (C M : zM) (t u l : Nat) : Prop := C 17 (12 * t + l) 0 + C 17 (12 * t + l) 1 = M 12 u l ∧ C 17 (12 * t + l) 4 = M 16 u l ∧ C 17 (12 * t + l) 5 = M 17 u l
def RG (C M : zM) (t u : Nat) (W : List Nat) (SL : Nat → List (Int × Int)) : Prop :=
  C 12 t 5 = M 11 u 0 ∧ (∀ l : Nat, (l : Int) < M 0 0 5 → RC C M t u l) ∧ (∀ r : Nat, (r : Int) < M 0 0 10 → RR C M t u r) ∧ RW C M t u W ∧ RL9 C M t u SL
def repC (C : zM) (t l : Nat) (L : List (Int × Int)) : Prop := C 17 (12 * t + l) 1 = (L.length : Int) ∧ ∀ (k : Nat) (a : Int × Int), L[k]? = some a → C 18 (12 * t + l) k = a.1 ∧ C 19 (12 * t + l) k = a.2
def repM (M : zM) (u l : Nat) (L : List (Int × Int)) : Prop := M 13 u l = (L.length : Int) ∧ ∀ (k : Nat) (a : Int × Int), L[k]? = some a → M 14 u (3 * l + k) = a.1 ∧ M 15 u (3 * l + k) = a.2
def RT (C M : zM) (t u : Nat) : Prop := ∃ (W : List Nat) (SL : Nat → List (Int × Int)), RG C M t u W SL ∧ ∀ l : Nat, (l : Int) < M 0 0 5 → repC C t l (SL l) ∧ repM M u l (SL l)
/-- a row of different numbers below n is no longer than n -/
theorem nodup_len : ∀ (n : Nat) (W : List Nat), W.Nodup → (∀ r, r ∈ W → r < n) → W.length ≤ n := by
  intro n
  induction n with
  | zero =>
    intro W _ h
    cases W with
    | nil => exact Nat.le_refl _
    | cons a W => exact absurd (h a List.mem_cons_self) (Nat.not_lt_zero a)
  | succ n ih =>
    intro W hW h
    have h1 := ih (W.erase n) (hW.erase n) (fun r hr => by
      have h2 := (hW.mem_erase_iff).mp hr
      have h3 := h r h2.2
      omega)
    by_cases q : n ∈ W
    · have := List.length_erase_of_mem q
      omega
    · rw [List.erase_of_not_mem q] at h1
      omega
theorem RW.len {C M : zM} {t u : Nat} {W : List Nat} (h : RW C M t u W) {r : Nat} (hr : (r : Int) < M 0 0 10) (hn : r ∉ W) (h10 : M 0 0 10 ≤ 12) : W.length ≤ 11 := by
  have h1 := nodup_len (M 0 0 10).toNat (r :: W) (List.nodup_cons.mpr ⟨hn, h.2.2.1⟩) (fun x hx => by
    rcases List.mem_cons.mp hx with rfl | hx
    · omega
    · have := ((h.2.2.2.1 x).mp hx).1
      omega)
  simp only [List.length_cons] at h1
  omega
/-- a rider comes to a platform in both -/
theorem RW.come {C M C' M' : zM} {t u : Nat} {W : List Nat} (h : RW C M t u W) {r q : Nat} (hr : (r : Int) < M 0 0 10) (hn : r ∉ W) (hq : q < 8)
    (c4 : C' 12 t 4 = (W.length : Int) + 1) (c15 : ∀ k, k ≠ W.length → C' 15 t k = C 15 t k) (c15r : C' 15 t W.length = (r : Int))
    (m0 : M' 0 0 10 = M 0 0 10) (m20 : ∀ x, x ≠ r → M' 20 u x = M 20 u x) (m20r : M' 20 u r = 0) (m21 : ∀ x, x ≠ r → M' 21 u x = M 21 u x) (m21r : M' 21 u r = (q : Int))
    (m18 : ∀ p, p < 8 → p ≠ q → M' 18 u p = M 18 u p) (m18q : M' 18 u q = M 18 u q + 1) (m19 : ∀ k, k ≠ 12 * q + (M 18 u q).toNat → M' 19 u k = M 19 u k) (m19q : M' 19 u (12 * q + (M 18 u q).toNat) = (r : Int)) (hlen : W.length ≤ 11) : RW C' M' t u (W ++ [r]) := by
  obtain ⟨h1, h2, h3, h4, h5⟩ := h
  have hWe : ∀ p, Wp M' u W p = Wp M u W p := fun p => Wp_eq (fun x hx => m21 x (fun e => hn (e ▸ hx)))
  have hWa : ∀ p, Wp M' u (W ++ [r]) p = Wp M u W p ++ (if p = q then [r] else []) := by
    intro p
    have e1 : Wp M' u (W ++ [r]) p = Wp M' u W p ++ Wp M' u [r] p := List.filter_append _ _
    rw [e1, hWe]
    congr 1
    unfold Wp
    by_cases e : p = q
    · subst e; simp [m21r]
    · rw [if_neg e]
      have : ¬ (M' 21 u r = (p : Int)) := by rw [m21r]; omega
      simp [this]
  refine ⟨by rw [c4]; simp, fun k x hk => ?_, ?_, fun x => ?_, fun p hp => ?_⟩
  · rw [List.getElem?_append] at hk
    split at hk
    · rename_i hlt
      rw [c15 k (by omega)]
      exact h2 k x hk
    · rename_i hlt
      have h0 : k - W.length = 0 := by
        have := (List.getElem?_eq_some_iff.mp hk).1
        simp at this
        omega
      rw [h0] at hk
      simp at hk
      subst hk
      rw [show k = W.length by omega]
      exact c15r
  · rw [List.nodup_append]
    refine ⟨h3, by simp, fun a ha b hb => ?_⟩
    simp at hb
    subst hb
    exact fun e => hn (e ▸ ha)
  · rw [List.mem_append, m0]
    by_cases e : x = r
    · subst e
      simp [m20r, hr]
    · rw [m20 x e, h4 x]
      simp [e]
  · rw [hWa]
    have hl5 := h5 p hp
    have hpl : (Wp M u W p).length ≤ 11 := Nat.le_trans (List.length_filter_le _ _) hlen
    by_cases e : p = q
    · subst e
      rw [if_pos rfl, m18q, hl5.1]
      refine ⟨by simp, fun k x hk => ?_⟩
      rw [List.getElem?_append] at hk
      split at hk
      · rename_i hlt
        rw [m19 _ (by rw [hl5.1]; omega)]
        exact hl5.2 k x hk
      · rename_i hlt
        have h0 : k - (Wp M u W p).length = 0 := by
          have := (List.getElem?_eq_some_iff.mp hk).1
          simp at this
          omega
        rw [h0] at hk
        simp at hk
        subst hk
        have e9 : 12 * p + k = 12 * p + (M 18 u p).toNat := by rw [hl5.1]; omega
        rw [e9]
        exact m19q
    · rw [if_neg e, List.append_nil, m18 p hp e]
      refine ⟨hl5.1, fun k x hk => ?_⟩
      have hk2 := (List.getElem?_eq_some_iff.mp hk).1
      have hq5 := h5 q hq
      have hql : (Wp M u W q).length ≤ 11 := Nat.le_trans (List.length_filter_le _ _) hlen
      rw [m19 _ (by rw [hq5.1]; omega)]
      exact hl5.2 k x hk
