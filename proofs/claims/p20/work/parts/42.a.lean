/-! a rider gets on a line, in both memories -/
theorem split_first (P : Nat → Prop) (W : List Nat) : (∀ x, x ∈ W → ¬ P x) ∨ ∃ W1 r W2, W = W1 ++ r :: W2 ∧ (∀ x, x ∈ W1 → ¬ P x) ∧ P r := by
  induction W with
  | nil => exact Or.inl (fun x h => by simp at h)
  | cons a W ih =>
    by_cases q : P a
    · exact Or.inr ⟨[], a, W, rfl, fun x h => by simp at h, q⟩
    · rcases ih with h | ⟨W1, r, W2, h1, h2, h3⟩
      · refine Or.inl (fun x hx => ?_)
        rcases List.mem_cons.mp hx with rfl | hx
        · exact q
        · exact h x hx
      · refine Or.inr ⟨a :: W1, r, W2, by rw [h1]; rfl, fun x hx => ?_, h3⟩
        rcases List.mem_cons.mp hx with rfl | hx
        · exact q
        · exact h2 x hx
theorem zfst_list_none {Q : Nat → Prop} [DecidablePred Q] {P : Nat → Prop} {L : List Nat} (h : ∀ k r : Nat, L[k]? = some r → (Q k ↔ P r)) (h2 : ∀ x, x ∈ L → ¬ P x) : zfst Q L.length = L.length :=
  zfst_none (fun k hk q => h2 L[k] (List.getElem_mem hk) ((h k L[k] (List.getElem?_eq_getElem hk)).mp q))
theorem zfst_list_found {Q : Nat → Prop} [DecidablePred Q] {P : Nat → Prop} {L1 L2 : List Nat} {r : Nat} (h : ∀ k x : Nat, (L1 ++ r :: L2)[k]? = some x → (Q k ↔ P x)) (h2 : ∀ x, x ∈ L1 → ¬ P x) (h3 : P r) : zfst Q (L1 ++ r :: L2).length = L1.length := by
  refine zfst_found (fun k hk q => ?_) ?_ (by simp)
  · have e : (L1 ++ r :: L2)[k]? = some L1[k] := by rw [List.getElem?_append_left hk, List.getElem?_eq_getElem hk]
    exact h2 L1[k] (List.getElem_mem hk) ((h k _ e).mp q)
  · exact (h L1.length r (by simp)).mpr h3
theorem leaveN_at (C : zM) (t pl n k : Nat) : leaveN C t pl n 15 t k = if pl ≤ k ∧ k < pl + n then C 15 t (k + 1) else C 15 t k := by
  induction n generalizing k with
  | zero => rw [if_neg (by omega)]; rfl
  | succ n ih =>
    have e : leaveN C t pl (n + 1) = zup (leaveN C t pl n) 15 t (pl + n) (leaveN C t pl n 15 t (pl + n + 1)) := rfl
    rw [e]
    simp only [zup]
    by_cases q : k = pl + n
    · subst q
      rw [if_pos (by simp), ih, if_neg (by omega), if_pos (by omega)]
    · rw [if_neg (by omega), ih]
      by_cases q2 : pl ≤ k ∧ k < pl + n
      · rw [if_pos q2, if_pos (by omega)]
      · rw [if_neg q2, if_neg (by omega)]
/-- the class's row without one -/
theorem leaveC_row {C : zM} {t : Nat} {W1 W2 : List Nat} {r : Nat} (h4 : C 12 t 4 = ((W1 ++ r :: W2).length : Int)) (h15 : ∀ k x : Nat, (W1 ++ r :: W2)[k]? = some x → C 15 t k = (x : Int)) : leaveC C t W1.length 12 t 4 = ((W1 ++ W2).length : Int) ∧ ∀ k x : Nat, (W1 ++ W2)[k]? = some x → leaveC C t W1.length 15 t k = (x : Int) := by
  have e15 : leaveC C t W1.length 15 = leaveN C t W1.length ((C 12 t 4).toNat - 1 - W1.length) 15 := by unfold leaveC; rw [zup_fr (by decide)]
  have e12 : leaveC C t W1.length 12 t 4 = C 12 t 4 - 1 := by unfold leaveC; simp [zup]
  simp only [List.length_append, List.length_cons] at h4
  refine ⟨by rw [e12, h4, List.length_append]; omega, fun k x hk => ?_⟩
  have hlt := (List.getElem?_eq_some_iff.mp hk).1
  rw [List.length_append] at hlt
  rw [e15, leaveN_at]
  by_cases q : k < W1.length
  · rw [if_neg (by omega)]
    rw [List.getElem?_append_left q] at hk
    exact h15 k x (by rw [List.getElem?_append_left q]; exact hk)
  · rw [if_pos (by omega)]
    rw [List.getElem?_append_right (by omega)] at hk
    refine h15 (k + 1) x ?_
    rw [List.getElem?_append_right (by omega), show k + 1 - W1.length = (k - W1.length) + 1 by omega, List.getElem?_cons_succ]
    exact hk
/-- the model's queues of a row -/
def QM (M : zM) (u : Nat) (W : List Nat) : Prop := ∀ p : Nat, p < 8 → M 18 u p = ((Wp M u W p).length : Int) ∧ ∀ k r : Nat, (Wp M u W p)[k]? = some r → M 19 u (12 * p + k) = (r : Int)
theorem Wp_split (M : zM) (u : Nat) (W1 W2 : List Nat) (r p : Nat) : Wp M u (W1 ++ r :: W2) p = Wp M u W1 p ++ (if M 21 u r = (p : Int) then r :: Wp M u W2 p else Wp M u W2 p) := by
  unfold Wp
  rw [List.filter_append, List.filter_cons]
  by_cases q : M 21 u r = (p : Int)
  · simp [q]
  · simp [q]
theorem QM.strike {M M' : zM} {u : Nat} {W1 W2 : List Nat} {r at9 : Nat} (h : QM M u (W1 ++ r :: W2)) (hlen : (W1 ++ r :: W2).length ≤ 12) (hat : M 21 u r = (at9 : Int)) (ha : at9 < 8) (h21 : ∀ x, x ∈ W1 ++ W2 → M' 21 u x = M 21 u x)
    (h18 : ∀ p, M' 18 u p = if p = at9 then M 18 u p - 1 else M 18 u p) (h19 : ∀ k : Nat, M' 19 u k = if 12 * at9 + (Wp M u W1 at9).length ≤ k ∧ (k : Int) < 12 * at9 + M 18 u at9 - 1 then M 19 u (k + 1) else M 19 u k) : QM M' u (W1 ++ W2) := by
  intro p hp
  have hW : ∀ p, Wp M' u (W1 ++ W2) p = Wp M u W1 p ++ Wp M u W2 p := by
    intro p
    rw [Wp_eq h21]
    exact List.filter_append _ _
  obtain ⟨h1, h2⟩ := h p hp
  have h1a := (h at9 ha).1
  have hla : (Wp M u (W1 ++ r :: W2) at9).length ≤ 12 := Nat.le_trans (List.length_filter_le _ _) hlen
  have hlp : (Wp M u (W1 ++ r :: W2) p).length ≤ 12 := Nat.le_trans (List.length_filter_le _ _) hlen
  rw [Wp_split] at h1 h2 h1a hla hlp
  rw [if_pos hat] at h1a hla
  rw [hW]
  by_cases e : p = at9
  · subst e
    rw [if_pos hat] at h1 h2 hlp
    rw [h18, if_pos rfl, h1]
    simp only [List.length_append, List.length_cons] at h1 hlp ⊢
    refine ⟨by omega, fun k x hk => ?_⟩
    have hlt := (List.getElem?_eq_some_iff.mp hk).1
    rw [List.length_append] at hlt
    rw [h19]
    by_cases q : k < (Wp M u W1 p).length
    · rw [if_neg (by omega)]
      rw [List.getElem?_append_left q] at hk
      exact h2 k x (by rw [List.getElem?_append_left q]; exact hk)
    · rw [if_pos (by omega)]
      rw [List.getElem?_append_right (by omega)] at hk
      have := h2 (k + 1) x (by rw [List.getElem?_append_right (by omega), show k + 1 - (Wp M u W1 p).length = (k - (Wp M u W1 p).length) + 1 by omega, List.getElem?_cons_succ]; exact hk)
      exact this
  · have e2 : ¬ M 21 u r = (p : Int) := by rw [hat]; omega
    rw [if_neg e2] at h1 h2 hlp
    rw [h18, if_neg e]
    refine ⟨h1, fun k x hk => ?_⟩
    have hlt := (List.getElem?_eq_some_iff.mp hk).1
    simp only [List.length_append, List.length_cons] at h1a hla hlp hlt
    rw [h19, if_neg (by omega)]
    exact h2 k x hk
theorem strikeM_at {M : zM} {u r w at9 : Nat} (hat : M 21 u r = (at9 : Int)) : (∀ p, strikeM M u (r : Int) w 18 u p = if p = at9 then M 18 u p - 1 else M 18 u p) ∧ (∀ k : Nat, strikeM M u (r : Int) w 19 u k = if 12 * at9 + w ≤ k ∧ (k : Int) < 12 * at9 + M 18 u at9 - 1 then M 19 u (k + 1) else M 19 u k) ∧ (∀ f, f ≠ 18 → f ≠ 19 → strikeM M u (r : Int) w f = M f) := by
  unfold strikeM
  simp only [Int.toNat_natCast]
  rw [hat, Int.toNat_natCast]
  refine ⟨fun p => ?_, fun k => ?_, fun f h8 h9 => ?_⟩
  · rw [shM_fr (by decide)]
    simp only [zup]
    by_cases e : p = at9
    · subst e; simp
    · simp [e]
  · simp only [shM, zup]
    by_cases q : 12 * at9 + w ≤ k ∧ (k : Int) < 12 * at9 + M 18 u at9 - 1
    · rw [if_pos q, if_pos (by simp; omega)]; simp
    · rw [if_neg q, if_neg (by simp; omega)]; simp
  · funext i k
    rw [shM_fr h9, zup_fr h8]
theorem firstM_at {M : zM} {a to w : Int} {l : Nat} (h : firstM M a to w = (l : Int)) : M 4 0 l = a := by
  unfold firstM at h
  split at h
  · rename_i q
    have e : zfst (firstP M a to w) (M 0 0 5).toNat = l := by omega
    rcases zfst_spec (firstP M a to w) (M 0 0 5).toNat with ⟨z1, -⟩ | ⟨-, z2, -⟩
    · omega
    · rw [e] at z2
      exact z2.1
  · omega
