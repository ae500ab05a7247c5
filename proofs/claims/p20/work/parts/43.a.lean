theorem QM.eq {M M' : zM} {u : Nat} {W : List Nat} (h : QM M u W) (h18 : M' 18 = M 18) (h19 : M' 19 = M 19) (h21 : ∀ x, x ∈ W → M' 21 u x = M 21 u x) : QM M' u W := by
  intro p hp
  rw [Wp_eq h21, h18, h19]
  exact h p hp
theorem strW_is {M : zM} {u : Nat} {V1 V2 : List Nat} {r at9 : Nat} (h : QM M u (V1 ++ r :: V2)) (hnd : (V1 ++ r :: V2).Nodup) (hlen : (V1 ++ r :: V2).length ≤ 12) (hat : M 21 u r = (at9 : Int)) (ha : at9 < 8) : strW M u r = (Wp M u V1 at9).length ∧ strikeOK M u r := by
  obtain ⟨h1, h2⟩ := h at9 ha
  have hla : (Wp M u (V1 ++ r :: V2) at9).length ≤ 12 := Nat.le_trans (List.length_filter_le _ _) hlen
  have h1' := h1
  rw [Wp_split, if_pos hat] at h1' h2 hla
  rw [List.length_append, List.length_cons] at h1' hla
  have e : strW M u r = (Wp M u V1 at9).length := by
    unfold strW
    rw [hat, Int.toNat_natCast]
    refine zfst_found (fun k hk z => ?_) ?_ (by omega)
    · have h3 := h2 k (Wp M u V1 at9)[k] (by rw [List.getElem?_append_left hk, List.getElem?_eq_getElem hk])
      rw [h3] at z
      have hm := (List.mem_filter.mp (List.getElem_mem hk)).1
      rw [show (Wp M u V1 at9)[k] = r by omega] at hm
      rw [List.nodup_append] at hnd
      exact hnd.2.2 r hm r (by simp) rfl
    · exact h2 _ r (by simp)
  refine ⟨e, ?_⟩
  unfold strikeOK
  rw [e, hat, Int.toNat_natCast]
  exact ⟨⟨by omega, by omega⟩, by omega, by omega⟩
set_option maxHeartbeats 1000000 in
theorem tiresM_is {M : zM} {u : Nat} {W : List Nat} (hQ : QM M u W) (hnd : W.Nodup) (hlen : W.length ≤ 12) (hmem : ∀ r : Nat, r ∈ W ↔ (r : Int) < M 0 0 10 ∧ M 20 u r = 0) (h21 : ∀ r, r ∈ W → 0 ≤ M 21 u r ∧ M 21 u r < 8) (n : Nat) (hn : (n : Int) ≤ M 0 0 10) :
    QM (tiresM M u n) u (W.filter (fun x => decide (n ≤ x ∨ KP M u x))) ∧
    (∀ r, n ≤ r ∨ r ∉ W → tiresM M u n 20 u r = M 20 u r ∧ tiresM M u n 22 u r = M 22 u r) ∧
    (∀ r, r < n → r ∈ W → KP M u r → tiresM M u n 20 u r = 0 ∧ tiresM M u n 22 u r = M 22 u r + 1) ∧
    (∀ r, r < n → r ∈ W → ¬ KP M u r → tiresM M u n 20 u r = 3) ∧
    (∀ r, r < n → tiresM M u r 20 u r = 0 → strikeOK (tiresM M u r) u r) := by
  induction n with
  | zero =>
    refine ⟨?_, fun r _ => ⟨rfl, rfl⟩, fun r hr => absurd hr (Nat.not_lt_zero r), fun r hr => absurd hr (Nat.not_lt_zero r), fun r hr => absurd hr (Nat.not_lt_zero r)⟩
    rw [List.filter_eq_self.mpr (fun x _ => by simp)]
    exact hQ
  | succ n ih =>
    obtain ⟨i1, i2, i3, i4, i5⟩ := ih (by omega)
    obtain ⟨j20, j22⟩ := i2 n (Or.inl (Nat.le_refl n))
    have e0 : tiresM M u n 0 = M 0 := tiresM_fr (by decide)
    have e8 : tiresM M u n 8 = M 8 := tiresM_fr (by decide)
    have e9 : tiresM M u n 9 = M 9 := tiresM_fr (by decide)
    have e10 : tiresM M u n 10 = M 10 := tiresM_fr (by decide)
    have e21 : tiresM M u n 21 = M 21 := tiresM_fr (by decide)
    have es : tiresM M u (n + 1) = tireSM u n (tiresM M u n) := rfl
    have hfew : fewN (tiresM M u n) (M 10 0 n) (M 8 0 n) 61 (M 21 u n) = fewM M (M 21 u n) (M 10 0 n) (M 8 0 n) := fewN_eq (by rw [e0]) (fun f _ _ => tiresM_fr (by omega)) _ _ _ _
    by_cases hW : n ∈ W
    · have hw0 := ((hmem n).mp hW).2
      have hst : strikeOK (tiresM M u n) u n ∧ ∃ V1 V2 at9, W.filter (fun x => decide (n ≤ x ∨ KP M u x)) = V1 ++ n :: V2 ∧ M 21 u n = ((at9 : Nat) : Int) ∧ at9 < 8 ∧ strW (tiresM M u n) u n = (Wp (tiresM M u n) u V1 at9).length := by
        have hm : n ∈ W.filter (fun x => decide (n ≤ x ∨ KP M u x)) := List.mem_filter.mpr ⟨hW, by simp⟩
        obtain ⟨V1, V2, hV⟩ := List.append_of_mem hm
        have h2 := h21 n hW
        obtain ⟨at9, hat⟩ : ∃ at9 : Nat, M 21 u n = (at9 : Int) := ⟨(M 21 u n).toNat, by omega⟩
        have hVn : (V1 ++ n :: V2).Nodup := hV ▸ hnd.sublist List.filter_sublist
        have hVl : (V1 ++ n :: V2).length ≤ 12 := hV ▸ Nat.le_trans (List.length_filter_le _ _) hlen
        obtain ⟨z1, z2⟩ := strW_is (hV ▸ i1) hVn hVl (by rw [e21]; exact hat) (by omega : at9 < 8)
        exact ⟨z2, V1, V2, at9, hV, hat, by omega, z1⟩
      obtain ⟨hsOK, V1, V2, at9, hV, hat, ha8, hsw⟩ := hst
      have i5' : ∀ r, r < n + 1 → tiresM M u r 20 u r = 0 → strikeOK (tiresM M u r) u r := fun r hr z => by
        by_cases e : r = n
        · subst e; exact hsOK
        · exact i5 r (by omega) z
      by_cases hk : KP M u n
      · have eT : tireSM u n (tiresM M u n) = zup (tiresM M u n) 22 u n (M 22 u n + 1) := by
          unfold tireSM
          rw [j20, hw0, if_pos rfl, e10, e8, e21, hfew, if_neg hk.1, j22, e9, if_pos hk.2]
        rw [es, eT]
        refine ⟨?_, fun r hr => ?_, fun r hr hrW hkr => ?_, fun r hr hrW hkr => ?_, i5'⟩
        · have ef : W.filter (fun x => decide (n + 1 ≤ x ∨ KP M u x)) = W.filter (fun x => decide (n ≤ x ∨ KP M u x)) := List.filter_congr (fun x _ => decide_eq_decide.mpr ⟨fun z => z.elim (fun y => Or.inl (by omega)) Or.inr, fun z => z.elim (fun y => by
            by_cases e : x = n
            · exact Or.inr (e ▸ hk)
            · exact Or.inl (by omega)) Or.inr⟩)
          rw [ef]
          exact i1.eq (zup_fr (by decide)) (zup_fr (by decide)) (fun x _ => by rw [zup_fr (by decide)])
        · have e : r ≠ n := fun e => hr.elim (fun z => by omega) (fun z => z (e ▸ hW))
          have := i2 r (hr.elim (fun z => Or.inl (by omega)) Or.inr)
          simp [zup, e]
          exact this
        · by_cases e : r = n
          · subst e; simp [zup, j20, hw0]
          · simp [zup, e]
            exact i3 r (by omega) hrW hkr
        · by_cases e : r = n
          · subst e; exact absurd hk hkr
          · simp [zup, e]
            exact i4 r (by omega) hrW hkr
      · have eT : tireSM u n (tiresM M u n) = zup (strikeM (zup (tiresM M u n) 22 u n (M 22 u n + 1)) u n (strW (tiresM M u n) u n)) 20 u n 3 := by
          unfold tireSM
          rw [j20, hw0, if_pos rfl, e10, e8, e21, hfew, j22, e9]
          by_cases q : fewM M (M 21 u n) (M 10 0 n) (M 8 0 n) = -1
          · rw [if_pos q]
          · rw [if_neg q, if_neg (fun z => hk ⟨q, z⟩)]
        rw [es, eT, hsw]
        have hat2 : zup (tiresM M u n) 22 u n (M 22 u n + 1) 21 u n = (at9 : Int) := by rw [zup_fr (by decide), e21]; exact hat
        obtain ⟨s1, s2, s3⟩ := strikeM_at (w := (Wp (tiresM M u n) u V1 at9).length) hat2
        rw [zup_fr (show 18 ≠ 22 by decide)] at s1 s2
        rw [zup_fr (show 19 ≠ 22 by decide)] at s2
        refine ⟨?_, fun r hr => ?_, fun r hr hrW hkr => ?_, fun r hr hrW hkr => ?_, i5'⟩
        · have hVn : (V1 ++ n :: V2).Nodup := hV ▸ hnd.sublist List.filter_sublist
          have hVl : (V1 ++ n :: V2).length ≤ 12 := hV ▸ Nat.le_trans (List.length_filter_le _ _) hlen
          have hn12 : n ∉ V1 ++ V2 := (List.nodup_cons.mp ((List.perm_middle.nodup_iff).mp hVn)).1
          have ef : W.filter (fun x => decide (n + 1 ≤ x ∨ KP M u x)) = V1 ++ V2 := by
            have e1 : W.filter (fun x => decide (n + 1 ≤ x ∨ KP M u x)) = (W.filter (fun x => decide (n ≤ x ∨ KP M u x))).filter (fun x => decide (x ≠ n)) := by
              rw [List.filter_filter]
              refine List.filter_congr (fun x _ => ?_)
              rw [← Bool.decide_and]
              refine decide_eq_decide.mpr ⟨fun z => ⟨?_, z.elim (fun y => Or.inl (by omega)) Or.inr⟩, fun z => z.2.elim (fun y => Or.inl (by have := z.1; omega)) Or.inr⟩
              exact z.elim (fun y => by omega) (fun y e => hk (e ▸ y))
            rw [e1, hV, List.filter_append, List.filter_cons_of_neg (by simp)]
            have y1 : V1.filter (fun x => decide (x ≠ n)) = V1 := List.filter_eq_self.mpr (fun x hx => decide_eq_true (fun e : x = n => hn12 (e ▸ List.mem_append_left _ hx)))
            have y2 : V2.filter (fun x => decide (x ≠ n)) = V2 := List.filter_eq_self.mpr (fun x hx => decide_eq_true (fun e : x = n => hn12 (e ▸ List.mem_append_right _ hx)))
            rw [y1, y2]
          rw [ef]
          rw [hV] at i1
          refine i1.strike (at9 := at9) hVl (by rw [e21]; exact hat) ha8 (fun x hx => ?_) (fun p => ?_) (fun k => ?_)
          · rw [zup_fr (by decide), s3 _ (by decide) (by decide), zup_fr (by decide)]
          · rw [zup_fr (by decide)]; exact s1 p
          · rw [zup_fr (by decide)]; exact s2 k
        · have e : r ≠ n := fun e => hr.elim (fun z => by omega) (fun z => z (e ▸ hW))
          have := i2 r (hr.elim (fun z => Or.inl (by omega)) Or.inr)
          simp [zup, e, s3 20 (by decide) (by decide), s3 22 (by decide) (by decide)]
          exact this
        · by_cases e : r = n
          · subst e; exact absurd hkr hk
          · simp [zup, e, s3 20 (by decide) (by decide), s3 22 (by decide) (by decide)]
            exact i3 r (by omega) hrW hkr
        · by_cases e : r = n
          · subst e; simp [zup]
          · simp [zup, e, s3 20 (by decide) (by decide)]
            exact i4 r (by omega) hrW hkr
    · have hne : M 20 u n ≠ 0 := fun z => hW ((hmem n).mpr ⟨by omega, z⟩)
      have eT : tireSM u n (tiresM M u n) = tiresM M u n := by
        unfold tireSM
        rw [j20, if_neg hne]
      rw [es, eT]
      refine ⟨?_, fun r hr => i2 r (hr.elim (fun z => Or.inl (by omega)) Or.inr), fun r hr hrW hkr => ?_, fun r hr hrW hkr => ?_, fun r hr z => ?_⟩
      · have ef : W.filter (fun x => decide (n + 1 ≤ x ∨ KP M u x)) = W.filter (fun x => decide (n ≤ x ∨ KP M u x)) := List.filter_congr (fun x hx => decide_eq_decide.mpr ⟨fun z => z.elim (fun y => Or.inl (by omega)) Or.inr, fun z => z.elim (fun y => by
          have e : x ≠ n := fun e => hW (e ▸ hx)
          exact Or.inl (by omega)) Or.inr⟩)
        rw [ef]
        exact i1
      · have e : r ≠ n := fun e => hW (e ▸ hrW)
        exact i3 r (by omega) hrW hkr
      · have e : r ≠ n := fun e => hW (e ▸ hrW)
        exact i4 r (by omega) hrW hkr
      · by_cases e : r = n
        · subst e; rw [j20] at z; exact absurd z hne
        · exact i5 r (by omega) z
