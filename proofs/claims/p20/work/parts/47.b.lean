/-! the ways: the class's table is the model's -/
def Elig (M : zM) (to w : Int) (n : Nat) (q l : Nat) : Prop := M 4 0 l = (q : Int) ∧ w ≤ M 6 0 l ∧ Ds M to w n (M 5 0 l)
def FI (M : zM) (to w : Int) (k q : Nat) (v : Int) : Prop := (k = 0 → v = -1) ∧ ∀ k', k = k' + 1 → ∃ l : Nat, v = (l : Int) ∧ (l : Int) < M 0 0 5 ∧ Elig M to w k' q l ∧ ∀ l2, l2 < l → ¬ Elig M to w k' q l2
def BF (C M : zM) (i : Nat) (to w : Int) (n : Nat) : Prop := ∀ q : Nat, q < 8 → (C 10 i q = -1 ∧ C 11 i q = -1 ∧ ∀ k, k ≤ n → ¬ Wk M to w k (q : Int)) ∨ (∃ k : Nat, k ≤ n ∧ C 10 i q = (k : Int) ∧ Ds M to w k (q : Int) ∧ FI M to w k q (C 11 i q))
/-- what the ways of a line table want -/
def WS (C M : zM) : Prop := (∀ l : Nat, C 7 l 0 = M 4 0 l ∧ C 7 l 1 = M 5 0 l ∧ C 7 l 2 = M 6 0 l) ∧ C 1 0 5 = M 0 0 5 ∧ C 1 0 4 = M 0 0 1 ∧ M 0 0 1 ≤ 8 ∧ (∀ l : Nat, (l : Int) < M 0 0 5 → 0 ≤ M 4 0 l ∧ M 4 0 l < M 0 0 1) ∧ (∀ l : Nat, (l : Int) < M 0 0 5 → 0 ≤ M 5 0 l ∧ M 5 0 l < M 0 0 1)
theorem line_step {C0 M : zM} {i : Nat} {to w : Int} {n : Nat} (hW : WS C0 M) (h0 : BF C0 M i to w n) (m : Nat) (hm : (m : Int) ≤ M 0 0 5) :
    ∀ q : Nat, q < 8 → (C0 10 i q ≠ -1 → planL C0 i ((n : Int) + 1) w m 10 i q = C0 10 i q ∧ planL C0 i ((n : Int) + 1) w m 11 i q = C0 11 i q) ∧
      (C0 10 i q = -1 → (planL C0 i ((n : Int) + 1) w m 10 i q = -1 ∧ planL C0 i ((n : Int) + 1) w m 11 i q = -1 ∧ ∀ l, l < m → ¬ Elig M to w n q l) ∨ (planL C0 i ((n : Int) + 1) w m 10 i q = (n : Int) + 1 ∧ ∃ l : Nat, l < m ∧ planL C0 i ((n : Int) + 1) w m 11 i q = (l : Int) ∧ Elig M to w n q l ∧ ∀ l2, l2 < l → ¬ Elig M to w n q l2)) := by
  obtain ⟨v1, v2, v3, v4, v5, v6⟩ := hW
  induction m with
  | zero =>
    intro q hq
    refine ⟨fun _ => ⟨rfl, rfl⟩, fun h => Or.inl ⟨h, ?_, fun l hl => absurd hl (Nat.not_lt_zero l)⟩⟩
    rcases h0 q hq with ⟨-, g, -⟩ | ⟨k, -, g, -⟩
    · exact g
    · omega
  | succ m ih =>
    have i1 := ih (by omega)
    obtain ⟨t0, ht0⟩ : ∃ t0 : Nat, M 4 0 m = (t0 : Int) := ⟨(M 4 0 m).toNat, by have := v5 m (by omega); omega⟩
    obtain ⟨b0, hb0⟩ : ∃ b0 : Nat, M 5 0 m = (b0 : Int) := ⟨(M 5 0 m).toNat, by have := v6 m (by omega); omega⟩
    have ht8 : t0 < 8 := by have := v5 m (by omega); omega
    have hb8 : b0 < 8 := by have := v6 m (by omega); omega
    have e7 : planL C0 i ((n : Int) + 1) w m 7 = C0 7 := planL_fr (by decide)
    have es : planL C0 i ((n : Int) + 1) w (m + 1) = extendC (planL C0 i ((n : Int) + 1) w m) i m (m : Int) ((n : Int) + 1) w := rfl
    have hlf : linesFromC (planL C0 i ((n : Int) + 1) w m) i (M 5 0 m) = (n : Int) + 1 - 1 ↔ Ds M to w n (M 5 0 m) := by
      unfold linesFromC
      rw [hb0, if_pos (by omega), Int.toNat_natCast]
      obtain ⟨j1, j2⟩ := i1 b0 hb8
      rcases h0 b0 hb8 with ⟨g1, g2, g3⟩ | ⟨k, g1, g2, g3, g4⟩
      · refine ⟨fun z => ?_, fun z => absurd z.1 (g3 n (Nat.le_refl n))⟩
        rcases j2 g1 with ⟨y, -⟩ | ⟨y, -⟩
        · omega
        · omega
      · rw [(j1 (by omega)).1, g2]
        refine ⟨fun z => ?_, fun z => ?_⟩
        · rw [show n = k by omega]; exact g3
        · have := z.uniq g3; omega
    have hE : extendC (planL C0 i ((n : Int) + 1) w m) i m (m : Int) ((n : Int) + 1) w = if planL C0 i ((n : Int) + 1) w m 10 i t0 = -1 ∧ w ≤ M 6 0 m ∧ linesFromC (planL C0 i ((n : Int) + 1) w m) i (M 5 0 m) = (n : Int) + 1 - 1 then zup (zup (planL C0 i ((n : Int) + 1) w m) 10 i t0 ((n : Int) + 1)) 11 i t0 (m : Int) else planL C0 i ((n : Int) + 1) w m := by
      unfold extendC
      rw [e7, (v1 m).1, (v1 m).2.1, (v1 m).2.2, ht0, if_pos (by omega), Int.toNat_natCast]
      by_cases y1 : planL C0 i ((n : Int) + 1) w m 10 i t0 = -1
      · rw [if_pos y1]
        by_cases y2 : w ≤ M 6 0 m
        · rw [if_pos y2]
          by_cases y3 : linesFromC (planL C0 i ((n : Int) + 1) w m) i (M 5 0 m) = (n : Int) + 1 - 1
          · rw [if_pos y3, if_pos (And.intro y1 (And.intro y2 y3))]
          · rw [if_neg y3, if_neg (fun z => y3 z.2.2)]
        · rw [if_neg y2, if_neg (fun z => y2 z.2.1)]
      · rw [if_neg y1, if_neg (fun z => y1 z.1)]
    intro q hq
    obtain ⟨j1, j2⟩ := i1 q hq
    rw [es, hE]
    by_cases c : planL C0 i ((n : Int) + 1) w m 10 i t0 = -1 ∧ w ≤ M 6 0 m ∧ linesFromC (planL C0 i ((n : Int) + 1) w m) i (M 5 0 m) = (n : Int) + 1 - 1
    · rw [if_pos c]
      have hel : Elig M to w n t0 m := ⟨ht0, c.2.1, hlf.mp c.2.2⟩
      by_cases e : q = t0
      · subst e
        refine ⟨fun z => absurd ((j1 z).1.symm.trans c.1) z, fun z => ?_⟩
        rcases j2 z with ⟨y1, y2, y3⟩ | ⟨y1, -⟩
        · refine Or.inr ⟨by simp [zup], m, by omega, by simp [zup], hel, y3⟩
        · rw [y1] at c; omega
      · have hne : ¬ Elig M to w n q m := fun z => e (by have := z.1; omega)
        have r10 : zup (zup (planL C0 i ((n : Int) + 1) w m) 10 i t0 ((n : Int) + 1)) 11 i t0 (m : Int) 10 i q = planL C0 i ((n : Int) + 1) w m 10 i q := by simp [zup, e]
        have r11 : zup (zup (planL C0 i ((n : Int) + 1) w m) 10 i t0 ((n : Int) + 1)) 11 i t0 (m : Int) 11 i q = planL C0 i ((n : Int) + 1) w m 11 i q := by simp [zup, e]
        rw [r10, r11]
        refine ⟨j1, fun z => ?_⟩
        rcases j2 z with ⟨y1, y2, y3⟩ | ⟨y1, l, y2, y3⟩
        · refine Or.inl ⟨y1, y2, fun l hl => ?_⟩
          by_cases e9 : l = m
          · subst e9; exact hne
          · exact y3 l (by omega)
        · exact Or.inr ⟨y1, l, by omega, y3⟩
    · rw [if_neg c]
      refine ⟨j1, fun z => ?_⟩
      rcases j2 z with ⟨y1, y2, y3⟩ | ⟨y1, l, y2, y3⟩
      · refine Or.inl ⟨y1, y2, fun l hl => ?_⟩
        by_cases e9 : l = m
        · subst e9
          intro y
          have e : t0 = q := by have := y.1; omega
          subst e
          exact c ⟨y1, y.2.1, hlf.mpr y.2.2⟩
        · exact y3 l (by omega)
      · exact Or.inr ⟨y1, l, by omega, y3⟩
theorem round_step {C0 M : zM} {i : Nat} {to w : Int} {n : Nat} (hW : WS C0 M) (h0 : BF C0 M i to w n) (h5 : 0 ≤ M 0 0 5) : BF (planL C0 i ((n : Int) + 1) w (M 0 0 5).toNat) M i to w (n + 1) := by
  intro q hq
  obtain ⟨j1, j2⟩ := line_step hW h0 (M 0 0 5).toNat (by omega) q hq
  rcases h0 q hq with ⟨g1, g2, g3⟩ | ⟨k, g1, g2, g3, g4⟩
  · rcases j2 g1 with ⟨y1, y2, y3⟩ | ⟨y1, l, y2, y3, y4, y5⟩
    · refine Or.inl ⟨y1, y2, fun k hk hw => ?_⟩
      by_cases e : k = n + 1
      · subst e
        obtain ⟨l, w1, w2, w3, w4⟩ := hw
        exact y3 l (by omega) ⟨w2, w3, w4, fun j hj hwj => g3 (j + 1) (by omega) ⟨l, w1, w2, w3, hwj⟩⟩
      · exact g3 k (by omega) hw
    · refine Or.inr ⟨n + 1, Nat.le_refl _, by rw [y1]; omega, ⟨⟨l, by omega, y4.1, y4.2.1, y4.2.2.1⟩, fun j hj => g3 j (by omega)⟩, fun z => absurd z (by omega), fun k' hk' => ?_⟩
      have : k' = n := by omega
      subst this
      exact ⟨l, y3, by omega, y4, y5⟩
  · obtain ⟨e1, e2⟩ := j1 (by omega)
    exact Or.inr ⟨k, by omega, by rw [e1]; exact g2, g3, by rw [e2]; exact g4⟩
theorem planI_at {C : zM} {i : Nat} {g : Int} {n q : Nat} (hq : q < n) : planI C i g n 10 i q = (if (q : Int) = g then 0 else -1) ∧ planI C i g n 11 i q = -1 := by
  induction n with
  | zero => omega
  | succ n ih =>
    have e : planI C i g (n + 1) = planIS i g n (planI C i g n) := rfl
    rw [e]
    unfold planIS
    by_cases y : q = n
    · subst y; simp [zup]
    · obtain ⟨h1, h2⟩ := ih (by omega)
      simp [zup, y]
      exact ⟨h1, h2⟩
theorem plan_BF {C M : zM} {i : Nat} {g w : Int} (hW : WS C M) (h5 : 0 ≤ M 0 0 5) (n : Nat) : BF (planF (planI C i g 8) i w (M 0 0 5).toNat n) M i g w n := by
  induction n with
  | zero =>
    intro q hq
    obtain ⟨h1, h2⟩ := planI_at (C := C) (i := i) (g := g) hq
    have e : planF (planI C i g 8) i w (M 0 0 5).toNat 0 = planI C i g 8 := rfl
    rw [e, h1, h2]
    by_cases y : (q : Int) = g
    · rw [if_pos y]
      exact Or.inr ⟨0, Nat.le_refl 0, rfl, ⟨y, fun j hj => absurd hj (Nat.not_lt_zero j)⟩, fun _ => rfl, fun k' hk' => by omega⟩
    · rw [if_neg y]
      refine Or.inl ⟨rfl, rfl, fun k hk hw => ?_⟩
      have : k = 0 := by omega
      subst this
      exact y hw
  | succ n ih =>
    have e : planF (planI C i g 8) i w (M 0 0 5).toNat (n + 1) = planL (planF (planI C i g 8) i w (M 0 0 5).toNat n) i ((n : Int) + 1) w (M 0 0 5).toNat := rfl
    rw [e]
    refine round_step ?_ ih h5
    unfold WS at hW ⊢
    rw [planF_fr (show ¬ (7 = 10 ∨ 7 = 11) by decide), planI_fr (show ¬ (7 = 10 ∨ 7 = 11) by decide), planF_fr (show ¬ (1 = 10 ∨ 1 = 11) by decide), planI_fr (show ¬ (1 = 10 ∨ 1 = 11) by decide)]
    exact hW
/-- the class's table of ways is the model's -/
theorem planC_is {C M : zM} {i : Nat} {g w : Int} (hW : WS C M) (h5 : 0 ≤ M 0 0 5) (hg : 0 ≤ g ∧ g < M 0 0 1) {q : Nat} (hq : q < 8) : planC C i g w 10 i q = fewM M (q : Int) g w ∧ planC C i g w 11 i q = firstM M (q : Int) g w := by
  have hW9 := hW
  obtain ⟨v1, v2, v3, v4, v5, v6⟩ := hW9
  have h := plan_BF (i := i) (g := g) (w := w) hW h5 ((M 0 0 1) - 1).toNat q hq
  have e : planC C i g w = planF (planI C i g 8) i w (M 0 0 5).toNat ((M 0 0 1) - 1).toNat := by unfold planC; rw [v2, v3]
  rw [e]
  have few_of : ∀ (k : Nat) (a : Int), k < 61 → Ds M g w k a → fewM M a g w = (k : Int) := fun k a hk hd => by
    rcases fewN_is M g w 61 a with ⟨-, z⟩ | ⟨m, z1, z2, z3⟩
    · exact absurd hd.1 (z k hk)
    · unfold fewM
      rw [z2, hd.uniq z3]
  rcases h with ⟨g1, g2, g3⟩ | ⟨k, g1, g2, g3, g4⟩
  · have hf : fewM M (q : Int) g w = -1 := by
      rcases fewN_is M g w 61 (q : Int) with ⟨z, -⟩ | ⟨m, z1, z2, z3⟩
      · exact z
      · have := z3.le hg v5
        exact absurd z3.1 (g3 m (by omega))
    refine ⟨by rw [g1, hf], ?_⟩
    unfold firstM
    rw [g2, if_neg (by omega)]
  · have hf := few_of k _ (by omega) g3
    refine ⟨by rw [g2, hf], ?_⟩
    cases k with
    | zero =>
      unfold firstM
      rw [g4.1 rfl, if_neg (by omega)]
    | succ k =>
      obtain ⟨l, y1, y2, y3, y4⟩ := g4.2 k rfl
      have hiff : ∀ l : Nat, (l : Int) < M 0 0 5 → (firstP M (q : Int) g w l ↔ Elig M g w k q l) := by
        intro l hl
        show (M 4 0 l = (q : Int) ∧ w ≤ M 6 0 l ∧ fewM M (M 5 0 l) g w = fewM M (q : Int) g w - 1) ↔ _
        rw [hf]
        refine ⟨fun z => ⟨z.1, z.2.1, ?_⟩, fun z => ⟨z.1, z.2.1, ?_⟩⟩
        · rcases fewN_is M g w 61 (M 5 0 l) with ⟨x, -⟩ | ⟨m, x1, x2, x3⟩
          · have := z.2.2
            unfold fewM at this
            omega
          · have := z.2.2
            unfold fewM at this
            rw [show k = m by omega]
            exact x3
        · rw [few_of k _ (by omega) z.2.2]; omega
      have hz : zfst (firstP M (q : Int) g w) (M 0 0 5).toNat = l := zfst_found (fun l2 hl2 z => y4 l2 hl2 ((hiff l2 (by omega)).mp z)) ((hiff l y2).mpr y3) (by omega)
      unfold firstM
      rw [hz, if_pos (by omega), y1]
theorem planC_off {C : zM} {i i' f : Nat} {g w : Int} (h : i' ≠ i) : planC C i g w f i' = C f i' := by
  have e1 : ∀ n M, planI M i g n f i' = M f i' := fun n M => zit_off (fun j M => by
    unfold planIS
    rw [zup_off (by omega), zup_off (by omega)]) n M
  have e2 : ∀ (far : Int) n M, planL M i far w n f i' = M f i' := fun far n M => zit_off (fun j M => by
    unfold extendC
    repeat' split
    all_goals first | rfl | rw [zup_off (by omega), zup_off (by omega)]) n M
  have e3 : ∀ lc n M, planF M i w lc n f i' = M f i' := fun lc n M => zit_off (fun j M => e2 _ _ _) n M
  unfold planC
  rw [e3, e1]
