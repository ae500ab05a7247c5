theorem RL9.same {C M C' M' : zM} {t u : Nat} {SL : Nat → List (Int × Int)} (h : RL9 C M t u SL) (m0 : M' 0 = M 0) (h1 : ∀ r : Nat, (r : Int) < M 0 0 10 → (M' 20 u r = 1 ↔ M 20 u r = 1)) (h2 : ∀ r : Nat, (r : Int) < M 0 0 10 → M 20 u r = 1 → M' 21 u r = M 21 u r ∧ C' 16 (12 * t + r) 3 = C 16 (12 * t + r) 3) : RL9 C' M' t u SL := by
  obtain ⟨h5, h6, h7⟩ := h
  unfold RL9
  rw [m0]
  refine ⟨fun l hl a ha => ?_, h6, fun r hr hr1 => ?_⟩
  · obtain ⟨g1, g2⟩ := h5 l hl a ha
    refine ⟨g1, fun g3 => ?_⟩
    obtain ⟨k1, k2, k3, k4, k5⟩ := g2 g3
    have k9 : ((a.1.toNat : Nat) : Int) < M 0 0 10 := by omega
    obtain ⟨j1, j2⟩ := h2 _ k9 k3
    exact ⟨k1, k2, (h1 _ k9).mpr k3, j1.trans k4, j2.trans k5⟩
  · have k := (h1 r hr).mp hr1
    rw [(h2 r hr k).1]
    exact h7 r hr k
set_option maxHeartbeats 1000000 in
theorem tire_both {C M : zM} {t u : Nat} (hT : RT C M t u) (hS : RS C M) (hB : SB M) (h0 : 0 ≤ M 0 0 10) :
    RT (tireC C t) (tiresM M u (M 0 0 10).toNat) t u ∧ (∀ r, r < (M 0 0 10).toNat → tiresM M u r 20 u r = 0 → strikeOK (tiresM M u r) u r) ∧ FZ C (tireC C t) M (tiresM M u (M 0 0 10).toNat) t u (M 0 0 10) (M 0 0 5) := by
  obtain ⟨W, SL, ⟨q1, q2, q3, q4, q5⟩, hR⟩ := hT
  obtain ⟨w1, w2, w3, w4, w5⟩ := q4
  have hrc : (((M 0 0 10).toNat : Nat) : Int) = M 0 0 10 := Int.toNat_of_nonneg h0
  have h21 : ∀ r, r ∈ W → 0 ≤ M 21 u r ∧ M 21 u r < 8 := fun r hr => by
    have hrW := (w4 r).mp hr
    have := (q3 r hrW.1).2.2.2.1 hrW.2
    have := hB.1.2.1
    omega
  have hlen : W.length ≤ 12 := by
    have h1 := nodup_len (M 0 0 10).toNat W w3 (fun x hx => by have := ((w4 x).mp hx).1; omega)
    have := hB.1.1
    omega
  obtain ⟨t1, t2, t3, t4, t5⟩ := tiresM_is w5 w3 hlen w4 h21 (M 0 0 10).toNat (by omega)
  have hkp : ∀ r, r ∈ W → (¬ KP M u r ↔ (linesFromC C r (C 16 (12 * t + r) 1) = -1 ∨ C 8 r 3 ≤ C 16 (12 * t + r) 3 + 1)) := by
    intro r hr
    have hrW := (w4 r).mp hr
    have h9 := (q3 r hrW.1).2.2.2.1 hrW.2
    have h2 := h21 r hr
    obtain ⟨p, hp⟩ : ∃ p : Nat, M 21 u r = (p : Int) := ⟨(M 21 u r).toNat, by omega⟩
    have e1 : linesFromC C r (C 16 (12 * t + r) 1) = fewM M (M 21 u r) (M 10 0 r) (M 8 0 r) := by
      unfold linesFromC
      rw [h9.1, hp, if_pos (by omega), Int.toNat_natCast, (hS.2.2.2.2.2.2.2.1 r p hrW.1 (by omega)).1]
    rw [e1, (hS.2.2.2.2.1 r).2.2, h9.2.2.1]
    omega
  have e4 : (C 12 t 4).toNat = W.length := by rw [w1]; exact Int.toNat_natCast _
  obtain ⟨n1, n2, n3, n4, n5, n6⟩ := tireN_is (C := C) (t := t) (KP M u) W.length W rfl w2 w3 hkp
  have ef : W.filter (fun x => decide ((M 0 0 10).toNat ≤ x ∨ KP M u x)) = W.filter (fun x => decide (KP M u x)) := List.filter_congr (fun x hx => decide_eq_decide.mpr ⟨fun z => z.elim (fun y => by
    have := ((w4 x).mp hx).1
    omega) id, Or.inr⟩)
  rw [ef] at t1
  have c16 : tireC C t 16 = (tireN C t W.length).1 16 := by unfold tireC; rw [zup_fr (by decide), e4]
  have c15 : tireC C t 15 = (tireN C t W.length).1 15 := by unfold tireC; rw [zup_fr (by decide), e4]
  have c12 : tireC C t 12 t 4 = ((W.filter (fun x => decide (KP M u x))).length : Int) := by
    unfold tireC
    rw [e4, n1]
    simp [zup]
  have c17 : tireC C t 17 = C 17 := tireC_fr (by decide)
  have c18 : tireC C t 18 = C 18 := tireC_fr (by decide)
  have c19 : tireC C t 19 = C 19 := tireC_fr (by decide)
  have m0 : tiresM M u (M 0 0 10).toNat 0 = M 0 := tiresM_fr (by decide)
  have m10 : tiresM M u (M 0 0 10).toNat 10 = M 10 := tiresM_fr (by decide)
  have m11 : tiresM M u (M 0 0 10).toNat 11 = M 11 := tiresM_fr (by decide)
  have m12 : tiresM M u (M 0 0 10).toNat 12 = M 12 := tiresM_fr (by decide)
  have m13 : tiresM M u (M 0 0 10).toNat 13 = M 13 := tiresM_fr (by decide)
  have m14 : tiresM M u (M 0 0 10).toNat 14 = M 14 := tiresM_fr (by decide)
  have m15 : tiresM M u (M 0 0 10).toNat 15 = M 15 := tiresM_fr (by decide)
  have m16 : tiresM M u (M 0 0 10).toNat 16 = M 16 := tiresM_fr (by decide)
  have m17 : tiresM M u (M 0 0 10).toNat 17 = M 17 := tiresM_fr (by decide)
  have m21 : tiresM M u (M 0 0 10).toNat 21 = M 21 := tiresM_fr (by decide)
  have m23 : tiresM M u (M 0 0 10).toNat 23 = M 23 := tiresM_fr (by decide)
  have m24 : tiresM M u (M 0 0 10).toNat 24 = M 24 := tiresM_fr (by decide)
  refine ⟨⟨W.filter (fun x => decide (KP M u x)), SL, ⟨?_, fun l hl => ?_, fun r hr => ?_, ⟨c12, ?_, w3.sublist List.filter_sublist, fun r => ?_, t1⟩, ?_⟩, fun l hl => ?_⟩, t5, fun z hz => ⟨fun k => by rw [c16]; exact n4 z (fun q => by have := ((w4 z).mp q).1; omega) k, by rw [m23]⟩, fun l' hl' => ⟨fun k => by rw [c17], by rw [m13], by rw [m16], by rw [m17]⟩⟩
  · rw [tireC_min, m11]; exact q1
  · rw [m0] at hl
    have := q2 l hl
    unfold RC at this ⊢
    rw [c17, m12, m16, m17]
    exact this
  · rw [m0] at hr
    have h9 := q3 r hr
    by_cases hW : r ∈ W
    · have hrW := (w4 r).mp hW
      obtain ⟨b1, b2, b3, b4, -⟩ := h9
      obtain ⟨d1, d2, d3, d4, d5⟩ := b4 hrW.2
      by_cases hk : KP M u r
      · obtain ⟨x1, x2⟩ := n5 r hW hk
        obtain ⟨y1, y2⟩ := t3 r (by omega) hW hk
        unfold RR
        rw [c16, x1, x2 0 (by decide), x2 1 (by decide), x2 2 (by decide), x2 4 (by decide), x2 5 (by decide), y1, y2, m21, m23, m24, m0]
        exact ⟨b1.trans hrW.2, b2, b3, fun _ => ⟨d1, d2, by omega, d4, d5⟩, fun z => absurd z (by decide), fun z => absurd z (by decide), fun z => absurd z (by decide)⟩
      · obtain ⟨x1, x2, x3, x4⟩ := n6 r hW hk
        have y1 := t4 r (by omega) hW hk
        unfold RR
        rw [c16, x1, x2, x3, x4 2 (by decide) (by decide) (by decide), x4 4 (by decide) (by decide) (by decide), x4 5 (by decide) (by decide) (by decide), y1, m23, m24]
        exact ⟨rfl, b2, b3, fun z => absurd z (by decide), fun z => absurd z (by decide), fun z => absurd z (by decide), fun _ => ⟨rfl, d2, rfl⟩⟩
    · obtain ⟨y1, y2⟩ := t2 r (Or.inr hW)
      exact h9.eq (fun k => by rw [c16]; exact n4 r hW k) y1 (by rw [m21]) y2 (by rw [m23]) (by rw [m24]) (by rw [m0]) (by rw [m10])
  · rw [c15]; exact n2
  · rw [m0, List.mem_filter]
    by_cases hW : r ∈ W
    · have hrW := (w4 r).mp hW
      by_cases hk : KP M u r
      · exact ⟨fun _ => ⟨hrW.1, (t3 r (by omega) hW hk).1⟩, fun _ => ⟨hW, decide_eq_true hk⟩⟩
      · have := t4 r (by omega) hW hk
        exact ⟨fun z => absurd (of_decide_eq_true z.2) hk, fun z => absurd (this.symm.trans z.2) (by decide)⟩
    · rw [(t2 r (Or.inr hW)).1]
      exact ⟨fun z => absurd z.1 hW, fun z => absurd ((w4 r).mpr z) hW⟩
  · refine q5.same m0 (fun r hr => ?_) (fun r hr hr1 => ?_)
    · by_cases hW : r ∈ W
      · have hrW := (w4 r).mp hW
        by_cases hk : KP M u r
        · rw [(t3 r (by omega) hW hk).1, hrW.2]
        · rw [t4 r (by omega) hW hk, hrW.2]
          decide
      · rw [(t2 r (Or.inr hW)).1]
    · have hW : r ∉ W := fun z => by rw [((w4 r).mp z).2] at hr1; exact absurd hr1 (by decide)
      exact ⟨by rw [m21], by rw [c16]; exact n4 r hW 3⟩
  · rw [m0] at hl
    have h9 := hR l hl
    unfold repC repM at h9 ⊢
    rw [c17, c18, c19, m13, m14, m15]
    exact h9
/-- a minute in both -/
theorem pass_both {C M : zM} {t u : Nat} {T U : Int} (hT : RT C M t u) (hS : RS C M) (hw : WTM T U M) : RT (passC C t) (passM M u) t u ∧ passOK M u ∧ FZ C (passC C t) M (passM M u) t u (M 0 0 10) (M 0 0 5) := by
  have hB := hw.sb
  have h05 : 0 ≤ M 0 0 5 := (hw.1 0 0 5).1
  have h010 : 0 ≤ M 0 0 10 := (hw.1 0 0 10).1
  have hlc : (((M 0 0 5).toNat : Nat) : Int) = M 0 0 5 := Int.toNat_of_nonneg h05
  obtain ⟨a1, a2, a3, a4⟩ := roll_all hT hS hB.1.1 hB.1.2.1 (fun l => (hB.2.1 l).1) (fun l' _ => (hw.1 13 u l').2) (M 0 0 5).toNat (by omega)
  have r0 : rolled M u 0 = M 0 := rolled_fr (by decide)
  have r12 : rolled M u 12 = M 12 := rolled_fr (by decide)
  obtain ⟨b1, b2, b3, b4⟩ := begin_all (M := rolled M u) a1 (hS.eq (fun f hf => movesN_fr (by omega)) (fun f hf => rolled_fr (by omega))) (hB.eq (fun f hf => rolled_fr (by omega))) (by rw [r0]; exact a3) (by rw [r12]; exact fun l' => (hw.1 12 u l').2) (M 0 0 5).toNat (by rw [r0]; omega)
  have g0 : begun M u 0 = M 0 := begun_fr (by decide)
  have g11 : tired M u 11 = M 11 := tired_fr (by decide)
  obtain ⟨c1, c2, c3⟩ := tire_both (M := begun M u) b1 (hS.eq (fun f hf => by rw [beginsN_fr (by omega), movesN_fr (by omega)]) (fun f hf => begun_fr (by omega))) (hB.eq (fun f hf => begun_fr (by omega))) (by rw [g0]; exact h010)
  rw [g0] at c1 c2 c3
  rw [r0] at b4
  have hlc2 : (C 1 0 5).toNat = (M 0 0 5).toNat := by rw [hS.1.2.1]
  have hfz : FZ C (passC C t) M (passM M u) t u (M 0 0 10) (M 0 0 5) := by
    refine (a4.trans (b4.trans c3)).trans ?_
    unfold passC passM
    rw [hlc2]
    exact ⟨fun z hz => ⟨fun k => by rw [zup_fr (by decide)], by rw [zup_fr (by decide)]; rfl⟩, fun l' hl' => ⟨fun k => by rw [zup_fr (by decide)], by rw [zup_fr (by decide)]; rfl, by rw [zup_fr (by decide)]; rfl, by rw [zup_fr (by decide)]; rfl⟩⟩
  refine ⟨?_, ⟨a2, fun l hl _ _ => b2 l hl, c2⟩, hfz⟩
  obtain ⟨W, SL, ⟨q1, q2, q3, q4, q5⟩, hR⟩ := c1
  have q0 : C 12 t 5 = M 11 u 0 := by obtain ⟨W', SL', h9, -⟩ := hT; exact h9.1
  unfold passC passM
  rw [hlc2]
  refine ⟨W, SL, ⟨?_, fun l hl => ?_, fun r hr => ?_, ?_, ?_⟩, fun l hl => ?_⟩
  · simp [zup, q0]
  · exact q2 l hl
  · exact (q3 r hr).eq (fun k => by rw [zup_fr (by decide)]) rfl rfl rfl rfl rfl rfl rfl
  · exact q4.eq (by simp [zup]) (zup_fr (by decide)) rfl (fun z _ => Iff.rfl) (fun z _ => rfl) rfl rfl
  · exact q5
  · exact hR l hl
