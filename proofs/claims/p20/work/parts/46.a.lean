/-! the trials: arrives, advise -/
theorem RZ.lo {C M C' M' : zM} (h : RZ C M) (hC : ∀ f i, Lo 1 f i → C' f i = C f i) (hM : ∀ f i, i ≠ 1 → M' f i = M f i) : RZ C' M' := by
  have e0 := hM 0 0 (by decide)
  refine ⟨fun l hl hl2 => ?_, fun r hr hr2 => ?_⟩
  · rw [e0] at hl
    rw [hC 17 (12 * 0 + l) (by unfold Lo; omega), hM 12 0 (by decide), hM 13 0 (by decide), hM 16 0 (by decide), hM 17 0 (by decide)]
    exact h.1 l hl hl2
  · rw [e0] at hr
    rw [hC 16 (12 * 0 + r) (by unfold Lo; omega), hM 23 0 (by decide)]
    exact h.2 r hr hr2
theorem arr_iter {C B : zM} {T U : Int} (hT : RT C B 1 1) (hS : RS C B) (hM : WTM T U B) {r : Nat} (hr : (r : Int) < B 0 0 10) (n : Nat) (h1 : T + n ≤ 1000000) (h2 : U + 48 * n ≤ 100000000) :
    RT (zit (fun _ M => if underP M (12 * 1 + r) then passC M 1 else M) n C) (arrMN B r n) 1 1 ∧ (∀ j, j < n → arrMN B r j 20 1 r < 2 → passOK (arrMN B r j) 1) := by
  induction n with
  | zero => exact ⟨hT, fun j hj => absurd hj (Nat.not_lt_zero j)⟩
  | succ n ih =>
    obtain ⟨i1, i2⟩ := ih (by omega) (by omega)
    have hwn := arrMN_wt hM n (by omega) (by omega) i2
    have hSn : RS (zit (fun _ M => if underP M (12 * 1 + r) then passC M 1 else M) n C) (arrMN B r n) := hS.eq (fun f hf => zit_fr (fun j M => by
      split
      · exact passC_fr (by omega)
      · rfl) n C) (fun f hf => arrMN_fr (by omega))
    have e0 : arrMN B r n 0 = B 0 := arrMN_fr (by decide)
    have hu : underP (zit (fun _ M => if underP M (12 * 1 + r) then passC M 1 else M) n C) (12 * 1 + r) ↔ arrMN B r n 20 1 r < 2 := by
      obtain ⟨W, SL, hG, hR⟩ := i1
      have h20 : 0 ≤ arrMN B r n 20 1 r ∧ arrMN B r n 20 1 r ≤ 3 := hwn.1 20 1 r
      have := (hG.2.2.1 r (by rw [e0]; exact hr)).1
      show (_ = 0 ∨ _ = 1) ↔ _
      rw [this]
      omega
    have hC : zit (fun _ M => if underP M (12 * 1 + r) then passC M 1 else M) (n + 1) C = if underP (zit (fun _ M => if underP M (12 * 1 + r) then passC M 1 else M) n C) (12 * 1 + r) then passC (zit (fun _ M => if underP M (12 * 1 + r) then passC M 1 else M) n C) 1 else zit (fun _ M => if underP M (12 * 1 + r) then passC M 1 else M) n C := rfl
    have hMs : arrMN B r (n + 1) = if arrMN B r n 20 1 r < 2 then passM (arrMN B r n) 1 else arrMN B r n := rfl
    obtain ⟨k1, k2, k3⟩ := pass_both i1 hSn hwn
    rw [hC, hMs]
    refine ⟨?_, fun j hj hj2 => ?_⟩
    · by_cases q : arrMN B r n 20 1 r < 2
      · rw [if_pos (hu.mpr q), if_pos q]; exact k1
      · rw [if_neg (fun z => q (hu.mp z)), if_neg q]; exact i1
    · by_cases e : j = n
      · subst e; exact k2
      · exact i2 j (by omega) hj2
theorem arrN_lo {C : zM} {r n f i : Nat} (h : Lo 1 f i) : arrN C r n f i = C f i := by
  unfold arrN
  rw [zit_off (fun j M => by
    split
    · exact passC_lo h
    · rfl) n]
  exact copyC_lo h
theorem arrMN_off {B : zM} {r n f i : Nat} (h : i ≠ 1) : arrMN B r n f i = B f i := zit_off (fun j M => by
  split
  · exact passM_off h
  · rfl) n B
theorem ahead_RT {n : Nat} {C M : zM} (h : zRel n C M) (hn : n < 512) : RT (copyC C 1 0) (aheadM M) 1 1 ∧ RS (copyC C 1 0) (aheadM M) ∧ WTM (400 * n) (20000 * n) (aheadM M) := by
  obtain ⟨hS, hT, hZ, hwM, hwC⟩ := h.Z hn
  exact ⟨hT.copy hS hwM.sb (fun l => (hwM.1 13 0 l).2), hS.eq (fun f hf => copyC_fr (by omega)) (fun f hf => becomeM_fr (by omega)), becomeM_wt hwM 1 0⟩
theorem zst_arrives : zSt_arrives zRel := by
  intro n C M h hn a1 _
  obtain ⟨hS, hT, hZ, hwM, hwC⟩ := h.Z hn
  obtain ⟨hT1, hS1, hw1⟩ := ahead_RT h hn
  obtain ⟨k1, k2, k3⟩ := kArr_eq h.2.1.1.2.2 a1
  have e0 : arrFM M a1 0 0 0 = kArrM M a1 := by
    unfold arrFM
    split
    · rename_i q
      rw [arrMN_fr (by decide), aheadM, becomeM_fr (by omega), z000, q]
    · exact thM_0 _ _
  have key : 0 ≤ a1 ∧ a1 ≤ M 0 0 10 - 1 → ((a1.toNat : Nat) : Int) < aheadM M 0 0 10 := fun q => by rw [aheadM_10]; omega
  have hk9 : kArrM M a1 = 0 → 0 ≤ a1 ∧ a1 ≤ M 0 0 10 - 1 := fun hk => by
    unfold kArrM at hk
    split at hk
    · assumption
    · exact absurd hk (by decide)
  refine ⟨fun b1 b2 j hj hj2 => (arr_iter hT1 hS1 hw1 (key ⟨b1, b2⟩) 200 (by omega) (by omega)).2 j hj hj2, by rw [k1, e0], fun hk => ?_, ?_⟩
  · rw [k1] at hk
    refine ⟨k2.mp hk, ?_⟩
    have hr := key (hk9 hk)
    obtain ⟨p1, p2⟩ := arr_iter hT1 hS1 hw1 hr 200 (by omega) (by omega)
    unfold arrFR
    rw [if_pos hk]
    obtain ⟨W, SL, hG, hR⟩ := p1
    have e9 : arrMN (aheadM M) a1.toNat 200 0 = aheadM M 0 := arrMN_fr (by decide)
    exact (hG.2.2.1 a1.toNat (by rw [e9]; exact hr)).2.2.1
  · unfold arrFM
    by_cases hk : kArrM M a1 = 0
    · rw [if_pos (k2.mp hk), if_pos hk]
      have hr := key (hk9 hk)
      obtain ⟨p1, p2⟩ := arr_iter hT1 hS1 hw1 hr 200 (by omega) (by omega)
      have hM : ∀ f i, i ≠ 1 → arrMN (aheadM M) a1.toNat 200 f i = zup M 0 0 0 0 f i := fun f i hi => by rw [arrMN_off hi, aheadM, becomeM_off hi]
      refine ⟨fun _ => ⟨?_, ?_⟩, ?_, hT.lo hwM.sb (fun f i hf => arrN_lo hf) hM, hZ.lo (fun f i hf => arrN_lo hf) hM⟩
      · exact (arrN_wt hwC 200 (by omega) (by omega)).mono (by omega) (by omega) (by omega) (by omega)
      · exact (arrMN_wt hw1 200 (by omega) (by omega) p2).mono (by omega) (by omega) (by omega) (by omega)
      · exact hS.eq (fun f hf => arrN_fr (by omega)) (fun f hf => by rw [arrMN_fr (by omega), aheadM, becomeM_fr (by omega)])
    · rw [if_neg (fun z => hk (k2.mpr z)), if_neg hk]
      exact (h.th k3).next
