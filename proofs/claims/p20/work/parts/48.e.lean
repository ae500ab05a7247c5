/-! the model's queues have 8 counts; come; the start -/
theorem comeM_18 {M : zM} {u k : Nat} {r q : Int} (h : k ≠ q.toNat) : comeM M u r q 18 u k = M 18 u k := by
  unfold comeM
  split <;> simp [zup, h]
theorem strikeM_18 {M : zM} {u k w : Nat} {r : Int} (h : k ≠ (M 21 u r.toNat).toNat) : strikeM M u r w 18 u k = M 18 u k := by
  unfold strikeM
  rw [shM_fr (by decide)]
  simp [zup, h]
theorem rollM_18 {M : zM} {u k : Nat} {q : Int} (h5 : M 5 0 q.toNat ≤ 7) (hk : 8 ≤ k) : rollM M u q 18 u k = M 18 u k := by
  have e : ∀ n, (rollI M u q n).1 18 u k = M 18 u k := by
    intro n
    induction n with
    | zero => rfl
    | succ n ih =>
      have e5 : (rollI M u q n).1 5 = M 5 := rollI_fr (by decide)
      rw [rollI, rollS]
      split
      · split
        · simp only []
          rw [zup_fr (by decide), zup_fr (by decide)]
          exact ih
        · simp only []
          rw [zup_fr (by decide), zup_fr (by decide), zup_fr (by decide), zup_fr (by decide), comeM_18 (by rw [e5]; omega), zup_fr (by decide)]
          exact ih
      · simp only []
        rw [zup_fr (by decide), zup_fr (by decide), zup_fr (by decide)]
        exact ih
  exact e _
theorem beginM_18 {M : zM} {u k : Nat} {q : Int} (h4 : M 4 0 q.toNat ≤ 7) (hB : beginOK M u q) (hk : 8 ≤ k) : beginM M u q 18 u k = M 18 u k := by
  unfold beginM
  split
  · rename_i z
    unfold seatM seatM1
    rw [zup_fr (by decide), zup_fr (by decide), zup_fr (by decide), zup_fr (by decide), zup_fr (by decide), zup_fr (by decide), zup_fr (by decide), zup_fr (by decide), strikeM_18]
    rw [hB.1 _ (by omega)]
    omega
  · rfl
theorem passM_18 {M : zM} {u k : Nat} {T U : Int} (hw : WTM T U M) (hP : passOK M u) (hk : 8 ≤ k) : passM M u 18 u k = M 18 u k := by
  have e1 : ∀ n, rollsM M u n 18 u k = M 18 u k := by
    intro n
    induction n with
    | zero => rfl
    | succ n ih =>
      have e : rollsM M u (n + 1) = rollM (rollsM M u n) u n := rfl
      rw [e, rollM_18 _ hk, ih]
      rw [show rollsM M u n 5 = M 5 from rollsM_fr (by decide)]
      exact (hw.1 5 0 _).2
  have e2 : ∀ n, n ≤ (M 0 0 5).toNat → beginsM (rolled M u) u n 18 u k = rolled M u 18 u k := by
    intro n
    induction n with
    | zero => intro _; rfl
    | succ n ih =>
      intro hn
      have e : beginsM (rolled M u) u (n + 1) = beginSM u n (beginsM (rolled M u) u n) := rfl
      rw [e]
      unfold beginSM
      split
      · exact ih (by omega)
      · rename_i z1
        split
        · exact ih (by omega)
        · rename_i z2
          rw [beginM_18 _ (hP.2.1 n (by omega) z1 z2) hk, ih (by omega)]
          rw [show beginsM (rolled M u) u n 4 = M 4 from by rw [beginsM_fr (by decide), rolled_fr (by decide)]]
          exact (hw.1 4 0 _).2
  have e3 : ∀ n, n ≤ (M 0 0 10).toNat → tiresM (begun M u) u n 18 u k = begun M u 18 u k := by
    intro n
    induction n with
    | zero => intro _; rfl
    | succ n ih =>
      intro hn
      have e : tiresM (begun M u) u (n + 1) = tireSM u n (tiresM (begun M u) u n) := rfl
      have hst := hP.2.2 n (by omega)
      have hs : tiresM (begun M u) u n 20 u n = 0 → zup (strikeM (zup (tiresM (begun M u) u n) 22 u n (tiresM (begun M u) u n 22 u n + 1)) u n (strW (tiresM (begun M u) u n) u n)) 20 u n 3 18 u k = begun M u 18 u k := fun z => by
        have h9 := (hst z).1
        rw [zup_fr (by decide), strikeM_18, zup_fr (by decide), ih (by omega)]
        rw [zup_fr (by decide), Int.toNat_natCast]
        omega
      rw [e]
      unfold tireSM
      split
      · rename_i z
        split
        · exact hs z
        · split
          · rw [zup_fr (by decide)]; exact ih (by omega)
          · exact hs z
      · exact ih (by omega)
  unfold passM tired
  rw [zup_fr (by decide), e3 _ (Nat.le_refl _)]
  unfold begun
  rw [e2 _ (Nat.le_refl _)]
  exact e1 _
theorem passMN_18 {M : zM} {u k : Nat} {T U : Int} (hw : WTM T U M) (n : Nat) (h1 : T + n ≤ 1000000) (h2 : U + 48 * n ≤ 100000000) (hP : ∀ j, j < n → passOK (passMN M u j) u) (hk : 8 ≤ k) : passMN M u n 18 u k = M 18 u k := by
  induction n with
  | zero => rfl
  | succ n ih =>
    have e : passMN M u (n + 1) = passM (passMN M u n) u := rfl
    rw [e, passM_18 (passMN_wt hw n (by omega) (by omega) (fun j hj => hP j (by omega))) (hP n (by omega)) hk]
    exact ih (by omega) (by omega) (fun j hj => hP j (by omega))
theorem advMN_off {B : zM} {n : Int} {j f i : Nat} (h : i ≠ 1) : (advMN B n j).1 f i = B f i := by
  induction j with
  | zero => exact passMN_off h
  | succ j ih =>
    have e : advMN B n (j + 1) = advMS n j (advMN B n j) := rfl
    rw [e]
    unfold advMS
    split
    · exact ih
    · split
      · show passMN (moreM (advMN B n j).1 j) 1 n.toNat f i = _
        rw [passMN_off h, moreM, zup_off (by omega), becomeM_off h]; exact ih
      · show passMN (moreM (advMN B n j).1 j) 1 n.toNat f i = _
        rw [passMN_off h, moreM, zup_off (by omega), becomeM_off h]; exact ih
def zE (M : zM) : Prop := ∀ k, 8 ≤ k → M 18 0 k ≤ 11
theorem zE.of {M M' : zM} (h : zE M) (e : M' 18 0 = M 18 0) : zE M' := fun k hk => by rw [e]; exact h k hk
def zRel2 (n : Nat) (C M : zM) : Prop := zRel n C M ∧ zE M
theorem thM_18 (M : zM) (k : Int) : thM M k 18 = M 18 := by unfold thM; rw [zup_fr (by decide), zup_fr (by decide)]
theorem face_18 (M : zM) (k : Int) : (if k = 0 then zup M 0 0 0 0 else thM M k) 18 = M 18 := by
  split
  · exact zup_fr (by decide)
  · exact thM_18 M k
set_option maxHeartbeats 1000000 in
theorem zst_come2 : zSt_come zRel2 := by
  rintro n C M ⟨h, hE⟩ hn a1 a2 a3 a4 - - - -
  obtain ⟨hS, hT, hZ, hwM, hwC⟩ := h.Z hn
  have hc4 : C 1 0 4 = M 0 0 1 := h.2.1.1.1
  have hc6 : C 1 0 6 = M 0 0 10 := h.2.1.1.2.2
  have h01 : 0 ≤ M 0 0 1 ∧ M 0 0 1 ≤ 8 := (h.1 (by omega)).2.1 0 0 1
  have h010 : 0 ≤ M 0 0 10 ∧ M 0 0 10 ≤ 12 := (h.1 (by omega)).2.1 0 0 10
  have hk9 : wcd 3 1 2 (kCome C a1 a2 a3 a4) = kComeM M a1 a2 a3 a4 ∧ (kComeM M a1 a2 a3 a4 = 0 ↔ kCome C a1 a2 a3 a4 = 0) ∧ (kComeM M a1 a2 a3 a4 = 0 → ((0 ≤ a1 ∧ a1 ≤ M 0 0 1 - 1) ∧ (0 ≤ a2 ∧ a2 ≤ M 0 0 1 - 1)) ∧ (20 ≤ a3 ∧ a3 ≤ 120) ∧ (1 ≤ a4 ∧ a4 ≤ 60) ∧ M 0 0 10 < 12) ∧ (0 ≤ kComeM M a1 a2 a3 a4 ∧ kComeM M a1 a2 a3 a4 ≤ 3) := by
    unfold kCome kComeM
    rw [hc4, hc6]
    by_cases y1 : 0 ≤ a1 ∧ a1 ≤ M 0 0 1 - 1
    · rw [if_pos y1]
      by_cases y2 : 0 ≤ a2 ∧ a2 ≤ M 0 0 1 - 1
      · rw [if_pos y2, if_pos (show (0 ≤ a1 ∧ a1 ≤ M 0 0 1 - 1) ∧ (0 ≤ a2 ∧ a2 ≤ M 0 0 1 - 1) from ⟨y1, y2⟩)]
        by_cases y3 : 20 ≤ a3 ∧ a3 ≤ 120
        · rw [if_pos y3]
          by_cases y4 : 1 ≤ a4 ∧ a4 ≤ 60
          · rw [if_pos y4, if_pos (show (20 ≤ a3 ∧ a3 ≤ 120) ∧ (1 ≤ a4 ∧ a4 ≤ 60) from ⟨y3, y4⟩)]
            by_cases y6 : M 0 0 10 = 12
            · rw [if_neg (show ¬ M 0 0 10 < 12 by omega), if_pos y6]
              exact ⟨rfl, ⟨fun z => absurd z (by decide), fun z => absurd z (by decide)⟩, fun z => absurd z (by decide), by decide⟩
            · rw [if_pos (show M 0 0 10 < 12 by omega), if_neg y6]
              exact ⟨rfl, ⟨fun _ => rfl, fun _ => rfl⟩, fun _ => ⟨⟨y1, y2⟩, y3, y4, by omega⟩, by decide⟩
          · rw [if_neg y4, if_neg (show ¬ ((20 ≤ a3 ∧ a3 ≤ 120) ∧ (1 ≤ a4 ∧ a4 ≤ 60)) from fun z => y4 z.2)]
            exact ⟨rfl, ⟨fun z => absurd z (by decide), fun z => absurd z (by decide)⟩, fun z => absurd z (by decide), by decide⟩
        · rw [if_neg y3, if_neg (show ¬ ((20 ≤ a3 ∧ a3 ≤ 120) ∧ (1 ≤ a4 ∧ a4 ≤ 60)) from fun z => y3 z.1)]
          exact ⟨rfl, ⟨fun z => absurd z (by decide), fun z => absurd z (by decide)⟩, fun z => absurd z (by decide), by decide⟩
      · rw [if_neg y2, if_neg (show ¬ ((0 ≤ a1 ∧ a1 ≤ M 0 0 1 - 1) ∧ (0 ≤ a2 ∧ a2 ≤ M 0 0 1 - 1)) from fun z => y2 z.2)]
        exact ⟨rfl, ⟨fun z => absurd z (by decide), fun z => absurd z (by decide)⟩, fun z => absurd z (by decide), by decide⟩
    · rw [if_neg y1, if_neg (show ¬ ((0 ≤ a1 ∧ a1 ≤ M 0 0 1 - 1) ∧ (0 ≤ a2 ∧ a2 ≤ M 0 0 1 - 1)) from fun z => y1 z.1)]
      exact ⟨rfl, ⟨fun z => absurd z (by decide), fun z => absurd z (by decide)⟩, fun z => absurd z (by decide), by decide⟩
  obtain ⟨k1, k2, k4, k3⟩ := hk9
  have e0 : comeFM M a1 a2 a3 a4 0 0 0 = kComeM M a1 a2 a3 a4 := by
    unfold comeFM
    split
    · rename_i q
      rw [comeM_fr (by decide), q]
      unfold comeFM0
      simp [zup]
    · exact thM_0 _ _
  have hlow : ∀ p : Nat, p < 8 → M 0 0 10 < 12 → M 18 0 p ≤ 11 := fun p hp h12 => by
    obtain ⟨W, SL, hG, hR⟩ := h.2.2.1
    have hW := hG.2.2.2.1
    have h1 := nodup_len (M 0 0 10).toNat W hW.2.2.1 (fun x hx => by have := ((hW.2.2.2.1 x).mp hx).1; omega)
    have h2 := (hW.2.2.2.2 p hp).1
    have h3 : (Wp M 0 W p).length ≤ W.length := List.length_filter_le _ _
    omega
  refine ⟨fun h12 => ?_, by rw [k1, e0], fun hk => ?_, ?_⟩
  · rcases Nat.lt_or_ge a1.toNat 8 with z | z
    · exact hlow _ z h12
    · exact hE _ z
  · rw [k1] at hk
    refine ⟨k2.mp hk, ?_⟩
    unfold comeFR
    rw [if_pos hk, hc6]
  · unfold comeFM
    by_cases hk : kComeM M a1 a2 a3 a4 = 0
    · obtain ⟨⟨b1, b2⟩, b3, b4, b5⟩ := k4 hk
      rw [if_pos (k2.mp hk), if_pos hk]
      obtain ⟨r, hr⟩ : ∃ r : Nat, M 0 0 10 = (r : Int) := ⟨(M 0 0 10).toNat, by omega⟩
      obtain ⟨q, rfl⟩ : ∃ q : Nat, a1 = (q : Int) := ⟨a1.toNat, by omega⟩
      have z010 : zup M 0 0 0 0 0 0 10 = (r : Int) := by rw [← hr]; simp [zup]
      have z01 : zup M 0 0 0 0 0 0 1 = M 0 0 1 := by simp [zup]
      have zm18 : zup M 0 0 0 0 18 = M 18 := zup_fr (by decide)
      have hwD := addRiderC_wt hwC (g := a2) (w := a3) (pa := a4) (by omega) (by omega) (by omega) (by omega)
      rw [hc6, hr, show (r : Int) + 1 - 1 = (r : Int) by omega]
      have eN : comeFM0 M a2 a3 a4 = zup (zup (zup (zup (zup (zup M 0 0 0 0) 8 0 r a3) 9 0 r a4) 10 0 r a2) 24 0 r (-1)) 0 0 10 ((r : Int) + 1) := by
        unfold comeFM0
        rw [hr, Int.toNat_natCast]
      have hD8 : ∀ i k, addRiderC C a2 a3 a4 8 i k = if i = r ∧ k = 1 then a2 else if i = r ∧ k = 2 then a3 else if i = r ∧ k = 3 then a4 else C 8 i k := fun i k => by
        unfold addRiderC
        rw [zup_fr (by decide), planC_fr (by decide)]
        unfold addRider0
        rw [hc6, hr, Int.toNat_natCast]
        by_cases e : i = r
        · subst e
          by_cases y3 : k = 3
          · subst y3; simp [zup]
          · by_cases y2 : k = 2
            · subst y2; simp [zup]
            · by_cases y1 : k = 1
              · subst y1; simp [zup]
              · simp [zup, y1, y2, y3]
        · simp [zup, e]
      have hDf : ∀ f, f ≠ 1 → f ≠ 8 → f ≠ 10 → f ≠ 11 → addRiderC C a2 a3 a4 f = C f := fun f y1 y8 y10 y11 => by
        unfold addRiderC addRider0
        rw [zup_fr y1, planC_fr (by omega), zup_fr y8, zup_fr y8, zup_fr y8]
      have hD1 : addRiderC C a2 a3 a4 1 0 4 = C 1 0 4 ∧ addRiderC C a2 a3 a4 1 0 5 = C 1 0 5 ∧ addRiderC C a2 a3 a4 1 0 6 = (r : Int) + 1 := by
        unfold addRiderC
        rw [hc6, hr]
        have e1 : ∀ g w : Int, planC (addRider0 C a2 a3 a4) (r : Int).toNat g w 1 = C 1 := fun g w => by
          rw [planC_fr (by decide)]
          unfold addRider0
          rw [zup_fr (by decide), zup_fr (by decide), zup_fr (by decide)]
        simp only [Int.toNat_natCast] at e1 ⊢
        exact ⟨by simp [zup, e1], by simp [zup, e1], by simp [zup]⟩
      have hA7 : addRider0 C a2 a3 a4 7 = C 7 ∧ addRider0 C a2 a3 a4 1 = C 1 ∧ addRider0 C a2 a3 a4 10 = C 10 ∧ addRider0 C a2 a3 a4 11 = C 11 ∧ addRider0 C a2 a3 a4 8 r 1 = a2 ∧ addRider0 C a2 a3 a4 8 r 2 = a3 := by
        unfold addRider0
        rw [hc6, hr, Int.toNat_natCast]
        refine ⟨?_, ?_, ?_, ?_, by simp [zup], by simp [zup]⟩
        · rw [zup_fr (by decide), zup_fr (by decide), zup_fr (by decide)]
        · rw [zup_fr (by decide), zup_fr (by decide), zup_fr (by decide)]
        · rw [zup_fr (by decide), zup_fr (by decide), zup_fr (by decide)]
        · rw [zup_fr (by decide), zup_fr (by decide), zup_fr (by decide)]
      have hDt : ∀ f, f = 10 ∨ f = 11 → addRiderC C a2 a3 a4 f = planC (addRider0 C a2 a3 a4) r a2 a3 f := fun f y => by
        unfold addRiderC
        rw [zup_fr (by omega), hc6, hr, Int.toNat_natCast, hA7.2.2.2.2.1, hA7.2.2.2.2.2]
      rw [eN]
      generalize zup M 0 0 0 0 = Z at hS hT hZ hwM z010 z01 zm18 ⊢
      have hw9 : ∀ f i k, inM (400 * n) (20000 * n) f k (zup (zup (zup (zup (zup Z 8 0 r a3) 9 0 r a4) 10 0 r a2) 24 0 r (-1)) 0 0 10 ((r : Int) + 1) f i k) := inM_zup (inM_zup (inM_zup (inM_zup (inM_zup hwM.1 (show _ ∧ _ from ⟨by omega, by omega⟩)) (show _ ∧ _ from ⟨by omega, by omega⟩)) (show _ ∧ _ from ⟨by omega, by omega⟩)) (show True from trivial)) (show _ ∧ _ from ⟨by omega, by omega⟩)
      have n5 : zup (zup (zup (zup (zup Z 8 0 r a3) 9 0 r a4) 10 0 r a2) 24 0 r (-1)) 0 0 10 ((r : Int) + 1) 0 0 5 = Z 0 0 5 := by simp [zup]
      have n1 : zup (zup (zup (zup (zup Z 8 0 r a3) 9 0 r a4) 10 0 r a2) 24 0 r (-1)) 0 0 10 ((r : Int) + 1) 0 0 1 = Z 0 0 1 := by simp [zup]
      have n10 : zup (zup (zup (zup (zup Z 8 0 r a3) 9 0 r a4) 10 0 r a2) 24 0 r (-1)) 0 0 10 ((r : Int) + 1) 0 0 10 = (r : Int) + 1 := by simp [zup]
      have nf : ∀ f, f ≠ 0 → f ≠ 8 → f ≠ 9 → f ≠ 10 → f ≠ 24 → zup (zup (zup (zup (zup Z 8 0 r a3) 9 0 r a4) 10 0 r a2) 24 0 r (-1)) 0 0 10 ((r : Int) + 1) f = Z f := fun f y0 y8 y9 y10 y24 => by rw [zup_fr y0, zup_fr y24, zup_fr y10, zup_fr y9, zup_fr y8]
      have n8 : ∀ k, zup (zup (zup (zup (zup Z 8 0 r a3) 9 0 r a4) 10 0 r a2) 24 0 r (-1)) 0 0 10 ((r : Int) + 1) 8 0 k = if k = r then a3 else Z 8 0 k := fun k => by
        by_cases e : k = r
        · subst e; simp [zup]
        · simp [zup, e]
      have n9 : ∀ k, zup (zup (zup (zup (zup Z 8 0 r a3) 9 0 r a4) 10 0 r a2) 24 0 r (-1)) 0 0 10 ((r : Int) + 1) 9 0 k = if k = r then a4 else Z 9 0 k := fun k => by
        by_cases e : k = r
        · subst e; simp [zup]
        · simp [zup, e]
      have n10k : ∀ k, zup (zup (zup (zup (zup Z 8 0 r a3) 9 0 r a4) 10 0 r a2) 24 0 r (-1)) 0 0 10 ((r : Int) + 1) 10 0 k = if k = r then a2 else Z 10 0 k := fun k => by
        by_cases e : k = r
        · subst e; simp [zup]
        · simp [zup, e]
      have n24 : ∀ k, zup (zup (zup (zup (zup Z 8 0 r a3) 9 0 r a4) 10 0 r a2) 24 0 r (-1)) 0 0 10 ((r : Int) + 1) 24 0 k = if k = r then -1 else Z 24 0 k := fun k => by
        by_cases e : k = r
        · subst e; simp [zup]
        · simp [zup, e]
      generalize zup (zup (zup (zup (zup Z 8 0 r a3) 9 0 r a4) 10 0 r a2) 24 0 r (-1)) 0 0 10 ((r : Int) + 1) = N at hw9 n5 n1 n10 nf n8 n9 n10k n24 ⊢
      obtain ⟨v18, vT, vZ⟩ := come_RT (D := addRiderC C a2 a3 a4) (N0 := N) (g := a2) hT hZ z010 (by omega) (show q < 8 by omega) (by omega) (fun f hf => hDf f (by omega) (by omega) (by omega) (by omega)) (by rw [hD8, if_pos ⟨rfl, rfl⟩]) n10 n5 n1 (fun f hf h24 => nf f (by omega) (by omega) (by omega) (by omega) h24) (fun z e => by rw [n24, if_neg e]) (by rw [n24, if_pos rfl]) (fun z e => by rw [n10k, if_neg e]) (by rw [n10k, if_pos rfl])
      have g1 : ∀ x : Int, lenM N x = lenM Z x := fun x => by unfold lenM; rw [nf 1 (by decide) (by decide) (by decide) (by decide) (by decide), nf 2 (by decide) (by decide) (by decide) (by decide) (by decide), nf 4 (by decide) (by decide) (by decide) (by decide) (by decide), nf 5 (by decide) (by decide) (by decide) (by decide) (by decide)]
      have g2 : ∀ x : Int, dropM N x = dropM Z x := fun x => by unfold dropM; rw [nf 3 (by decide) (by decide) (by decide) (by decide) (by decide), nf 4 (by decide) (by decide) (by decide) (by decide) (by decide), nf 5 (by decide) (by decide) (by decide) (by decide) (by decide)]
      have g3 : ∀ a to w : Int, fewM N a to w = fewM Z a to w := fun a to w => fewN_eq n5 (fun f h4 h7 => nf f (by omega) (by omega) (by omega) (by omega) (by omega)) _ _ _ _
      have g4 : ∀ a to w : Int, firstM N a to w = firstM Z a to w := fun a to w => firstM_eq n5 (fun f h4 h7 => nf f (by omega) (by omega) (by omega) (by omega) (by omega)) _ _ _
      have hWZ : WS (addRider0 C a2 a3 a4) Z := by
        have h9 := hS.ws hwM
        unfold WS at h9 ⊢
        rw [hA7.1, hA7.2.1]
        exact h9
      have hwN : WTM (400 * n) (20000 * n) N := ⟨hw9, fun k hk => by
        rw [n5] at hk
        rw [nf 3 (by decide) (by decide) (by decide) (by decide) (by decide), nf 4 (by decide) (by decide) (by decide) (by decide) (by decide), nf 5 (by decide) (by decide) (by decide) (by decide) (by decide)]
        exact hwM.2.1 k hk, hwM.2.2⟩
      obtain ⟨s1, s2, s3, s4, s5, s6, s7, s8, s9⟩ := hS
      have hSN : RS (addRiderC C a2 a3 a4) N := by
        refine ⟨⟨?_, ?_, ?_⟩, fun i => ?_, fun i => ?_, fun k hk => ?_, fun z => ?_, fun z hz => ?_, fun k => ?_, fun z p hz hp => ?_, fun x y hx hy hxy => ?_⟩
        · rw [hD1.1, n1]; exact s1.1
        · rw [hD1.2.1, n5]; exact s1.2.1
        · rw [hD1.2.2, n10]
        · rw [hDf 6 (by decide) (by decide) (by decide) (by decide), nf 1 (by decide) (by decide) (by decide) (by decide) (by decide), nf 2 (by decide) (by decide) (by decide) (by decide) (by decide), nf 3 (by decide) (by decide) (by decide) (by decide) (by decide)]
          exact s2 i
        · rw [hDf 7 (by decide) (by decide) (by decide) (by decide), nf 4 (by decide) (by decide) (by decide) (by decide) (by decide), nf 5 (by decide) (by decide) (by decide) (by decide) (by decide), nf 6 (by decide) (by decide) (by decide) (by decide) (by decide)]
          exact s3 i
        · rw [n5] at hk
          rw [g1, g2, n1, hDf 7 (by decide) (by decide) (by decide) (by decide), nf 4 (by decide) (by decide) (by decide) (by decide) (by decide), nf 5 (by decide) (by decide) (by decide) (by decide) (by decide)]
          exact s4 k hk
        · rw [hD8, hD8, hD8, n8, n9, n10k]
          by_cases e : z = r
          · subst e; simp
          · simp [e]; exact s5 z
        · rw [n10] at hz
          rw [n8, n10k, n1]
          by_cases e : z = r
          · rw [if_pos e, if_pos e]; omega
          · rw [if_neg e, if_neg e]; exact s6 z (by omega)
        · rw [hDf 5 (by decide) (by decide) (by decide) (by decide), nf 7 (by decide) (by decide) (by decide) (by decide) (by decide)]
          exact s7 k
        · rw [n10] at hz
          rw [hDt 10 (Or.inl rfl), hDt 11 (Or.inr rfl), g3, g4, n8, n10k]
          by_cases e : z = r
          · subst e
            rw [if_pos rfl, if_pos rfl]
            exact planC_is hWZ (hwM.1 0 0 5).1 (by omega) hp
          · rw [if_neg e, if_neg e, planC_off e, planC_off e, hA7.2.2.1, hA7.2.2.2.1]
            exact s8 z p (by omega) hp
        · rw [n1] at hx hy
          rw [nf 1 (by decide) (by decide) (by decide) (by decide) (by decide), nf 2 (by decide) (by decide) (by decide) (by decide) (by decide)]
          exact s9 x y hx hy hxy
      have n18 : N 18 = Z 18 := nf 18 (by decide) (by decide) (by decide) (by decide) (by decide)
      refine ⟨(fun (h9 : zRel n _ _) => h9.next) ⟨fun _ => ⟨?_, ?_⟩, hSN.eq (fun f hf => reachC_fr (by omega)) (fun f hf => comeM_fr (by omega)), vT, vZ⟩, fun k hk8 => ?_⟩
      · exact reachC_wt hwD ⟨by omega, by omega⟩ ⟨by omega, by omega⟩
      · exact comeM_wt hwN ⟨by omega, by omega⟩ ⟨by omega, by omega⟩ (by rw [Int.toNat_natCast, n18]; exact v18)
      · rw [comeM_18 (by rw [Int.toNat_natCast]; omega), n18, zm18]
        exact hE k hk8
    · rw [if_neg (fun z => hk (k2.mpr z)), if_neg hk]
      exact ⟨(h.th k3).next, hE.of (by rw [thM_18])⟩
