abbrev PB (M : zM) (u l : Nat) (r : Nat) : Prop := firstM M (M 21 u r) (M 10 0 r) (M 8 0 r) = (l : Int)
theorem RW.at {C M : zM} {t u : Nat} {W : List Nat} (h : RW C M t u W) {p k : Nat} (hp : p < 8) (hk : (k : Int) < M 18 u p) : ∃ r : Nat, (Wp M u W p)[k]? = some r ∧ M 19 u (12 * p + k) = (r : Int) ∧ r ∈ W ∧ M 21 u r = (p : Int) := by
  obtain ⟨h1, h2⟩ := h.2.2.2.2 p hp
  have hlt : k < (Wp M u W p).length := by omega
  have e := List.getElem?_eq_getElem hlt
  have hm := List.mem_filter.mp (List.getElem_mem hlt)
  exact ⟨_, e, h2 k _ e, hm.1, of_decide_eq_true hm.2⟩
theorem beginOK_of {C M : zM} {t u l : Nat} {W : List Nat} (h : RW C M t u W) (hS : RS C M) (hB : SB M) (hl : (l : Int) < M 0 0 5) : beginOK M u (l : Int) := by
  obtain ⟨at9, hat⟩ : ∃ at9 : Nat, M 4 0 l = (at9 : Int) := ⟨(M 4 0 l).toNat, by have := (hB.2.1 l).2; omega⟩
  have ha8 : at9 < 8 := by have := (hS.2.2.2.1 l hl).2.2.1; have := hB.1.2.1; omega
  have hr : ∀ r, r ∈ W → 20 ≤ M 8 0 r := fun r hr => (hS.2.2.2.2.2.1 r ((h.2.2.2.1 r).mp hr).1).1
  unfold beginOK
  rw [Int.toNat_natCast, hat, Int.toNat_natCast]
  refine ⟨fun k hk => ?_, fun k hk => ?_, fun i k hi hk e => ?_⟩
  · obtain ⟨r, r1, r2, r3, r4⟩ := h.at ha8 hk
    rw [r2, Int.toNat_natCast]
    exact r4
  · obtain ⟨r, r1, r2, r3, r4⟩ := h.at ha8 hk
    rw [r2, Int.toNat_natCast]
    exact ⟨hr r r3, hB.2.2.2 r⟩
  · obtain ⟨r, r1, r2, r3, r4⟩ := h.at ha8 hk
    obtain ⟨z, z1, z2, z3, z4⟩ := h.at (k := i) ha8 (by omega)
    rw [r2, z2] at e
    have e2 : z = r := by omega
    subst e2
    have hnd : (Wp M u W at9).Nodup := h.2.2.1.sublist List.filter_sublist
    have l1 := (List.getElem?_eq_some_iff.mp r1).1
    have l2 := (List.getElem?_eq_some_iff.mp z1).1
    have e3 : (Wp M u W at9)[i]'l2 = (Wp M u W at9)[k]'l1 := by rw [(List.getElem?_eq_some_iff.mp r1).2, (List.getElem?_eq_some_iff.mp z1).2]
    have := (List.getElem_inj hnd).mp e3
    omega
set_option maxHeartbeats 1000000 in
theorem begin_step {C M : zM} {t u l : Nat} (hT : RT C M t u) (hS : RS C M) (hB : SB M) (hl : (l : Int) < M 0 0 5) (h13 : ∀ l' : Nat, (l' : Int) < M 0 0 5 → M 13 u l' ≤ 3) (h12 : ∀ l' : Nat, M 12 u l' ≤ 3) :
    RT (if closedP C l (C 12 t 5) then C else beginC C t l) (beginSM u l M) t u ∧ beginOK M u (l : Int) ∧ (∀ l' : Nat, (l' : Int) < M 0 0 5 → beginSM u l M 13 u l' ≤ 3) ∧ FZ C (if closedP C l (C 12 t 5) then C else beginC C t l) M (beginSM u l M) t u (M 0 0 10) (M 0 0 5) := by
  obtain ⟨W, SL, hG, hR⟩ := hT
  have hW := hG.2.2.2.1
  refine (fun (h9 : RT (if closedP C l (C 12 t 5) then C else beginC C t l) (beginSM u l M) t u ∧ (∀ l' : Nat, (l' : Int) < M 0 0 5 → beginSM u l M 13 u l' ≤ 3) ∧ FZ C (if closedP C l (C 12 t 5) then C else beginC C t l) M (beginSM u l M) t u (M 0 0 10) (M 0 0 5)) => ⟨h9.1, beginOK_of hW hS hB hl, h9.2⟩) ?_
  obtain ⟨k1, k2, k3, k4, k5⟩ := hS.2.2.2.1 l hl
  have hcl : closedP C l (C 12 t 5) ↔ closedM M l (M 11 u 0) := by
    show 80 - 8 * C 5 0 (C 12 t 5 % 12).toNat < C 7 l 3 ↔ 80 - 8 * M 7 0 (M 11 u 0 % 12).toNat < lenM M l
    rw [hG.1, hS.2.2.2.2.2.2.1, k1]
  unfold beginSM
  by_cases hc : closedM M l (M 11 u 0)
  · rw [if_pos (hcl.mpr hc), if_pos hc]
    exact ⟨⟨W, SL, hG, hR⟩, h13, FZ.refl _ _ _ _ _ _⟩
  rw [if_neg (fun z => hc (hcl.mp z)), if_neg hc]
  obtain ⟨⟨a1, a2⟩, a3, a4⟩ := hR l hl
  obtain ⟨b1, b2, b3⟩ := hG.2.1 l hl
  have h12l := h12 l
  by_cases hf : M 12 u l ≤ M 13 u l
  · rw [if_pos hf]
    have e : beginC C t l = C := by
      unfold beginC
      rw [if_neg (show ¬ (0 < C 17 (12 * t + l) 0 ∧ C 17 (12 * t + l) 1 < 3) by omega)]
      split <;> rfl
    rw [e]
    exact ⟨⟨W, SL, hG, hR⟩, h13, FZ.refl _ _ _ _ _ _⟩
  rw [if_neg hf]
  obtain ⟨at9, hat⟩ : ∃ at9 : Nat, M 4 0 l = (at9 : Int) := ⟨(M 4 0 l).toNat, by have := (hB.2.1 l).2; omega⟩
  have ha8 : at9 < 8 := by have := hB.1.2.1; omega
  obtain ⟨w1, w2, w3, w4, w5⟩ := hW
  have e4 : (C 12 t 4).toNat = W.length := by rw [w1]; exact Int.toNat_natCast _
  have hfw : ∀ k r : Nat, W[k]? = some r → (fwP C t (l : Int) k ↔ PB M u l r) := by
    intro k r hk
    have hrW := (w4 r).mp (List.mem_of_getElem? hk)
    have hrr := (hG.2.2.1 r hrW.1).2.2.2.1 hrW.2
    obtain ⟨p, hp⟩ : ∃ p : Nat, M 21 u r = (p : Int) := ⟨(M 21 u r).toNat, by omega⟩
    have hp8 : p < 8 := by have := hB.1.2.1; omega
    show firstFromC C (C 15 t k).toNat (C 16 (12 * t + (C 15 t k).toNat) 1) = (l : Int) ↔ firstM M (M 21 u r) (M 10 0 r) (M 8 0 r) = (l : Int)
    rw [w2 k r hk, Int.toNat_natCast, hrr.1, hp]
    unfold firstFromC
    rw [if_pos (by omega), Int.toNat_natCast, (hS.2.2.2.2.2.2.2.1 r p hrW.1 hp8).2]
  obtain ⟨v1, v2⟩ := w5 at9 ha8
  have e18 : (M 18 u at9).toNat = (Wp M u W at9).length := by rw [v1]; exact Int.toNat_natCast _
  have hbg : ∀ k r : Nat, (Wp M u W at9)[k]? = some r → (bgP M u (l : Int) k ↔ PB M u l r) := by
    intro k r hk
    have hm := List.mem_filter.mp (List.mem_of_getElem? hk)
    have hr21 : M 21 u r = (at9 : Int) := of_decide_eq_true hm.2
    show firstM M (M 4 0 (l : Int).toNat) (M 10 0 (M 19 u (12 * (M 4 0 (l : Int).toNat).toNat + k)).toNat) (M 8 0 (M 19 u (12 * (M 4 0 (l : Int).toNat).toNat + k)).toNat) = (l : Int) ↔ firstM M (M 21 u r) (M 10 0 r) (M 8 0 r) = (l : Int)
    rw [Int.toNat_natCast, hat, Int.toNat_natCast, v2 k r hk, Int.toNat_natCast, hr21]
  have eB : beginM M u (l : Int) = if zfst (bgP M u (l : Int)) (Wp M u W at9).length < (Wp M u W at9).length then seatM M u (l : Int) (M 19 u (12 * at9 + zfst (bgP M u (l : Int)) (Wp M u W at9).length)) (zfst (bgP M u (l : Int)) (Wp M u W at9).length) else M := by
    have y2 : M 4 0 (l : Int).toNat = (at9 : Int) := hat
    have y1 : (M 18 u (M 4 0 (l : Int).toNat).toNat).toNat = (Wp M u W at9).length := by rw [y2, Int.toNat_natCast, e18]
    have y3 : ∀ X : Nat, 12 * (M 4 0 (l : Int).toNat).toNat + X = 12 * at9 + X := fun X => by rw [y2, Int.toNat_natCast]
    unfold beginM
    rw [y1, y3]
  rcases split_first (PB M u l) W with hno | ⟨W1, r, W2, hWe, hno, hPr⟩
  · have f1 : firstC C t (l : Int) = -1 := by
      unfold firstC
      rw [e4, zfst_list_none hfw hno, if_neg (Nat.lt_irrefl _)]
    have f2 : beginM M u (l : Int) = M := by
      rw [eB, zfst_list_none hbg (fun x hx => hno x (List.mem_filter.mp hx).1), if_neg (Nat.lt_irrefl _)]
    have f3 : beginC C t l = C := by
      unfold beginC
      rw [if_pos f1]
    rw [f2, f3]
    exact ⟨⟨W, SL, hG, hR⟩, h13, FZ.refl _ _ _ _ _ _⟩
  · subst hWe
    have hrat : M 21 u r = (at9 : Int) := by rw [← hat]; exact (firstM_at hPr).symm
    have hrW := (w4 r).mp (by simp)
    have h8 := hS.2.2.2.2.2.1 r hrW.1
    have f0 : zfst (fwP C t (l : Int)) (C 12 t 4).toNat = W1.length := by rw [e4]; exact zfst_list_found hfw hno hPr
    have f1 : firstC C t (l : Int) = (W1.length : Int) := by
      unfold firstC
      rw [f0, e4, if_pos (by simp)]
    have f15 : C 15 t W1.length = (r : Int) := w2 W1.length r (by simp)
    have hWpe : Wp M u (W1 ++ r :: W2) at9 = Wp M u W1 at9 ++ r :: Wp M u W2 at9 := by rw [Wp_split, if_pos hrat]
    have g0 : zfst (bgP M u (l : Int)) (Wp M u (W1 ++ r :: W2) at9).length = (Wp M u W1 at9).length := by
      rw [hWpe] at hbg ⊢
      exact zfst_list_found hbg (fun x hx => hno x (List.mem_filter.mp hx).1) hPr
    have g19 : M 19 u (12 * at9 + (Wp M u W1 at9).length) = (r : Int) := v2 _ r (by rw [hWpe]; simp)
    have g1 : beginM M u (l : Int) = seatM M u (l : Int) (r : Int) (Wp M u W1 at9).length := by
      rw [eB, g0, if_pos (by rw [hWpe]; simp), g19]
    obtain ⟨r1, r2, r3⟩ := ride_eq (M := M) (l := (l : Int)) (w := M 8 0 r) k5 (hB.2.2.1 l hl) h8.1
    have hC8 : C 8 r 2 = M 8 0 r := (hS.2.2.2.2.1 r).2.1
    obtain ⟨s1, s2, s3⟩ := strikeM_at (w := (Wp M u W1 at9).length) hrat
    have hlen : (W1 ++ r :: W2).length ≤ 12 := by
      have h1 := nodup_len (M 0 0 10).toNat (W1 ++ r :: W2) w3 (fun x hx => by have := ((w4 x).mp hx).1; omega)
      have := hB.1.1
      omega
    have hsp : 0 ≤ M 13 u l := by omega
    have e3 : (3 * (l : Int) + M 13 u l).toNat = 3 * l + (SL l).length := by omega
    have f2 : beginC C t l = zup (leaveTopC (rideTC (leaveC C t W1.length) (12 * t + r) l (rideC (lenM M l) (dropM M l) (M 8 0 r))) (12 * t + l) r (rideC (lenM M l) (dropM M l) (M 8 0 r))) 17 (12 * t + l) 5 (leaveTopC (rideTC (leaveC C t W1.length) (12 * t + r) l (rideC (lenM M l) (dropM M l) (M 8 0 r))) (12 * t + l) r (rideC (lenM M l) (dropM M l) (M 8 0 r)) 17 (12 * t + l) 5 + (if M 8 0 r * dropM M l < 10 * lenM M l then 1 else 0)) := by
      unfold beginC
      rw [f1, if_neg (by omega), if_pos (show 0 < C 17 (12 * t + l) 0 ∧ C 17 (12 * t + l) 1 < 3 by omega), Int.toNat_natCast, f15, Int.toNat_natCast, hC8, k1, k2]
    have x17 : rideTC (leaveC C t W1.length) (12 * t + r) l (rideC (lenM M l) (dropM M l) (M 8 0 r)) 17 = C 17 := by rw [rideTC_fr (by decide), leaveC_fr (by decide)]
    have x18 : rideTC (leaveC C t W1.length) (12 * t + r) l (rideC (lenM M l) (dropM M l) (M 8 0 r)) 18 = C 18 := by rw [rideTC_fr (by decide), leaveC_fr (by decide)]
    have x19 : rideTC (leaveC C t W1.length) (12 * t + r) l (rideC (lenM M l) (dropM M l) (M 8 0 r)) 19 = C 19 := by rw [rideTC_fr (by decide), leaveC_fr (by decide)]
    have x12 : rideTC (leaveC C t W1.length) (12 * t + r) l (rideC (lenM M l) (dropM M l) (M 8 0 r)) 12 = leaveC C t W1.length 12 := rideTC_fr (by decide)
    have x15 : rideTC (leaveC C t W1.length) (12 * t + r) l (rideC (lenM M l) (dropM M l) (M 8 0 r)) 15 = leaveC C t W1.length 15 := rideTC_fr (by decide)
    have x16o : ∀ z k, z ≠ r → rideTC (leaveC C t W1.length) (12 * t + r) l (rideC (lenM M l) (dropM M l) (M 8 0 r)) 16 (12 * t + z) k = C 16 (12 * t + z) k := fun z k e => by rw [rideTC_off (by omega), leaveC_fr (by decide)]
    have x16 := rideTC_at (leaveC C t W1.length) (12 * t + r) (l : Int) (rideC (lenM M l) (dropM M l) (M 8 0 r))
    rw [show leaveC C t W1.length 16 = C 16 from leaveC_fr (by decide)] at x16
    have hlr := leaveC_row w1 w2
    have hlm : leaveC C t W1.length 12 t 5 = C 12 t 5 := leaveC_min
    have hn9 : (C 17 (12 * t + l) 1).toNat = (SL l).length := by omega
    rw [f2, g1]
    generalize rideTC (leaveC C t W1.length) (12 * t + r) l (rideC (lenM M l) (dropM M l) (M 8 0 r)) = X at x12 x15 x16 x16o x17 x18 x19 ⊢
    have eS : seatM M u (l : Int) (r : Int) (Wp M u W1 at9).length = zup (zup (zup (zup (zup (zup (zup (zup (strikeM M u (r : Int) (Wp M u W1 at9).length) 20 u r 1) 21 u r l) 23 u r (M 23 u r + 1)) 14 u (3 * l + (SL l).length) r) 15 u (3 * l + (SL l).length) (rideC (lenM M l) (dropM M l) (M 8 0 r))) 13 u l (M 13 u l + 1)) 16 u l (M 16 u l + 1)) 17 u l (M 17 u l + (if M 8 0 r * dropM M l < 10 * lenM M l then 1 else 0)) := by
      unfold seatM seatM1
      simp only [Int.toNat_natCast]
      rw [e3, r1]
      simp only [r3]
    rw [eS]
    generalize strikeM M u (r : Int) (Wp M u W1 at9).length = Y at s1 s2 s3 ⊢
    generalize (if M 8 0 r * dropM M l < 10 * lenM M l then (1 : Int) else 0) = s
    generalize rideC (lenM M l) (dropM M l) (M 8 0 r) = x at r2 x16 ⊢
    refine seat_both (n := (SL l).length) (x := x) (s := s) hG hR hl h13 rfl (by omega) r2 ?_ ?_ ?_ ?_ ?_ ?_ ?_ ?_ ?_ ?_ ?_ ?_ ?_ ?_ ?_ ?_ ?_ ?_ ?_ ?_ ?_ ?_ ?_ ?_
    · rw [zup_fr (by decide), leaveTopC_fr (by decide), x12]; exact hlm
    · rw [zup_fr (by decide), leaveTopC_fr (by decide), x12]; exact hlr.1
    · rw [zup_fr (by decide), leaveTopC_fr (by decide), x15]; exact hlr.2
    · rw [zup_fr (by decide), leaveTopC_fr (by decide)]; exact x16o
    · rw [zup_fr (by decide), leaveTopC_fr (by decide)]; exact x16
    · simp [leaveTopC, zup, x17]
    · intro i k e; simp [leaveTopC, zup, x17, e]
    · intro i k e; simp [leaveTopC, zup, x17, x18, x19, hn9, e]
    · simp [leaveTopC, zup, x17, hn9]
    · rw [zup_fr (by decide), zup_fr (by decide), zup_fr (by decide), zup_fr (by decide), zup_fr (by decide), zup_fr (by decide), zup_fr (by decide), zup_fr (by decide), s3 _ (by decide) (by decide)]
    · rw [zup_fr (by decide), zup_fr (by decide), zup_fr (by decide), zup_fr (by decide), zup_fr (by decide), zup_fr (by decide), zup_fr (by decide), zup_fr (by decide), s3 _ (by decide) (by decide)]
    · rw [zup_fr (by decide), zup_fr (by decide), zup_fr (by decide), zup_fr (by decide), zup_fr (by decide), zup_fr (by decide), zup_fr (by decide), zup_fr (by decide), s3 _ (by decide) (by decide)]
    · rw [zup_fr (by decide), zup_fr (by decide), zup_fr (by decide), zup_fr (by decide), zup_fr (by decide), zup_fr (by decide), zup_fr (by decide), zup_fr (by decide), s3 _ (by decide) (by decide)]
    · rw [zup_fr (by decide), zup_fr (by decide), zup_fr (by decide), zup_fr (by decide), zup_fr (by decide), zup_fr (by decide), zup_fr (by decide), zup_fr (by decide), s3 _ (by decide) (by decide)]
    · rw [zup_fr (by decide), zup_fr (by decide), zup_fr (by decide), zup_fr (by decide), zup_fr (by decide), zup_fr (by decide), zup_fr (by decide), zup_fr (by decide), s3 _ (by decide) (by decide)]
    · simp [zup]
    · intro l' e; simp [zup, e, s3 13 (by decide) (by decide)]
    · intro k e; simp [zup, e, s3 14 (by decide) (by decide), s3 15 (by decide) (by decide)]
    · simp [zup]
    · simp [zup]
    · intro l' e; simp [zup, e, s3 16 (by decide) (by decide), s3 17 (by decide) (by decide)]
    · simp [zup]
    · intro z e; simp [zup, e, s3 20 (by decide) (by decide), s3 21 (by decide) (by decide), s3 23 (by decide) (by decide)]
    · refine QM.strike (at9 := at9) w5 hlen hrat ha8 (fun x hx => ?_) (fun p => ?_) (fun k => ?_)
      · have hn : r ∉ W1 ++ W2 := (List.nodup_cons.mp ((List.perm_middle.nodup_iff).mp w3)).1
        have e : x ≠ r := fun e => hn (e ▸ hx)
        simp [zup, e, s3 21 (by decide) (by decide)]
      · rw [zup_fr (by decide), zup_fr (by decide), zup_fr (by decide), zup_fr (by decide), zup_fr (by decide), zup_fr (by decide), zup_fr (by decide), zup_fr (by decide)]
        exact s1 p
      · rw [zup_fr (by decide), zup_fr (by decide), zup_fr (by decide), zup_fr (by decide), zup_fr (by decide), zup_fr (by decide), zup_fr (by decide), zup_fr (by decide)]
        exact s2 k
