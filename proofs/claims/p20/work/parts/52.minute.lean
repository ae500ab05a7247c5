/-! what holds of the class's own memory between calls, beside the relation -/
def NI (C : zM) : Prop :=
  (∀ r : Nat, (r : Int) < C 1 0 6 → (C 16 (12 * 0 + r) 0 = 2 → 0 ≤ C 16 (12 * 0 + r) 5 ∧ C 16 (12 * 0 + r) 5 ≤ C 12 0 5) ∧ (C 16 (12 * 0 + r) 0 ≠ 2 → C 16 (12 * 0 + r) 5 = -1) ∧ (C 16 (12 * 0 + r) 0 = 0 → C 16 (12 * 0 + r) 3 < C 8 r 3) ∧ 0 ≤ C 16 (12 * 0 + r) 4) ∧
  (∀ l : Nat, (l : Int) < C 1 0 5 → 0 ≤ C 17 (12 * 0 + l) 5 ∧ C 17 (12 * 0 + l) 5 ≤ C 17 (12 * 0 + l) 4 ∧ C 17 (12 * 0 + l) 4 ≤ C 12 0 5) ∧
  zsum (fun r => C 16 (12 * 0 + r) 4) (C 1 0 6).toNat = zsum (fun l => C 17 (12 * 0 + l) 4) (C 1 0 5).toNat
/-- who has arrived or is gone stays so; rides are counted up -/
def MO (C C' : zM) : Prop := ∀ r : Nat, (r : Int) < C 1 0 6 → (2 ≤ C 16 (12 * 0 + r) 0 → C' 16 (12 * 0 + r) 0 = C 16 (12 * 0 + r) 0) ∧ C 16 (12 * 0 + r) 4 ≤ C' 16 (12 * 0 + r) 4
theorem MO.trans {C C1 C2 : zM} (h : MO C C1) (g : MO C1 C2) (e : C1 1 = C 1) : MO C C2 := fun r hr => by
  obtain ⟨h1, h2⟩ := h r hr
  obtain ⟨g1, g2⟩ := g r (by rw [e]; exact hr)
  exact ⟨fun q => (g1 (by rw [h1 q]; exact q)).trans (h1 q), Int.le_trans h2 g2⟩
set_option maxHeartbeats 1000000 in
theorem passC_NI {C M : zM} {T U : Int} (hT : RT C M 0 0) (hS : RS C M) (hw : WTM T U M) (h : NI C) : NI (passC C 0) ∧ MO C (passC C 0) := by
  have hmin : 0 ≤ C 12 0 5 := by
    obtain ⟨W, SL, hG, -⟩ := hT
    rw [hG.1]
    exact (hw.1 11 0 0).1
  have hB := hw.sb
  have h05 : 0 ≤ M 0 0 5 := (hw.1 0 0 5).1
  have hlc2 : (C 1 0 5).toNat = (M 0 0 5).toNat := by rw [hS.1.2.1]
  have h13 : ∀ l' : Nat, (l' : Int) < M 0 0 5 → M 13 0 l' ≤ 3 := fun l' _ => (hw.1 13 0 l').2
  obtain ⟨a1, a2, a3, a4⟩ := roll_all hT hS hB.1.1 hB.1.2.1 (fun l => (hB.2.1 l).1) h13 (M 0 0 5).toNat (by omega)
  have hMV := movesN_MV hT hS hB.1.1 hB.1.2.1 (fun l => (hB.2.1 l).1) h13 (M 0 0 5).toNat (by omega)
  have r0 : rolled M 0 0 = M 0 := rolled_fr (by decide)
  have r12 : rolled M 0 12 = M 12 := rolled_fr (by decide)
  have sA : RS (movesN C 0 (M 0 0 5).toNat) (rolled M 0) := hS.eq (fun f hf => movesN_fr (by omega)) (fun f hf => rolled_fr (by omega))
  have hBA : SB (rolled M 0) := hB.eq (fun f hf => rolled_fr (by omega))
  have hBG := beginsN_BG (M := rolled M 0) a1 sA hBA (by rw [r0]; exact a3) (by rw [r12]; exact fun l' => (hw.1 12 0 l').2) (M 0 0 5).toNat (by rw [r0]; omega)
  obtain ⟨b1, -⟩ := begin_all (M := rolled M 0) a1 sA hBA (by rw [r0]; exact a3) (by rw [r12]; exact fun l' => (hw.1 12 0 l').2) (M 0 0 5).toNat (by rw [r0]; omega)
  have sB : RS (beginsN (movesN C 0 (M 0 0 5).toNat) 0 (M 0 0 5).toNat) (begun M 0) := hS.eq (fun f hf => by rw [beginsN_fr (by omega), movesN_fr (by omega)]) (fun f hf => begun_fr (by omega))
  have hTR := tireC_TR (M := begun M 0) b1 sB
  have eP : passC C 0 = zup (tireC (beginsN (movesN C 0 (M 0 0 5).toNat) 0 (M 0 0 5).toNat) 0) 12 0 5 (C 12 0 5 + 1) := by unfold passC; rw [hlc2]
  have p1 : passC C 0 1 = C 1 := passC_fr (by decide)
  have p8 : passC C 0 8 = C 8 := passC_fr (by decide)
  have p12 : passC C 0 12 0 5 = C 12 0 5 + 1 := by rw [eP]; simp [zup]
  have p16 : passC C 0 16 = tireC (beginsN (movesN C 0 (M 0 0 5).toNat) 0 (M 0 0 5).toNat) 0 16 := by rw [eP, zup_fr (by decide)]
  have p17 : passC C 0 17 = beginsN (movesN C 0 (M 0 0 5).toNat) 0 (M 0 0 5).toNat 17 := by rw [eP, zup_fr (by decide), tireC_fr (by decide)]
  have A17 : ∀ i k, k = 4 ∨ k = 5 → movesN C 0 (M 0 0 5).toNat 17 i k = C 17 i k := fun i k hk => movesN_17 C _ hk
  have A1 : movesN C 0 (M 0 0 5).toNat 1 = C 1 := movesN_fr (by decide)
  have B1 : beginsN (movesN C 0 (M 0 0 5).toNat) 0 (M 0 0 5).toNat 1 = C 1 := by rw [beginsN_fr (by decide), A1]
  have B8 : beginsN (movesN C 0 (M 0 0 5).toNat) 0 (M 0 0 5).toNat 8 = C 8 := by rw [beginsN_fr (by decide), movesN_fr (by decide)]
  unfold NI MO
  rw [p1, p8, p12, p16, p17]
  rw [A1] at hBG
  rw [B1, B8] at hTR
  clear eP p1 p8 p12 p16 p17 sA sB b1 B1 B8 a1 a2 a3 a4
  generalize tireC (beginsN (movesN C 0 (M 0 0 5).toNat) 0 (M 0 0 5).toNat) 0 = D at hTR ⊢
  generalize beginsN (movesN C 0 (M 0 0 5).toNat) 0 (M 0 0 5).toNat = B at hBG hTR ⊢
  generalize movesN C 0 (M 0 0 5).toNat = A at hMV hBG A17
  obtain ⟨g1, g2, -, g4⟩ := hBG
  obtain ⟨h1, h2, h3⟩ := h
  refine ⟨⟨fun z hz => ?_, fun l hl => ?_, ?_⟩, fun z hz => ?_⟩
  · obtain ⟨m4, m⟩ := hMV z
    obtain ⟨b5, b4, b0⟩ := g1 z
    obtain ⟨t4, t5, t0, t3⟩ := hTR z hz
    obtain ⟨i1, i2, i3, i4⟩ := h1 z hz
    refine ⟨fun q => ?_, fun q => ?_, t3, by omega⟩
    · rw [t5, b5]
      rcases t0 with t0 | ⟨t0, t0'⟩
      · rcases b0 with b0 | ⟨b0, b0'⟩
        · rcases m with ⟨m0, m5⟩ | ⟨m0, m0', m5⟩ | ⟨m0, m0', m5⟩
          · have := i1 (by omega)
            omega
          · omega
          · omega
        · omega
      · omega
    · rw [t5, b5]
      rcases m with ⟨m0, m5⟩ | ⟨m0, m0', m5⟩ | ⟨m0, m0', m5⟩
      · rw [m5]
        exact i2 (fun q2 => by
          rcases t0 with t0 | ⟨t0, t0'⟩
          · rcases b0 with b0 | ⟨b0, b0'⟩ <;> omega
          · rcases b0 with b0 | ⟨b0, b0'⟩ <;> omega)
      · exfalso
        rcases t0 with t0 | ⟨t0, t0'⟩
        · rcases b0 with b0 | ⟨b0, b0'⟩ <;> omega
        · rcases b0 with b0 | ⟨b0, b0'⟩ <;> omega
      · rw [m5]
        exact i2 (by omega)
  · have e4 := A17 (12 * 0 + l) 4 (Or.inl rfl)
    have e5 := A17 (12 * 0 + l) 5 (Or.inr rfl)
    obtain ⟨c1, c2, c3, c4⟩ := g2 l
    obtain ⟨k1, k2, k3⟩ := h2 l hl
    omega
  · have s1 : zsum (fun r => D 16 (12 * 0 + r) 4) (C 1 0 6).toNat = zsum (fun r => B 16 (12 * 0 + r) 4) (C 1 0 6).toNat := zsum_congr (fun k hk => (hTR k (by omega)).1)
    have s2 : zsum (fun r => A 16 (12 * 0 + r) 4) (C 1 0 6).toNat = zsum (fun r => C 16 (12 * 0 + r) 4) (C 1 0 6).toNat := zsum_congr (fun k hk => (hMV k).1)
    have s3 : zsum (fun l => A 17 (12 * 0 + l) 4) (C 1 0 5).toNat = zsum (fun l => C 17 (12 * 0 + l) 4) (C 1 0 5).toNat := zsum_congr (fun k hk => A17 _ 4 (Or.inl rfl))
    omega
  · obtain ⟨m4, m⟩ := hMV z
    obtain ⟨b5, b4, b0⟩ := g1 z
    obtain ⟨t4, t5, t0, t3⟩ := hTR z hz
    refine ⟨fun q => ?_, by omega⟩
    rcases m with ⟨m0, m5⟩ | ⟨m0, m0', m5⟩ | ⟨m0, m0', m5⟩
    · rcases t0 with t0 | ⟨t0, t0'⟩
      · rcases b0 with b0 | ⟨b0, b0'⟩ <;> omega
      · rcases b0 with b0 | ⟨b0, b0'⟩ <;> omega
    · omega
    · omega
theorem passN_NI {C M : zM} {T U : Int} (hT : RT C M 0 0) (hS : RS C M) (hw : WTM T U M) (h : NI C) (n : Nat) (h1 : T + n ≤ 1000000) (h2 : U + 48 * n ≤ 100000000) : NI (passN C 0 n) ∧ MO C (passN C 0 n) := by
  induction n with
  | zero => exact ⟨h, fun r hr => ⟨fun _ => rfl, Int.le_refl _⟩⟩
  | succ n ih =>
    obtain ⟨i1, i2⟩ := ih (by omega) (by omega)
    obtain ⟨p1, p2, -⟩ := pass_iter hT hS hw n (by omega) (by omega)
    obtain ⟨k1, k2⟩ := passC_NI p1 (hS.eq (fun f hf => passN_fr (by omega)) (fun f hf => passMN_fr (by omega))) (passMN_wt hw n (by omega) (by omega) p2) i1
    exact ⟨k1, i2.trans k2 (passN_fr (by decide))⟩
