set_option maxHeartbeats 4000000 in
set_option maxRecDepth 100000 in
theorem k_X9_roll (l : Launch) (D : va_G) (tc : Nat → ClassId) (ad : Nat → Nat → Nat) (hI : zI ad okM) (M : zM) {T U : Int} (u : Nat) (q : Int) (hu : u < 2) (hW : WTM T U M) (hl : 0 ≤ q ∧ q ≤ 11) (hU : U + 3 ≤ 100000000) (hR : rollOK M u q) : zMv l yX9_roll cX9_roll 5 none 2 D (tysM tc) ad okM (tmM ad tc) [.ref (ad 11 u), iv q] M (rollM M u q) 0 0 := by
  have h13 : 0 ≤ M 13 u q.toNat ∧ M 13 u q.toNat ≤ 3 := hW.1 13 u _
  have hh := hW.2.2
  refine z_met hI (plainFor_of_name (by decide)) (Nat.le_of_ble_eq_true rfl) ?_
  intro p e s m args below meth c hC hret hlk
  refine z_conv (L2 := [(0, .ref (ad 11 u)), (1, iv q)]) ?_ rfl rfl rfl
  have hc16 : ∀ (d16 : Nat) (j : Nat) (hj : (j : Int) ≤ M 13 u q.toNat), 3 - j = d16 → zV p l e (zrm 2 0 0) s m args below meth c (MQ below (zQv D ad okM (tmM ad tc) (rollM M u q) (zA ad okM s.heap.size)) args s 0 0 (zA ad okM s.heap.size)) D ad okM (tmM ad tc) (zA ad okM s.heap.size) s.heap 5 0 0 ((rollI M u q j).1) [(0, .ref (ad 11 u)), (1, iv q), (2, iv (((rollI M u q j).2 : Nat) : Int)), (3, iv (3 * q + M 13 u q.toNat)), (4, iv ((3 * q.toNat + j : Nat) : Int))] 16 [] := by
    intro d16
    induction d16 using Nat.strongRecOn with
    | _ d16 ih16 =>
      intro j hj hd16
      have hkj := rollI_le M u q j
      have hoj := rollI_out M u q j
      have hWj := rollI_wt hW hR j hj (by omega)
      have hRj := hR j
      obtain ⟨Mj, hMj⟩ : ∃ x, x = (rollI M u q j).1 := ⟨_, rfl⟩
      rw [← hMj]
      rw [← hMj] at hWj hoj hRj
      have hh2 := hWj.2.2
      have hlb := lenM_bd hWj q
      have h15 : -(1000 + (U + j)) ≤ Mj 15 u (3 * q.toNat + j) ∧ Mj 15 u (3 * q.toNat + j) ≤ 1000 := hWj.1 15 u _
      have h14 : -1 ≤ Mj 14 u (3 * q.toNat + j) ∧ Mj 14 u (3 * q.toNat + j) ≤ 11 := hWj.1 14 u _
      have h5 : 0 ≤ Mj 5 0 q.toNat ∧ Mj 5 0 q.toNat ≤ 7 := hWj.1 5 0 _
      refine z_iload hC 4 rfl dX9_roll_16 ?_
      refine z_iload_n hC 3 rfl dX9_roll_18 rfl ?_
      refine z_icmp_ge hC 161 dX9_roll_19 (by decide) (by omega) (by omega) (fun c19 => ?_) (fun c19 => ?_)
      · skip
        have he : j = (M 13 u q.toNat).toNat := by omega
        subst he
        exact z_vret hC hret hlk (by rw [hMj]; rfl) dX9_roll_161
      · skip
        refine z_aload_n hC 0 rfl dX9_roll_22 rfl ?_
        refine z_getR hC zfX9_25 (tmM_11 ad tc _) (okM_11 (by omega)) rfl dX9_roll_23 ?_
        refine z_iload hC 4 rfl dX9_roll_26 ?_
        refine z_dup2 hC dX9_roll_28 rfl rfl ?_
        have hq1 : -(1000 + (U + j)) ≤ Mj 15 u (3 * q.toNat + j) ∧ Mj 15 u (3 * q.toNat + j) ≤ 1000 := hWj.1 15 u (3 * q.toNat + j)
        refine z_iaload hC 0 (3 * q.toNat + j) (tmM_15 ad tc _) (tysM_0 tc) (okM_15 (by omega)) (rfl) (by omega) (by decide) (x := Mj 15 u (3 * q.toNat + j)) (rfl) dX9_roll_29 ?_
        refine z_iconst hC dX9_roll_30 ?_
        refine z_isub hC dX9_roll_31 ?_
        refine z_iastore hC 0 (3 * q.toNat + j) (tmM_15 ad tc _) (tysM_0 tc) (okM_15 (by omega)) (rfl) (by omega) (by decide) dX9_roll_32 ?_
        refine z_aload_n hC 0 rfl dX9_roll_33 rfl ?_
        refine z_getR hC zfX9_25 (tmM_11 ad tc _) (okM_11 (by omega)) rfl dX9_roll_34 ?_
        refine z_iload hC 4 rfl dX9_roll_37 ?_
        refine z_iaload hC 0 (3 * q.toNat + j) (tmM_15 ad tc _) (tysM_0 tc) (okM_15 (by omega)) (rfl) (by omega) (by decide) (x := (Mj 15 u (3 * q.toNat + j)) - 1) (by simp [zup]) dX9_roll_39 ?_
        refine z_if_ne hC 67 dX9_roll_40 (by decide) (by omega) (fun c40 => ?_) (fun c40 => ?_)
        · skip
          have hW3 : WTM T ((U + j + 1)) (zup Mj 15 u (3 * q.toNat + j) ((Mj 15 u (3 * q.toNat + j)) - 1)) := (hWj.mono (T' := T) (U' := U + j + 1) (by omega) (by omega) (by omega) (by omega)).up (f := 15) (by decide) (show _ ∧ _ from ⟨by omega, by omega⟩)
          refine z_aload_n hC 0 rfl dX9_roll_67 rfl ?_
          refine z_getR hC zfX9_25 (tmM_11 ad tc _) (okM_11 (by omega)) rfl dX9_roll_68 ?_
          refine z_iload hC 4 rfl dX9_roll_71 ?_
          refine z_iaload hC 0 (3 * q.toNat + j) (tmM_15 ad tc _) (tysM_0 tc) (okM_15 (by omega)) (rfl) (by omega) (by decide) (x := (Mj 15 u (3 * q.toNat + j)) - 1) (by simp [zup]) dX9_roll_73 ?_
          refine z_if_ne hC 126 dX9_roll_74 (by decide) (by omega) (fun c74 => ?_) (fun c74 => ?_)
          · skip
            refine z_aload_n hC 0 rfl dX9_roll_126 rfl ?_
            refine z_getR hC zfX9_22 (tmM_11 ad tc _) (okM_11 (by omega)) rfl dX9_roll_127 ?_
            refine z_iload_n hC 2 rfl dX9_roll_130 rfl ?_
            refine z_aload_n hC 0 rfl dX9_roll_131 rfl ?_
            refine z_getR hC zfX9_22 (tmM_11 ad tc _) (okM_11 (by omega)) rfl dX9_roll_132 ?_
            refine z_iload hC 4 rfl dX9_roll_135 ?_
            have hq2 : -1 ≤ Mj 14 u (3 * q.toNat + j) ∧ Mj 14 u (3 * q.toNat + j) ≤ 11 := hWj.1 14 u (3 * q.toNat + j)
            refine z_iaload hC 0 (3 * q.toNat + j) (tmM_14 ad tc _) (tysM_0 tc) (okM_14 (by omega)) (rfl) (by omega) (by decide) (x := Mj 14 u (3 * q.toNat + j)) (by simp [zup]) dX9_roll_137 ?_
            refine z_iastore hC 0 ((rollI M u q j).2) (tmM_14 ad tc _) (tysM_0 tc) (okM_14 (by omega)) (rfl) (by omega) (by decide) dX9_roll_138 ?_
            refine z_aload_n hC 0 rfl dX9_roll_139 rfl ?_
            refine z_getR hC zfX9_25 (tmM_11 ad tc _) (okM_11 (by omega)) rfl dX9_roll_140 ?_
            refine z_iload_n hC 2 rfl dX9_roll_143 rfl ?_
            refine z_aload_n hC 0 rfl dX9_roll_144 rfl ?_
            refine z_getR hC zfX9_25 (tmM_11 ad tc _) (okM_11 (by omega)) rfl dX9_roll_145 ?_
            refine z_iload hC 4 rfl dX9_roll_148 ?_
            refine z_iaload hC 0 (3 * q.toNat + j) (tmM_15 ad tc _) (tysM_0 tc) (okM_15 (by omega)) (rfl) (by omega) (by decide) (x := (Mj 15 u (3 * q.toNat + j)) - 1) (by simp [zup]) dX9_roll_150 ?_
            refine z_iastore hC 0 ((rollI M u q j).2) (tmM_15 ad tc _) (tysM_0 tc) (okM_15 (by omega)) (rfl) (by omega) (by decide) dX9_roll_151 ?_
            refine z_iinc hC 2 (L' := [(2, iv ((((rollI M u q j).2 : Nat) : Int) + 1)), (0, .ref (ad 11 u)), (1, iv q), (3, iv (3 * q + M 13 u q.toNat)), (4, iv ((3 * q.toNat + j : Nat) : Int))]) dX9_roll_152 rfl (by decide) rfl ?_
            refine z_iinc hC 4 (L' := [(4, iv (((3 * q.toNat + j : Nat) : Int) + 1)), (2, iv ((((rollI M u q j).2 : Nat) : Int) + 1)), (0, .ref (ad 11 u)), (1, iv q), (3, iv (3 * q + M 13 u q.toNat))]) dX9_roll_155 rfl (by decide) rfl ?_
            refine z_goto hC 16 dX9_roll_158 (by decide) ?_
            refine z_perm [2, 3, 1, 4, 0] (L' := [(0, .ref (ad 11 u)), (1, iv q), (2, iv ((((rollI M u q j).2 : Nat) : Int) + 1)), (3, iv (3 * q + M 13 u q.toNat)), (4, iv (((3 * q.toNat + j : Nat) : Int) + 1))]) rfl ?_
            exact z_conv (ih16 _ (by omega) (j + 1) (by omega) rfl) (by rw [show rollI M u q (j + 1) = rollS u q (3 * q.toNat + j) (rollI M u q j) from rfl]; simp only [rollS, ← hMj]; first | (exfalso; omega) | (rw [if_pos (by assumption), if_pos (by assumption)]; done) | (rw [if_pos (by assumption), if_neg (by assumption)]; (try rfl); done) | (rw [if_neg (by assumption)]; (try rfl); done)) (by rw [show rollI M u q (j + 1) = rollS u q (3 * q.toNat + j) (rollI M u q j) from rfl]; simp only [rollS, ← hMj]; first | (exfalso; omega) | (rw [if_pos (by assumption), if_pos (by assumption)]; (try rfl); done) | (rw [if_pos (by assumption), if_neg (by assumption)]; (try rfl); done) | (rw [if_neg (by assumption)]; (try rfl); done)) (by rfl)
          · skip
            refine z_aload_n hC 0 rfl dX9_roll_77 rfl ?_
            refine z_aload_n hC 0 rfl dX9_roll_78 rfl ?_
            refine z_getR hC zfX9_22 (tmM_11 ad tc _) (okM_11 (by omega)) rfl dX9_roll_79 ?_
            refine z_iload hC 4 rfl dX9_roll_82 ?_
            have hq3 : -1 ≤ Mj 14 u (3 * q.toNat + j) ∧ Mj 14 u (3 * q.toNat + j) ≤ 11 := hWj.1 14 u (3 * q.toNat + j)
            refine z_iaload hC 0 (3 * q.toNat + j) (tmM_14 ad tc _) (tysM_0 tc) (okM_14 (by omega)) (rfl) (by omega) (by decide) (x := Mj 14 u (3 * q.toNat + j)) (by simp [zup]) dX9_roll_84 ?_
            refine z_aload_n hC 0 rfl dX9_roll_85 rfl ?_
            refine z_getR hC zfX9_3 (tmM_11 ad tc _) (okM_11 (by omega)) rfl dX9_roll_86 ?_
            refine z_getRN hC zfX9_106 (tmM_0 ad tc _) (okM_0 (by omega)) rfl dX9_roll_89 ?_
            refine z_iload_n hC 1 rfl dX9_roll_92 rfl ?_
            have hq4 : 0 ≤ Mj 5 0 ((q).toNat) ∧ Mj 5 0 ((q).toNat) ≤ 7 := hWj.1 5 0 ((q).toNat)
            refine z_iaload hC 0 ((q).toNat) (tmM_5 ad tc _) (tysM_0 tc) (okM_5 (by omega)) (by omega) (by omega) (by decide) (x := Mj 5 0 ((q).toNat)) (by simp [zup]) dX9_roll_93 ?_
            refine z_callVv hC zlX9_109 (k_X9_come l D tc ad hI (zup Mj 15 u (3 * q.toNat + j) ((Mj 15 u (3 * q.toNat + j)) - 1)) u (Mj 14 u (3 * q.toNat + j)) (Mj 5 0 ((q).toNat)) (by omega) hW3 ⟨by omega, by omega⟩ ⟨by omega, by omega⟩ (by rw [zup_fr (show 18 ≠ 15 by decide)]; first | (exfalso; omega) | exact hRj (by omega) (by assumption) (by assumption))) (tmM_11 ad tc _) rfl (okM_11 (by omega)) rfl rfl (Nat.le_of_ble_eq_true rfl) ⟨by decide, by decide⟩ ⟨by decide, by decide⟩ dX9_roll_94 ?_
            refine z_aload_n hC 0 rfl dX9_roll_97 rfl ?_
            refine z_getR hC zfX9_22 (tmM_11 ad tc _) (okM_11 (by omega)) rfl dX9_roll_98 ?_
            refine z_iload hC 4 rfl dX9_roll_101 ?_
            refine z_iconst hC dX9_roll_103 ?_
            refine z_iastore hC 0 (3 * q.toNat + j) (tmM_14 ad tc _) (tysM_0 tc) (okM_14 (by omega)) (rfl) (by omega) (by decide) dX9_roll_104 ?_
            refine z_aload_n hC 0 rfl dX9_roll_105 rfl ?_
            refine z_getR hC zfX9_25 (tmM_11 ad tc _) (okM_11 (by omega)) rfl dX9_roll_106 ?_
            refine z_iload hC 4 rfl dX9_roll_109 ?_
            have hW4 : WTM T ((U + j + 1)) (zup (comeM (zup Mj 15 u (3 * q.toNat + j) ((Mj 15 u (3 * q.toNat + j)) - 1)) u (Mj 14 u (3 * q.toNat + j)) (Mj 5 0 ((q).toNat))) 14 u (3 * q.toNat + j) (-1)) := (comeM_wt hW3 ⟨by omega, by omega⟩ ⟨by omega, by omega⟩ (by rw [zup_fr (show 18 ≠ 15 by decide)]; first | (exfalso; omega) | exact hRj (by omega) (by assumption) (by assumption))).up (f := 14) (by decide) (show _ ∧ _ from ⟨by omega, by omega⟩)
            refine z_aload_n hC 0 rfl dX9_roll_111 rfl ?_
            refine z_getR hC zfX9_3 (tmM_11 ad tc _) (okM_11 (by omega)) rfl dX9_roll_112 ?_
            refine z_iload_n hC 1 rfl dX9_roll_115 rfl ?_
            refine z_callViN hC zlX9_113 (k_X10_lengthOf l D tc ad hI (zup (comeM (zup Mj 15 u (3 * q.toNat + j) ((Mj 15 u (3 * q.toNat + j)) - 1)) u (Mj 14 u (3 * q.toNat + j)) (Mj 5 0 ((q).toNat))) 14 u (3 * q.toNat + j) (-1)) q hW4 (by omega)) (tmM_0 ad tc _) rfl (okM_0 (by omega)) rfl rfl (Nat.le_of_ble_eq_true rfl) ⟨by decide, by decide⟩ ⟨by decide, by decide⟩ dX9_roll_116 ?_
            have hle : lenM (zup (comeM (zup Mj 15 u (3 * q.toNat + j) ((Mj 15 u (3 * q.toNat + j)) - 1)) u (Mj 14 u (3 * q.toNat + j)) (Mj 5 0 ((q).toNat))) 14 u (3 * q.toNat + j) (-1)) q = lenM Mj q := lenM_eq (fun f hf => by rw [zup_fr (by omega), comeM_fr (by omega), zup_fr (by omega)])
            rw [hle]
            refine z_bipush hC dX9_roll_119 (by decide) ?_
            refine z_iadd hC dX9_roll_121 ?_
            refine z_bipush hC dX9_roll_122 (by decide) ?_
            refine z_idiv hC dX9_roll_124 (by omega) (by omega) ?_
            refine z_iastore hC 0 (3 * q.toNat + j) (tmM_15 ad tc _) (tysM_0 tc) (okM_15 (by omega)) (rfl) (by omega) (by decide) dX9_roll_125 ?_
            refine z_aload_n hC 0 rfl dX9_roll_126 rfl ?_
            refine z_getR hC zfX9_22 (tmM_11 ad tc _) (okM_11 (by omega)) rfl dX9_roll_127 ?_
            refine z_iload_n hC 2 rfl dX9_roll_130 rfl ?_
            refine z_aload_n hC 0 rfl dX9_roll_131 rfl ?_
            refine z_getR hC zfX9_22 (tmM_11 ad tc _) (okM_11 (by omega)) rfl dX9_roll_132 ?_
            refine z_iload hC 4 rfl dX9_roll_135 ?_
            refine z_iaload hC 0 (3 * q.toNat + j) (tmM_14 ad tc _) (tysM_0 tc) (okM_14 (by omega)) (rfl) (by omega) (by decide) (x := -1) (by simp [zup]) dX9_roll_137 ?_
            refine z_iastore hC 0 ((rollI M u q j).2) (tmM_14 ad tc _) (tysM_0 tc) (okM_14 (by omega)) (rfl) (by omega) (by decide) dX9_roll_138 ?_
            refine z_aload_n hC 0 rfl dX9_roll_139 rfl ?_
            refine z_getR hC zfX9_25 (tmM_11 ad tc _) (okM_11 (by omega)) rfl dX9_roll_140 ?_
            refine z_iload_n hC 2 rfl dX9_roll_143 rfl ?_
            refine z_aload_n hC 0 rfl dX9_roll_144 rfl ?_
            refine z_getR hC zfX9_25 (tmM_11 ad tc _) (okM_11 (by omega)) rfl dX9_roll_145 ?_
            refine z_iload hC 4 rfl dX9_roll_148 ?_
            refine z_iaload hC 0 (3 * q.toNat + j) (tmM_15 ad tc _) (tysM_0 tc) (okM_15 (by omega)) (rfl) (by omega) (by decide) (x := ((lenM Mj q) + 9) / 10) (by simp [zup]) dX9_roll_150 ?_
            refine z_iastore hC 0 ((rollI M u q j).2) (tmM_15 ad tc _) (tysM_0 tc) (okM_15 (by omega)) (rfl) (by omega) (by decide) dX9_roll_151 ?_
            refine z_iinc hC 2 (L' := [(2, iv ((((rollI M u q j).2 : Nat) : Int) + 1)), (0, .ref (ad 11 u)), (1, iv q), (3, iv (3 * q + M 13 u q.toNat)), (4, iv ((3 * q.toNat + j : Nat) : Int))]) dX9_roll_152 rfl (by decide) rfl ?_
            refine z_iinc hC 4 (L' := [(4, iv (((3 * q.toNat + j : Nat) : Int) + 1)), (2, iv ((((rollI M u q j).2 : Nat) : Int) + 1)), (0, .ref (ad 11 u)), (1, iv q), (3, iv (3 * q + M 13 u q.toNat))]) dX9_roll_155 rfl (by decide) rfl ?_
            refine z_goto hC 16 dX9_roll_158 (by decide) ?_
            refine z_perm [2, 3, 1, 4, 0] (L' := [(0, .ref (ad 11 u)), (1, iv q), (2, iv ((((rollI M u q j).2 : Nat) : Int) + 1)), (3, iv (3 * q + M 13 u q.toNat)), (4, iv (((3 * q.toNat + j : Nat) : Int) + 1))]) rfl ?_
            exact z_conv (ih16 _ (by omega) (j + 1) (by omega) rfl) (by rw [show rollI M u q (j + 1) = rollS u q (3 * q.toNat + j) (rollI M u q j) from rfl]; simp only [rollS, ← hMj]; first | (exfalso; omega) | (rw [if_pos (by assumption), if_pos (by assumption)]; done) | (rw [if_pos (by assumption), if_neg (by assumption)]; (try rfl); done) | (rw [if_neg (by assumption)]; (try rfl); done)) (by rw [show rollI M u q (j + 1) = rollS u q (3 * q.toNat + j) (rollI M u q j) from rfl]; simp only [rollS, ← hMj]; first | (exfalso; omega) | (rw [if_pos (by assumption), if_pos (by assumption)]; (try rfl); done) | (rw [if_pos (by assumption), if_neg (by assumption)]; (try rfl); done) | (rw [if_neg (by assumption)]; (try rfl); done)) (by rfl)
        · skip
          refine z_aload_n hC 0 rfl dX9_roll_43 rfl ?_
          refine z_getR hC zfX9_22 (tmM_11 ad tc _) (okM_11 (by omega)) rfl dX9_roll_44 ?_
          refine z_iload hC 4 rfl dX9_roll_47 ?_
          have hq5 : -1 ≤ Mj 14 u (3 * q.toNat + j) ∧ Mj 14 u (3 * q.toNat + j) ≤ 11 := hWj.1 14 u (3 * q.toNat + j)
          refine z_iaload hC 0 (3 * q.toNat + j) (tmM_14 ad tc _) (tysM_0 tc) (okM_14 (by omega)) (rfl) (by omega) (by decide) (x := Mj 14 u (3 * q.toNat + j)) (by simp [zup]) dX9_roll_49 ?_
          refine z_iconst hC dX9_roll_50 ?_
          refine z_icmp_ne hC 67 dX9_roll_51 (by decide) (by omega) (by omega) (fun c51 => ?_) (fun c51 => ?_)
          · skip
            have hW3 : WTM T ((U + j + 1)) (zup Mj 15 u (3 * q.toNat + j) ((Mj 15 u (3 * q.toNat + j)) - 1)) := (hWj.mono (T' := T) (U' := U + j + 1) (by omega) (by omega) (by omega) (by omega)).up (f := 15) (by decide) (show _ ∧ _ from ⟨by omega, by omega⟩)
            refine z_aload_n hC 0 rfl dX9_roll_67 rfl ?_
            refine z_getR hC zfX9_25 (tmM_11 ad tc _) (okM_11 (by omega)) rfl dX9_roll_68 ?_
            refine z_iload hC 4 rfl dX9_roll_71 ?_
            refine z_iaload hC 0 (3 * q.toNat + j) (tmM_15 ad tc _) (tysM_0 tc) (okM_15 (by omega)) (rfl) (by omega) (by decide) (x := (Mj 15 u (3 * q.toNat + j)) - 1) (by simp [zup]) dX9_roll_73 ?_
            refine z_if_ne hC 126 dX9_roll_74 (by decide) (by omega) (fun c74 => ?_) (fun c74 => ?_)
            · skip
              refine z_aload_n hC 0 rfl dX9_roll_126 rfl ?_
              refine z_getR hC zfX9_22 (tmM_11 ad tc _) (okM_11 (by omega)) rfl dX9_roll_127 ?_
              refine z_iload_n hC 2 rfl dX9_roll_130 rfl ?_
              refine z_aload_n hC 0 rfl dX9_roll_131 rfl ?_
              refine z_getR hC zfX9_22 (tmM_11 ad tc _) (okM_11 (by omega)) rfl dX9_roll_132 ?_
              refine z_iload hC 4 rfl dX9_roll_135 ?_
              have hq6 : -1 ≤ Mj 14 u (3 * q.toNat + j) ∧ Mj 14 u (3 * q.toNat + j) ≤ 11 := hWj.1 14 u (3 * q.toNat + j)
              refine z_iaload hC 0 (3 * q.toNat + j) (tmM_14 ad tc _) (tysM_0 tc) (okM_14 (by omega)) (rfl) (by omega) (by decide) (x := Mj 14 u (3 * q.toNat + j)) (by simp [zup]) dX9_roll_137 ?_
              refine z_iastore hC 0 ((rollI M u q j).2) (tmM_14 ad tc _) (tysM_0 tc) (okM_14 (by omega)) (rfl) (by omega) (by decide) dX9_roll_138 ?_
              refine z_aload_n hC 0 rfl dX9_roll_139 rfl ?_
              refine z_getR hC zfX9_25 (tmM_11 ad tc _) (okM_11 (by omega)) rfl dX9_roll_140 ?_
              refine z_iload_n hC 2 rfl dX9_roll_143 rfl ?_
              refine z_aload_n hC 0 rfl dX9_roll_144 rfl ?_
              refine z_getR hC zfX9_25 (tmM_11 ad tc _) (okM_11 (by omega)) rfl dX9_roll_145 ?_
              refine z_iload hC 4 rfl dX9_roll_148 ?_
              refine z_iaload hC 0 (3 * q.toNat + j) (tmM_15 ad tc _) (tysM_0 tc) (okM_15 (by omega)) (rfl) (by omega) (by decide) (x := (Mj 15 u (3 * q.toNat + j)) - 1) (by simp [zup]) dX9_roll_150 ?_
              refine z_iastore hC 0 ((rollI M u q j).2) (tmM_15 ad tc _) (tysM_0 tc) (okM_15 (by omega)) (rfl) (by omega) (by decide) dX9_roll_151 ?_
              refine z_iinc hC 2 (L' := [(2, iv ((((rollI M u q j).2 : Nat) : Int) + 1)), (0, .ref (ad 11 u)), (1, iv q), (3, iv (3 * q + M 13 u q.toNat)), (4, iv ((3 * q.toNat + j : Nat) : Int))]) dX9_roll_152 rfl (by decide) rfl ?_
              refine z_iinc hC 4 (L' := [(4, iv (((3 * q.toNat + j : Nat) : Int) + 1)), (2, iv ((((rollI M u q j).2 : Nat) : Int) + 1)), (0, .ref (ad 11 u)), (1, iv q), (3, iv (3 * q + M 13 u q.toNat))]) dX9_roll_155 rfl (by decide) rfl ?_
              refine z_goto hC 16 dX9_roll_158 (by decide) ?_
              refine z_perm [2, 3, 1, 4, 0] (L' := [(0, .ref (ad 11 u)), (1, iv q), (2, iv ((((rollI M u q j).2 : Nat) : Int) + 1)), (3, iv (3 * q + M 13 u q.toNat)), (4, iv (((3 * q.toNat + j : Nat) : Int) + 1))]) rfl ?_
              exact z_conv (ih16 _ (by omega) (j + 1) (by omega) rfl) (by rw [show rollI M u q (j + 1) = rollS u q (3 * q.toNat + j) (rollI M u q j) from rfl]; simp only [rollS, ← hMj]; first | (exfalso; omega) | (rw [if_pos (by assumption), if_pos (by assumption)]; done) | (rw [if_pos (by assumption), if_neg (by assumption)]; (try rfl); done) | (rw [if_neg (by assumption)]; (try rfl); done)) (by rw [show rollI M u q (j + 1) = rollS u q (3 * q.toNat + j) (rollI M u q j) from rfl]; simp only [rollS, ← hMj]; first | (exfalso; omega) | (rw [if_pos (by assumption), if_pos (by assumption)]; (try rfl); done) | (rw [if_pos (by assumption), if_neg (by assumption)]; (try rfl); done) | (rw [if_neg (by assumption)]; (try rfl); done)) (by rfl)
            · skip
              refine z_aload_n hC 0 rfl dX9_roll_77 rfl ?_
              refine z_aload_n hC 0 rfl dX9_roll_78 rfl ?_
              refine z_getR hC zfX9_22 (tmM_11 ad tc _) (okM_11 (by omega)) rfl dX9_roll_79 ?_
              refine z_iload hC 4 rfl dX9_roll_82 ?_
              have hq7 : -1 ≤ Mj 14 u (3 * q.toNat + j) ∧ Mj 14 u (3 * q.toNat + j) ≤ 11 := hWj.1 14 u (3 * q.toNat + j)
              refine z_iaload hC 0 (3 * q.toNat + j) (tmM_14 ad tc _) (tysM_0 tc) (okM_14 (by omega)) (rfl) (by omega) (by decide) (x := Mj 14 u (3 * q.toNat + j)) (by simp [zup]) dX9_roll_84 ?_
              refine z_aload_n hC 0 rfl dX9_roll_85 rfl ?_
              refine z_getR hC zfX9_3 (tmM_11 ad tc _) (okM_11 (by omega)) rfl dX9_roll_86 ?_
              refine z_getRN hC zfX9_106 (tmM_0 ad tc _) (okM_0 (by omega)) rfl dX9_roll_89 ?_
              refine z_iload_n hC 1 rfl dX9_roll_92 rfl ?_
              have hq8 : 0 ≤ Mj 5 0 ((q).toNat) ∧ Mj 5 0 ((q).toNat) ≤ 7 := hWj.1 5 0 ((q).toNat)
              refine z_iaload hC 0 ((q).toNat) (tmM_5 ad tc _) (tysM_0 tc) (okM_5 (by omega)) (by omega) (by omega) (by decide) (x := Mj 5 0 ((q).toNat)) (by simp [zup]) dX9_roll_93 ?_
              refine z_callVv hC zlX9_109 (k_X9_come l D tc ad hI (zup Mj 15 u (3 * q.toNat + j) ((Mj 15 u (3 * q.toNat + j)) - 1)) u (Mj 14 u (3 * q.toNat + j)) (Mj 5 0 ((q).toNat)) (by omega) hW3 ⟨by omega, by omega⟩ ⟨by omega, by omega⟩ (by rw [zup_fr (show 18 ≠ 15 by decide)]; first | (exfalso; omega) | exact hRj (by omega) (by assumption) (by assumption))) (tmM_11 ad tc _) rfl (okM_11 (by omega)) rfl rfl (Nat.le_of_ble_eq_true rfl) ⟨by decide, by decide⟩ ⟨by decide, by decide⟩ dX9_roll_94 ?_
              refine z_aload_n hC 0 rfl dX9_roll_97 rfl ?_
              refine z_getR hC zfX9_22 (tmM_11 ad tc _) (okM_11 (by omega)) rfl dX9_roll_98 ?_
              refine z_iload hC 4 rfl dX9_roll_101 ?_
              refine z_iconst hC dX9_roll_103 ?_
              refine z_iastore hC 0 (3 * q.toNat + j) (tmM_14 ad tc _) (tysM_0 tc) (okM_14 (by omega)) (rfl) (by omega) (by decide) dX9_roll_104 ?_
              refine z_aload_n hC 0 rfl dX9_roll_105 rfl ?_
              refine z_getR hC zfX9_25 (tmM_11 ad tc _) (okM_11 (by omega)) rfl dX9_roll_106 ?_
              refine z_iload hC 4 rfl dX9_roll_109 ?_
              have hW4 : WTM T ((U + j + 1)) (zup (comeM (zup Mj 15 u (3 * q.toNat + j) ((Mj 15 u (3 * q.toNat + j)) - 1)) u (Mj 14 u (3 * q.toNat + j)) (Mj 5 0 ((q).toNat))) 14 u (3 * q.toNat + j) (-1)) := (comeM_wt hW3 ⟨by omega, by omega⟩ ⟨by omega, by omega⟩ (by rw [zup_fr (show 18 ≠ 15 by decide)]; first | (exfalso; omega) | exact hRj (by omega) (by assumption) (by assumption))).up (f := 14) (by decide) (show _ ∧ _ from ⟨by omega, by omega⟩)
              refine z_aload_n hC 0 rfl dX9_roll_111 rfl ?_
              refine z_getR hC zfX9_3 (tmM_11 ad tc _) (okM_11 (by omega)) rfl dX9_roll_112 ?_
              refine z_iload_n hC 1 rfl dX9_roll_115 rfl ?_
              refine z_callViN hC zlX9_113 (k_X10_lengthOf l D tc ad hI (zup (comeM (zup Mj 15 u (3 * q.toNat + j) ((Mj 15 u (3 * q.toNat + j)) - 1)) u (Mj 14 u (3 * q.toNat + j)) (Mj 5 0 ((q).toNat))) 14 u (3 * q.toNat + j) (-1)) q hW4 (by omega)) (tmM_0 ad tc _) rfl (okM_0 (by omega)) rfl rfl (Nat.le_of_ble_eq_true rfl) ⟨by decide, by decide⟩ ⟨by decide, by decide⟩ dX9_roll_116 ?_
              have hle : lenM (zup (comeM (zup Mj 15 u (3 * q.toNat + j) ((Mj 15 u (3 * q.toNat + j)) - 1)) u (Mj 14 u (3 * q.toNat + j)) (Mj 5 0 ((q).toNat))) 14 u (3 * q.toNat + j) (-1)) q = lenM Mj q := lenM_eq (fun f hf => by rw [zup_fr (by omega), comeM_fr (by omega), zup_fr (by omega)])
              rw [hle]
              refine z_bipush hC dX9_roll_119 (by decide) ?_
              refine z_iadd hC dX9_roll_121 ?_
              refine z_bipush hC dX9_roll_122 (by decide) ?_
              refine z_idiv hC dX9_roll_124 (by omega) (by omega) ?_
              refine z_iastore hC 0 (3 * q.toNat + j) (tmM_15 ad tc _) (tysM_0 tc) (okM_15 (by omega)) (rfl) (by omega) (by decide) dX9_roll_125 ?_
              refine z_aload_n hC 0 rfl dX9_roll_126 rfl ?_
              refine z_getR hC zfX9_22 (tmM_11 ad tc _) (okM_11 (by omega)) rfl dX9_roll_127 ?_
              refine z_iload_n hC 2 rfl dX9_roll_130 rfl ?_
              refine z_aload_n hC 0 rfl dX9_roll_131 rfl ?_
              refine z_getR hC zfX9_22 (tmM_11 ad tc _) (okM_11 (by omega)) rfl dX9_roll_132 ?_
              refine z_iload hC 4 rfl dX9_roll_135 ?_
              refine z_iaload hC 0 (3 * q.toNat + j) (tmM_14 ad tc _) (tysM_0 tc) (okM_14 (by omega)) (rfl) (by omega) (by decide) (x := -1) (by simp [zup]) dX9_roll_137 ?_
              refine z_iastore hC 0 ((rollI M u q j).2) (tmM_14 ad tc _) (tysM_0 tc) (okM_14 (by omega)) (rfl) (by omega) (by decide) dX9_roll_138 ?_
              refine z_aload_n hC 0 rfl dX9_roll_139 rfl ?_
              refine z_getR hC zfX9_25 (tmM_11 ad tc _) (okM_11 (by omega)) rfl dX9_roll_140 ?_
              refine z_iload_n hC 2 rfl dX9_roll_143 rfl ?_
              refine z_aload_n hC 0 rfl dX9_roll_144 rfl ?_
              refine z_getR hC zfX9_25 (tmM_11 ad tc _) (okM_11 (by omega)) rfl dX9_roll_145 ?_
              refine z_iload hC 4 rfl dX9_roll_148 ?_
              refine z_iaload hC 0 (3 * q.toNat + j) (tmM_15 ad tc _) (tysM_0 tc) (okM_15 (by omega)) (rfl) (by omega) (by decide) (x := ((lenM Mj q) + 9) / 10) (by simp [zup]) dX9_roll_150 ?_
              refine z_iastore hC 0 ((rollI M u q j).2) (tmM_15 ad tc _) (tysM_0 tc) (okM_15 (by omega)) (rfl) (by omega) (by decide) dX9_roll_151 ?_
              refine z_iinc hC 2 (L' := [(2, iv ((((rollI M u q j).2 : Nat) : Int) + 1)), (0, .ref (ad 11 u)), (1, iv q), (3, iv (3 * q + M 13 u q.toNat)), (4, iv ((3 * q.toNat + j : Nat) : Int))]) dX9_roll_152 rfl (by decide) rfl ?_
              refine z_iinc hC 4 (L' := [(4, iv (((3 * q.toNat + j : Nat) : Int) + 1)), (2, iv ((((rollI M u q j).2 : Nat) : Int) + 1)), (0, .ref (ad 11 u)), (1, iv q), (3, iv (3 * q + M 13 u q.toNat))]) dX9_roll_155 rfl (by decide) rfl ?_
              refine z_goto hC 16 dX9_roll_158 (by decide) ?_
              refine z_perm [2, 3, 1, 4, 0] (L' := [(0, .ref (ad 11 u)), (1, iv q), (2, iv ((((rollI M u q j).2 : Nat) : Int) + 1)), (3, iv (3 * q + M 13 u q.toNat)), (4, iv (((3 * q.toNat + j : Nat) : Int) + 1))]) rfl ?_
              exact z_conv (ih16 _ (by omega) (j + 1) (by omega) rfl) (by rw [show rollI M u q (j + 1) = rollS u q (3 * q.toNat + j) (rollI M u q j) from rfl]; simp only [rollS, ← hMj]; first | (exfalso; omega) | (rw [if_pos (by assumption), if_pos (by assumption)]; done) | (rw [if_pos (by assumption), if_neg (by assumption)]; (try rfl); done) | (rw [if_neg (by assumption)]; (try rfl); done)) (by rw [show rollI M u q (j + 1) = rollS u q (3 * q.toNat + j) (rollI M u q j) from rfl]; simp only [rollS, ← hMj]; first | (exfalso; omega) | (rw [if_pos (by assumption), if_pos (by assumption)]; (try rfl); done) | (rw [if_pos (by assumption), if_neg (by assumption)]; (try rfl); done) | (rw [if_neg (by assumption)]; (try rfl); done)) (by rfl)
          · skip
            refine z_aload_n hC 0 rfl dX9_roll_54 rfl ?_
            refine z_getR hC zfX9_19 (tmM_11 ad tc _) (okM_11 (by omega)) rfl dX9_roll_55 ?_
            refine z_iload_n hC 1 rfl dX9_roll_58 rfl ?_
            refine z_dup2 hC dX9_roll_59 rfl rfl ?_
            have hq9 : 0 ≤ Mj 13 u ((q).toNat) ∧ Mj 13 u ((q).toNat) ≤ 3 := hWj.1 13 u ((q).toNat)
            refine z_iaload hC 0 ((q).toNat) (tmM_13 ad tc _) (tysM_0 tc) (okM_13 (by omega)) (by omega) (by omega) (by decide) (x := Mj 13 u ((q).toNat)) (by simp [zup]) dX9_roll_60 ?_
            refine z_iconst hC dX9_roll_61 ?_
            refine z_isub hC dX9_roll_62 ?_
            refine z_iastore hC 0 ((q).toNat) (tmM_13 ad tc _) (tysM_0 tc) (okM_13 (by omega)) (by omega) (by omega) (by decide) dX9_roll_63 ?_
            refine z_goto hC 155 dX9_roll_64 (by decide) ?_
            refine z_iinc hC 4 (L' := [(4, iv (((3 * q.toNat + j : Nat) : Int) + 1)), (0, .ref (ad 11 u)), (1, iv q), (2, iv (((rollI M u q j).2 : Nat) : Int)), (3, iv (3 * q + M 13 u q.toNat))]) dX9_roll_155 rfl (by decide) rfl ?_
            refine z_goto hC 16 dX9_roll_158 (by decide) ?_
            refine z_perm [1, 2, 3, 4, 0] (L' := [(0, .ref (ad 11 u)), (1, iv q), (2, iv (((rollI M u q j).2 : Nat) : Int)), (3, iv (3 * q + M 13 u q.toNat)), (4, iv (((3 * q.toNat + j : Nat) : Int) + 1))]) rfl ?_
            exact z_conv (ih16 _ (by omega) (j + 1) (by omega) rfl) (by rw [show rollI M u q (j + 1) = rollS u q (3 * q.toNat + j) (rollI M u q j) from rfl]; simp only [rollS, ← hMj]; first | (exfalso; omega) | (rw [if_pos (by assumption), if_pos (by assumption)]; done) | (rw [if_pos (by assumption), if_neg (by assumption)]; (try rfl); done) | (rw [if_neg (by assumption)]; (try rfl); done)) (by rw [show rollI M u q (j + 1) = rollS u q (3 * q.toNat + j) (rollI M u q j) from rfl]; simp only [rollS, ← hMj]; first | (exfalso; omega) | (rw [if_pos (by assumption), if_pos (by assumption)]; (try rfl); done) | (rw [if_pos (by assumption), if_neg (by assumption)]; (try rfl); done) | (rw [if_neg (by assumption)]; (try rfl); done)) (by rfl)
  refine z_iconst hC dX9_roll_0 ?_
  refine z_iload_n hC 1 rfl dX9_roll_1 rfl ?_
  refine z_imul hC dX9_roll_2 ?_
  refine z_istore_n hC (L' := [(2, iv (3 * q)), (0, .ref (ad 11 u)), (1, iv q)]) dX9_roll_3 rfl (by decide) rfl ?_
  refine z_iload_n hC 0 rfl dX9_roll_4 rfl ?_
  refine z_aload_n hC 1 rfl dX9_roll_5 rfl ?_
  refine z_getR hC zfX9_19 (tmM_11 ad tc _) (okM_11 (by omega)) rfl dX9_roll_6 ?_
  refine z_iload_n hC 2 rfl dX9_roll_9 rfl ?_
  have hq10 : 0 ≤ M 13 u ((q).toNat) ∧ M 13 u ((q).toNat) ≤ 3 := hW.1 13 u ((q).toNat)
  refine z_iaload hC 0 ((q).toNat) (tmM_13 ad tc _) (tysM_0 tc) (okM_13 (by omega)) (by omega) (by omega) (by decide) (x := M 13 u ((q).toNat)) (rfl) dX9_roll_10 ?_
  refine z_iadd hC dX9_roll_11 ?_
  refine z_istore_n hC (L' := [(3, iv ((3 * q) + (M 13 u ((q).toNat)))), (2, iv (3 * q)), (0, .ref (ad 11 u)), (1, iv q)]) dX9_roll_12 rfl (by decide) rfl ?_
  refine z_iload_n hC 1 rfl dX9_roll_13 rfl ?_
  refine z_istore hC (L' := [(4, iv (3 * q)), (3, iv ((3 * q) + (M 13 u ((q).toNat)))), (2, iv (3 * q)), (0, .ref (ad 11 u)), (1, iv q)]) dX9_roll_14 (by decide) rfl ?_
  refine z_perm [3, 4, 2, 1, 0] (L' := [(0, .ref (ad 11 u)), (1, iv q), (2, iv (3 * q)), (3, iv ((3 * q) + (M 13 u ((q).toNat)))), (4, iv (3 * q))]) rfl ?_
  exact z_conv (hc16 _ 0 (by omega) rfl) (by rfl) (by simp [rollI, Int.toNat_of_nonneg hl.1]) (by rfl)
set_option maxHeartbeats 4000000 in
set_option maxRecDepth 100000 in
theorem k_X9_pass (l : Launch) (D : va_G) (tc : Nat → ClassId) (ad : Nat → Nat → Nat) (hI : zI ad okM) (M : zM) {T U : Int} (u : Nat) (hu : u < 2) (hW : WTM T U M) (hU : U + 48 ≤ 100000000) (hT : T + 1 ≤ 1000000) (hP : passOK M u) : zMi l yX9_pass cX9_pass 3 (some .int) 64 D (tysM tc) ad okM (tmM ad tc) [.ref (ad 11 u)] M (manyM (passM M u) u 2 - manyM M u 2) (passM M u) 0 0 := by
  have hlc : 0 ≤ M 0 0 5 ∧ M 0 0 5 ≤ 12 := hW.1 0 0 5
  have hrc : 0 ≤ M 0 0 10 ∧ M 0 0 10 ≤ 12 := hW.1 0 0 10
  have hh := hW.2.2
  have hmb0 := zcnt_le (fun j => M 20 u j = 2) (M 0 0 10).toNat
  have hmb : 0 ≤ manyM M u 2 ∧ manyM M u 2 ≤ 12 := by simp only [manyM]; omega
  refine z_met hI (plainFor_of_name (by decide)) (Nat.le_of_ble_eq_true rfl) ?_
  intro p e s m args below meth c hC hret hlk
  refine z_conv (L2 := [(0, .ref (ad 11 u))]) ?_ rfl rfl rfl
  have hc86 : ∀ (d86 : Nat) (j : Nat) (hj : j ≤ (M 0 0 10).toNat), (M 0 0 10).toNat - j = d86 → zV p l e (zrm 64 0 0) s m args below meth c (MQ below (zQi D ad okM (tmM ad tc) (manyM (passM M u) u 2 - manyM M u 2) (passM M u) (zA ad okM s.heap.size)) args s 0 0 (zA ad okM s.heap.size)) D ad okM (tmM ad tc) (zA ad okM s.heap.size) s.heap 3 0 0 (tiresM (begun M u) u j) [(0, .ref (ad 11 u)), (1, iv (manyM M u 2)), (2, iv ((j : Nat) : Int))] 86 [] := by
    intro d86
    induction d86 using Nat.strongRecOn with
    | _ d86 ih86 =>
      intro j hj hd86
      have hWr := begun_wt hW hP (by omega)
      have hWj := tiresM_wt (u := u) hWr j (by omega) (fun l hl => hP.2.2 l (by omega))
      have h010 : tiresM (begun M u) u j 0 0 10 = M 0 0 10 := by rw [tiresM_fr (by decide), begun_fr (by decide)]
      have h110 : tiresM (begun M u) u j 11 u 0 = M 11 u 0 := by rw [tiresM_fr (by decide), begun_fr (by decide)]
      have hSj := hP.2.2 j
      obtain ⟨Mj, hMj⟩ : ∃ x, x = tiresM (begun M u) u j := ⟨_, rfl⟩
      rw [← hMj]
      rw [← hMj] at hWj h010 h110 hSj
      have h11 : 0 ≤ Mj 11 u 0 ∧ Mj 11 u 0 ≤ T := hWj.1 11 u 0
      refine z_iload_n hC 2 rfl dX9_pass_86 rfl ?_
      refine z_aload_n hC 0 rfl dX9_pass_87 rfl ?_
      refine z_getR hC zfX9_3 (tmM_11 ad tc _) (okM_11 (by omega)) rfl dX9_pass_88 ?_
      have hq1 : 0 ≤ Mj 0 0 10 ∧ Mj 0 0 10 ≤ 12 := hWj.1 0 0 10
      refine z_getIN hC zfX9_69 (tmM_0 ad tc _) (okM_0 (by omega)) rfl (x := Mj 0 0 10) (rfl) dX9_pass_91 ?_
      refine z_icmp_ge hC 193 dX9_pass_94 (by decide) (by omega) (by omega) (fun c94 => ?_) (fun c94 => ?_)
      · skip
        have he : j = (M 0 0 10).toNat := by omega
        subst he
        refine z_aload_n hC 0 rfl dX9_pass_193 rfl ?_
        refine z_dup hC dX9_pass_194 rfl ?_
        have hq2 : 0 ≤ Mj 11 u 0 ∧ Mj 11 u 0 ≤ T := hWj.1 11 u 0
        refine z_getI hC zfX9_61 (tmM_11 ad tc _) (okM_11 (by omega)) rfl (x := Mj 11 u 0) (rfl) dX9_pass_195 ?_
        refine z_iconst hC dX9_pass_198 ?_
        refine z_iadd hC dX9_pass_199 ?_
        refine z_put hC zgX9_61 (tmM_11 ad tc _) (okM_11 (by omega)) rfl dX9_pass_200 ?_
        have hW9 : WTM (T + 1) (U + 48) (zup Mj 11 u 0 ((Mj 11 u 0) + 1)) := (hWj.mono (T' := T + 1) (U' := U + 48) (by omega) (by omega) (by omega) (by omega)).up (f := 11) (by decide) (show _ ∧ _ from ⟨by omega, by omega⟩)
        have hmb9 := zcnt_le (fun j => zup Mj 11 u 0 (Mj 11 u 0 + 1) 20 u j = 2) (zup Mj 11 u 0 (Mj 11 u 0 + 1) 0 0 10).toNat
        refine z_aload_n hC 0 rfl dX9_pass_203 rfl ?_
        refine z_iconst hC dX9_pass_204 ?_
        refine z_callVi hC zlX9_75 (k_X9_many l D tc ad hI (zup Mj 11 u 0 ((Mj 11 u 0) + 1)) u 2 (by omega) hW9 (by omega)) (tmM_11 ad tc _) rfl (okM_11 (by omega)) rfl rfl (Nat.le_of_ble_eq_true rfl) ⟨by decide, by decide⟩ ⟨by decide, by decide⟩ dX9_pass_205 ?_
        refine z_iload_n hC 1 rfl dX9_pass_208 rfl ?_
        refine z_isub hC dX9_pass_209 ?_
        exact z_iret hC hret hlk rfl (by rw [passM, tired, ← hMj, ← h110]) (by rw [passM, tired, ← hMj, ← h110]) dX9_pass_210
      · skip
        refine z_aload_n hC 0 rfl dX9_pass_97 rfl ?_
        refine z_getR hC zfX9_40 (tmM_11 ad tc _) (okM_11 (by omega)) rfl dX9_pass_98 ?_
        refine z_iload_n hC 2 rfl dX9_pass_101 rfl ?_
        have hq3 : 0 ≤ Mj 20 u j ∧ Mj 20 u j ≤ 3 := hWj.1 20 u j
        refine z_iaload hC 0 (j) (tmM_20 ad tc _) (tysM_0 tc) (okM_20 (by omega)) (rfl) (by omega) (by decide) (x := Mj 20 u j) (rfl) dX9_pass_102 ?_
        refine z_if_eq hC 109 dX9_pass_103 (by decide) (by omega) (fun c103 => ?_) (fun c103 => ?_)
        · skip
          have hSj := fun z => hSj (by omega) z
          have hK0 := hSj (by assumption)
          have hK1 : Mj 19 u (12 * (Mj 21 u j).toNat + strW Mj u j) = (j : Int) ∧ ∀ k, k < strW Mj u j → Mj 19 u (12 * (Mj 21 u j).toNat + k) ≠ (j : Int) := by
            rcases zfst_spec (fun k => Mj 19 u (12 * (Mj 21 u j).toNat + k) = (j : Int)) 12 with ⟨h1, h2⟩ | ⟨h1, h2, h3⟩
            · exfalso
              have h4 : strW Mj u j = 12 := h1
              have := hK0.2
              omega
            · exact ⟨h2, h3⟩
          have h3a : 0 ≤ Mj 3 0 (Mj 21 u j).toNat ∧ Mj 3 0 (Mj 21 u j).toNat ≤ 60 := hWj.1 3 0 _
          have h10 : 0 ≤ Mj 10 0 j ∧ Mj 10 0 j ≤ 7 := hWj.1 10 0 _
          have h8w : 0 ≤ Mj 8 0 j ∧ Mj 8 0 j ≤ 120 := hWj.1 8 0 _
          have h22 : -(1000 + (U + 36 + j)) ≤ Mj 22 u j ∧ Mj 22 u j ≤ 1000 + (U + 36 + j) := hWj.1 22 u _
          have h21 := hK0.1
          refine z_aload_n hC 0 rfl dX9_pass_109 rfl ?_
          refine z_getR hC zfX9_46 (tmM_11 ad tc _) (okM_11 (by omega)) rfl dX9_pass_110 ?_
          refine z_iload_n hC 2 rfl dX9_pass_113 rfl ?_
          refine z_dup2 hC dX9_pass_114 rfl rfl ?_
          have hq4 : -(1000 + (U + 36 + j)) ≤ Mj 22 u j ∧ Mj 22 u j ≤ 1000 + (U + 36 + j) := hWj.1 22 u j
          refine z_iaload hC 0 (j) (tmM_22 ad tc _) (tysM_0 tc) (okM_22 (by omega)) (rfl) (by omega) (by decide) (x := Mj 22 u j) (rfl) dX9_pass_115 ?_
          refine z_iconst hC dX9_pass_116 ?_
          refine z_iadd hC dX9_pass_117 ?_
          refine z_iastore hC 0 (j) (tmM_22 ad tc _) (tysM_0 tc) (okM_22 (by omega)) (rfl) (by omega) (by decide) dX9_pass_118 ?_
          have hW3 : WTM T ((U + 36 + j + 1)) (zup Mj 22 u j ((Mj 22 u j) + 1)) := (hWj.mono (T' := T) (U' := U + 36 + j + 1) (by omega) (by omega) (by omega) (by omega)).up (f := 22) (by decide) (show _ ∧ _ from ⟨by omega, by omega⟩)
          refine z_aload_n hC 0 rfl dX9_pass_119 rfl ?_
          refine z_getR hC zfX9_3 (tmM_11 ad tc _) (okM_11 (by omega)) rfl dX9_pass_120 ?_
          refine z_aload_n hC 0 rfl dX9_pass_123 rfl ?_
          refine z_getR hC zfX9_43 (tmM_11 ad tc _) (okM_11 (by omega)) rfl dX9_pass_124 ?_
          refine z_iload_n hC 2 rfl dX9_pass_127 rfl ?_
          have hq5 : 0 ≤ Mj 21 u j ∧ Mj 21 u j ≤ 11 := hWj.1 21 u j
          refine z_iaload hC 0 (j) (tmM_21 ad tc _) (tysM_0 tc) (okM_21 (by omega)) (rfl) (by omega) (by decide) (x := Mj 21 u j) (by simp [zup]) dX9_pass_128 ?_
          refine z_aload_n hC 0 rfl dX9_pass_129 rfl ?_
          refine z_getR hC zfX9_3 (tmM_11 ad tc _) (okM_11 (by omega)) rfl dX9_pass_130 ?_
          refine z_getRN hC zfX9_72 (tmM_0 ad tc _) (okM_0 (by omega)) rfl dX9_pass_133 ?_
          refine z_iload_n hC 2 rfl dX9_pass_136 rfl ?_
          have hq6 : 0 ≤ Mj 10 0 j ∧ Mj 10 0 j ≤ 7 := hWj.1 10 0 j
          refine z_iaload hC 0 (j) (tmM_10 ad tc _) (tysM_0 tc) (okM_10 (by omega)) (rfl) (by omega) (by decide) (x := Mj 10 0 j) (by simp [zup]) dX9_pass_137 ?_
          refine z_aload_n hC 0 rfl dX9_pass_138 rfl ?_
          refine z_getR hC zfX9_3 (tmM_11 ad tc _) (okM_11 (by omega)) rfl dX9_pass_139 ?_
          refine z_getRN hC zfX9_93 (tmM_0 ad tc _) (okM_0 (by omega)) rfl dX9_pass_142 ?_
          refine z_iload_n hC 2 rfl dX9_pass_145 rfl ?_
          have hq7 : 0 ≤ Mj 8 0 j ∧ Mj 8 0 j ≤ 120 := hWj.1 8 0 j
          refine z_iaload hC 0 (j) (tmM_8 ad tc _) (tysM_0 tc) (okM_8 (by omega)) (rfl) (by omega) (by decide) (x := Mj 8 0 j) (by simp [zup]) dX9_pass_146 ?_
          refine z_callViN hC zlX9_96 (k_X10_fewR l D tc ad hI (zup Mj 22 u j ((Mj 22 u j) + 1)) 61 (Mj 21 u j) (Mj 10 0 j) (Mj 8 0 j) hW3 ⟨by omega, by omega⟩ ⟨by omega, by omega⟩ (by omega) (by rw [zup_fr (show 3 ≠ 22 by decide)]; omega)) (tmM_0 ad tc _) rfl (okM_0 (by omega)) rfl rfl (Nat.le_of_ble_eq_true rfl) ⟨by decide, by decide⟩ ⟨by decide, by decide⟩ dX9_pass_147 ?_
          have hfe : fewN (zup Mj 22 u j ((Mj 22 u j) + 1)) (Mj 10 0 j) (Mj 8 0 j) 61 (Mj 21 u j) = fewN Mj (Mj 10 0 j) (Mj 8 0 j) 61 (Mj 21 u j) := fewN_eq (by rw [zup_fr (by decide)]) (fun f h4 h7 => zup_fr (by omega)) _ _ _ _
          rw [hfe]
          have hfb := fewN_bd (M := Mj) (to := Mj 10 0 j) (w := Mj 8 0 j) (d := 61) (Mj 21 u j)
          refine z_iconst hC dX9_pass_150 ?_
          refine z_icmp_eq hC 175 dX9_pass_151 (by decide) (by omega) (by omega) (fun c151 => ?_) (fun c151 => ?_)
          · skip
            refine z_aload_n hC 0 rfl dX9_pass_175 rfl ?_
            refine z_iload_n hC 2 rfl dX9_pass_176 rfl ?_
            refine z_callVv hC zlX9_103 (k_X9_strike l D tc ad hI (zup Mj 22 u j ((Mj 22 u j) + 1)) u ((j : Nat) : Int) (strW Mj u j) (by omega) hW3 ⟨by omega, by omega⟩ (by rw [zup_fr (show 21 ≠ 22 by decide)]; exact hK0.1) (by rw [zup_fr (show 18 ≠ 22 by decide), zup_fr (show 21 ≠ 22 by decide)]; exact hK0.2.1) (by rw [zup_fr (show 19 ≠ 22 by decide), zup_fr (show 21 ≠ 22 by decide)]; exact hK1.1) (by rw [zup_fr (show 19 ≠ 22 by decide), zup_fr (show 21 ≠ 22 by decide)]; exact hK1.2)) (tmM_11 ad tc _) rfl (okM_11 (by omega)) rfl rfl (Nat.le_of_ble_eq_true rfl) ⟨by decide, by decide⟩ ⟨by decide, by decide⟩ dX9_pass_177 ?_
            refine z_aload_n hC 0 rfl dX9_pass_180 rfl ?_
            refine z_getR hC zfX9_40 (tmM_11 ad tc _) (okM_11 (by omega)) rfl dX9_pass_181 ?_
            refine z_iload_n hC 2 rfl dX9_pass_184 rfl ?_
            refine z_iconst hC dX9_pass_185 ?_
            refine z_iastore hC 0 (j) (tmM_20 ad tc _) (tysM_0 tc) (okM_20 (by omega)) (rfl) (by omega) (by decide) dX9_pass_186 ?_
            refine z_iinc hC 2 (L' := [(2, iv (((j : Nat) : Int) + 1)), (0, .ref (ad 11 u)), (1, iv (manyM M u 2))]) dX9_pass_187 rfl (by decide) rfl ?_
            refine z_goto hC 86 dX9_pass_190 (by decide) ?_
            refine z_perm [1, 2, 0] (L' := [(0, .ref (ad 11 u)), (1, iv (manyM M u 2)), (2, iv (((j : Nat) : Int) + 1))]) rfl ?_
            exact z_conv (ih86 _ (by omega) (j + 1) (by omega) rfl) (by rw [show tiresM (begun M u) u (j + 1) = tireSM u j (tiresM (begun M u) u j) from rfl, ← hMj]; unfold tireSM; first | (rw [if_neg (by omega)]; done) | (rw [if_pos (by omega), if_pos (by omega)]; done) | (rw [if_pos (by omega), if_neg (by omega), if_pos (by omega)]; done) | (rw [if_pos (by omega), if_neg (by omega), if_neg (by omega)]; done)) (by rfl) (by rfl)
          · skip
            refine z_aload_n hC 0 rfl dX9_pass_154 rfl ?_
            refine z_getR hC zfX9_46 (tmM_11 ad tc _) (okM_11 (by omega)) rfl dX9_pass_155 ?_
            refine z_iload_n hC 2 rfl dX9_pass_158 rfl ?_
            refine z_iaload hC 0 (j) (tmM_22 ad tc _) (tysM_0 tc) (okM_22 (by omega)) (rfl) (by omega) (by decide) (x := (Mj 22 u j) + 1) (by simp [zup]) dX9_pass_159 ?_
            refine z_aload_n hC 0 rfl dX9_pass_160 rfl ?_
            refine z_getR hC zfX9_3 (tmM_11 ad tc _) (okM_11 (by omega)) rfl dX9_pass_161 ?_
            refine z_getRN hC zfX9_100 (tmM_0 ad tc _) (okM_0 (by omega)) rfl dX9_pass_164 ?_
            refine z_iload_n hC 2 rfl dX9_pass_167 rfl ?_
            have hq8 : 0 ≤ Mj 9 0 j ∧ Mj 9 0 j ≤ 60 := hWj.1 9 0 j
            refine z_iaload hC 0 (j) (tmM_9 ad tc _) (tysM_0 tc) (okM_9 (by omega)) (rfl) (by omega) (by decide) (x := Mj 9 0 j) (by simp [zup]) dX9_pass_168 ?_
            refine z_icmp_ge hC 175 dX9_pass_169 (by decide) (by omega) (by omega) (fun c169 => ?_) (fun c169 => ?_)
            · skip
              refine z_aload_n hC 0 rfl dX9_pass_175 rfl ?_
              refine z_iload_n hC 2 rfl dX9_pass_176 rfl ?_
              refine z_callVv hC zlX9_103 (k_X9_strike l D tc ad hI (zup Mj 22 u j ((Mj 22 u j) + 1)) u ((j : Nat) : Int) (strW Mj u j) (by omega) hW3 ⟨by omega, by omega⟩ (by rw [zup_fr (show 21 ≠ 22 by decide)]; exact hK0.1) (by rw [zup_fr (show 18 ≠ 22 by decide), zup_fr (show 21 ≠ 22 by decide)]; exact hK0.2.1) (by rw [zup_fr (show 19 ≠ 22 by decide), zup_fr (show 21 ≠ 22 by decide)]; exact hK1.1) (by rw [zup_fr (show 19 ≠ 22 by decide), zup_fr (show 21 ≠ 22 by decide)]; exact hK1.2)) (tmM_11 ad tc _) rfl (okM_11 (by omega)) rfl rfl (Nat.le_of_ble_eq_true rfl) ⟨by decide, by decide⟩ ⟨by decide, by decide⟩ dX9_pass_177 ?_
              refine z_aload_n hC 0 rfl dX9_pass_180 rfl ?_
              refine z_getR hC zfX9_40 (tmM_11 ad tc _) (okM_11 (by omega)) rfl dX9_pass_181 ?_
              refine z_iload_n hC 2 rfl dX9_pass_184 rfl ?_
              refine z_iconst hC dX9_pass_185 ?_
              refine z_iastore hC 0 (j) (tmM_20 ad tc _) (tysM_0 tc) (okM_20 (by omega)) (rfl) (by omega) (by decide) dX9_pass_186 ?_
              refine z_iinc hC 2 (L' := [(2, iv (((j : Nat) : Int) + 1)), (0, .ref (ad 11 u)), (1, iv (manyM M u 2))]) dX9_pass_187 rfl (by decide) rfl ?_
              refine z_goto hC 86 dX9_pass_190 (by decide) ?_
              refine z_perm [1, 2, 0] (L' := [(0, .ref (ad 11 u)), (1, iv (manyM M u 2)), (2, iv (((j : Nat) : Int) + 1))]) rfl ?_
              exact z_conv (ih86 _ (by omega) (j + 1) (by omega) rfl) (by rw [show tiresM (begun M u) u (j + 1) = tireSM u j (tiresM (begun M u) u j) from rfl, ← hMj]; unfold tireSM; first | (rw [if_neg (by omega)]; done) | (rw [if_pos (by omega), if_pos (by omega)]; done) | (rw [if_pos (by omega), if_neg (by omega), if_pos (by omega)]; done) | (rw [if_pos (by omega), if_neg (by omega), if_neg (by omega)]; done)) (by rfl) (by rfl)
            · skip
              refine z_goto hC 187 dX9_pass_172 (by decide) ?_
              refine z_iinc hC 2 (L' := [(2, iv (((j : Nat) : Int) + 1)), (0, .ref (ad 11 u)), (1, iv (manyM M u 2))]) dX9_pass_187 rfl (by decide) rfl ?_
              refine z_goto hC 86 dX9_pass_190 (by decide) ?_
              refine z_perm [1, 2, 0] (L' := [(0, .ref (ad 11 u)), (1, iv (manyM M u 2)), (2, iv (((j : Nat) : Int) + 1))]) rfl ?_
              exact z_conv (ih86 _ (by omega) (j + 1) (by omega) rfl) (by rw [show tiresM (begun M u) u (j + 1) = tireSM u j (tiresM (begun M u) u j) from rfl, ← hMj]; unfold tireSM; first | (rw [if_neg (by omega)]; done) | (rw [if_pos (by omega), if_pos (by omega)]; done) | (rw [if_pos (by omega), if_neg (by omega), if_pos (by omega)]; done) | (rw [if_pos (by omega), if_neg (by omega), if_neg (by omega)]; done)) (by rfl) (by rfl)
        · skip
          refine z_goto hC 187 dX9_pass_106 (by decide) ?_
          refine z_iinc hC 2 (L' := [(2, iv (((j : Nat) : Int) + 1)), (0, .ref (ad 11 u)), (1, iv (manyM M u 2))]) dX9_pass_187 rfl (by decide) rfl ?_
          refine z_goto hC 86 dX9_pass_190 (by decide) ?_
          refine z_perm [1, 2, 0] (L' := [(0, .ref (ad 11 u)), (1, iv (manyM M u 2)), (2, iv (((j : Nat) : Int) + 1))]) rfl ?_
          exact z_conv (ih86 _ (by omega) (j + 1) (by omega) rfl) (by rw [show tiresM (begun M u) u (j + 1) = tireSM u j (tiresM (begun M u) u j) from rfl, ← hMj]; unfold tireSM; first | (rw [if_neg (by omega)]; done) | (rw [if_pos (by omega), if_pos (by omega)]; done) | (rw [if_pos (by omega), if_neg (by omega), if_pos (by omega)]; done) | (rw [if_pos (by omega), if_neg (by omega), if_neg (by omega)]; done)) (by rfl) (by rfl)
  have hc32 : ∀ (d32 : Nat) (j : Nat) (hj : j ≤ (M 0 0 5).toNat), (M 0 0 5).toNat - j = d32 → zV p l e (zrm 64 0 0) s m args below meth c (MQ below (zQi D ad okM (tmM ad tc) (manyM (passM M u) u 2 - manyM M u 2) (passM M u) (zA ad okM s.heap.size)) args s 0 0 (zA ad okM s.heap.size)) D ad okM (tmM ad tc) (zA ad okM s.heap.size) s.heap 3 0 0 (beginsM (rolled M u) u j) [(0, .ref (ad 11 u)), (1, iv (manyM M u 2)), (2, iv ((j : Nat) : Int))] 32 [] := by
    intro d32
    induction d32 using Nat.strongRecOn with
    | _ d32 ih32 =>
      intro j hj hd32
      have hWr := rolled_wt hW hP (by omega)
      have hWj := beginsM_wt (u := u) hWr j (by rw [rolled_fr (by decide)]; omega) (fun l hl => hP.2.1 l (by omega))
      have h05 : beginsM (rolled M u) u j 0 0 5 = M 0 0 5 := by rw [beginsM_fr (by decide), rolled_fr (by decide)]
      have hBj := hP.2.1 j
      obtain ⟨Mj, hMj⟩ : ∃ x, x = beginsM (rolled M u) u j := ⟨_, rfl⟩
      rw [← hMj]
      rw [← hMj] at hWj h05 hBj
      have h11 : 0 ≤ Mj 11 u 0 ∧ Mj 11 u 0 ≤ T := hWj.1 11 u 0
      have h12 : 0 ≤ Mj 12 u j ∧ Mj 12 u j ≤ 3 := hWj.1 12 u j
      have h13 : 0 ≤ Mj 13 u j ∧ Mj 13 u j ≤ 3 := hWj.1 13 u j
      refine z_iload_n hC 2 rfl dX9_pass_32 rfl ?_
      refine z_aload_n hC 0 rfl dX9_pass_33 rfl ?_
      refine z_getR hC zfX9_3 (tmM_11 ad tc _) (okM_11 (by omega)) rfl dX9_pass_34 ?_
      have hq9 : 0 ≤ Mj 0 0 5 ∧ Mj 0 0 5 ≤ 12 := hWj.1 0 0 5
      refine z_getIN hC zfX9_79 (tmM_0 ad tc _) (okM_0 (by omega)) rfl (x := Mj 0 0 5) (rfl) dX9_pass_37 ?_
      refine z_icmp_ge hC 84 dX9_pass_40 (by decide) (by omega) (by omega) (fun c40 => ?_) (fun c40 => ?_)
      · skip
        have he : j = (M 0 0 5).toNat := by omega
        subst he
        refine z_iconst hC dX9_pass_84 ?_
        refine z_istore_n hC (L' := [(2, iv 0), (0, .ref (ad 11 u)), (1, iv (manyM M u 2))]) dX9_pass_85 rfl (by decide) rfl ?_
        refine z_perm [1, 2, 0] (L' := [(0, .ref (ad 11 u)), (1, iv (manyM M u 2)), (2, iv 0)]) rfl ?_
        exact z_conv (hc86 _ 0 (by omega) rfl) (by rw [hMj]; rfl) (by rfl) (by rfl)
      · skip
        refine z_aload_n hC 0 rfl dX9_pass_43 rfl ?_
        refine z_getR hC zfX9_3 (tmM_11 ad tc _) (okM_11 (by omega)) rfl dX9_pass_44 ?_
        refine z_iload_n hC 2 rfl dX9_pass_47 rfl ?_
        refine z_aload_n hC 0 rfl dX9_pass_48 rfl ?_
        have hq10 : 0 ≤ Mj 11 u 0 ∧ Mj 11 u 0 ≤ T := hWj.1 11 u 0
        refine z_getI hC zfX9_61 (tmM_11 ad tc _) (okM_11 (by omega)) rfl (x := Mj 11 u 0) (rfl) dX9_pass_49 ?_
        refine z_callViN hC zlX9_86 (k_X10_isClosed l D tc ad hI Mj ((j : Nat) : Int) (Mj 11 u 0) hWj ⟨by omega, by omega⟩ ⟨by omega, by omega⟩) (tmM_0 ad tc _) rfl (okM_0 (by omega)) rfl rfl (Nat.le_of_ble_eq_true rfl) ⟨by decide, by decide⟩ ⟨by decide, by decide⟩ dX9_pass_52 ?_
        refine z_if_ne_b hC 78 dX9_pass_55 (by decide) (fun c55 => ?_) (fun c55 => ?_)
        · skip
          refine z_iinc hC 2 (L' := [(2, iv (((j : Nat) : Int) + 1)), (0, .ref (ad 11 u)), (1, iv (manyM M u 2))]) dX9_pass_78 rfl (by decide) rfl ?_
          refine z_goto hC 32 dX9_pass_81 (by decide) ?_
          refine z_perm [1, 2, 0] (L' := [(0, .ref (ad 11 u)), (1, iv (manyM M u 2)), (2, iv (((j : Nat) : Int) + 1))]) rfl ?_
          exact z_conv (ih32 _ (by omega) (j + 1) (by omega) rfl) (by rw [show beginsM (rolled M u) u (j + 1) = beginSM u j (beginsM (rolled M u) u j) from rfl, ← hMj]; simp only [beginSM]; first | (rw [if_pos (by assumption)]; done) | (rw [if_neg (by assumption), if_pos (by omega)]; done) | (rw [if_neg (by assumption), if_neg (by omega)]; done)) (by rfl) (by rfl)
        · skip
          refine z_aload_n hC 0 rfl dX9_pass_58 rfl ?_
          refine z_getR hC zfX9_19 (tmM_11 ad tc _) (okM_11 (by omega)) rfl dX9_pass_59 ?_
          refine z_iload_n hC 2 rfl dX9_pass_62 rfl ?_
          have hq11 : 0 ≤ Mj 13 u j ∧ Mj 13 u j ≤ 3 := hWj.1 13 u j
          refine z_iaload hC 0 (j) (tmM_13 ad tc _) (tysM_0 tc) (okM_13 (by omega)) (rfl) (by omega) (by decide) (x := Mj 13 u j) (rfl) dX9_pass_63 ?_
          refine z_aload_n hC 0 rfl dX9_pass_64 rfl ?_
          refine z_getR hC zfX9_15 (tmM_11 ad tc _) (okM_11 (by omega)) rfl dX9_pass_65 ?_
          refine z_iload_n hC 2 rfl dX9_pass_68 rfl ?_
          have hq12 : 0 ≤ Mj 12 u j ∧ Mj 12 u j ≤ 3 := hWj.1 12 u j
          refine z_iaload hC 0 (j) (tmM_12 ad tc _) (tysM_0 tc) (okM_12 (by omega)) (rfl) (by omega) (by decide) (x := Mj 12 u j) (rfl) dX9_pass_69 ?_
          refine z_icmp_ge hC 78 dX9_pass_70 (by decide) (by omega) (by omega) (fun c70 => ?_) (fun c70 => ?_)
          · skip
            refine z_iinc hC 2 (L' := [(2, iv (((j : Nat) : Int) + 1)), (0, .ref (ad 11 u)), (1, iv (manyM M u 2))]) dX9_pass_78 rfl (by decide) rfl ?_
            refine z_goto hC 32 dX9_pass_81 (by decide) ?_
            refine z_perm [1, 2, 0] (L' := [(0, .ref (ad 11 u)), (1, iv (manyM M u 2)), (2, iv (((j : Nat) : Int) + 1))]) rfl ?_
            exact z_conv (ih32 _ (by omega) (j + 1) (by omega) rfl) (by rw [show beginsM (rolled M u) u (j + 1) = beginSM u j (beginsM (rolled M u) u j) from rfl, ← hMj]; simp only [beginSM]; first | (rw [if_pos (by assumption)]; done) | (rw [if_neg (by assumption), if_pos (by omega)]; done) | (rw [if_neg (by assumption), if_neg (by omega)]; done)) (by rfl) (by rfl)
          · skip
            refine z_aload_n hC 0 rfl dX9_pass_73 rfl ?_
            refine z_iload_n hC 2 rfl dX9_pass_74 rfl ?_
            refine z_callVv hC zlX9_90 (k_X9_begin l D tc ad hI Mj u ((j : Nat) : Int) (by omega) hWj ⟨by omega, by omega⟩ (by rw [Int.toNat_natCast]; omega) (hBj (by omega) (by assumption) (by omega)).1 (hBj (by omega) (by assumption) (by omega)).2.1 (hBj (by omega) (by assumption) (by omega)).2.2) (tmM_11 ad tc _) rfl (okM_11 (by omega)) rfl rfl (Nat.le_of_ble_eq_true rfl) ⟨by decide, by decide⟩ ⟨by decide, by decide⟩ dX9_pass_75 ?_
            refine z_iinc hC 2 (L' := [(2, iv (((j : Nat) : Int) + 1)), (0, .ref (ad 11 u)), (1, iv (manyM M u 2))]) dX9_pass_78 rfl (by decide) rfl ?_
            refine z_goto hC 32 dX9_pass_81 (by decide) ?_
            refine z_perm [1, 2, 0] (L' := [(0, .ref (ad 11 u)), (1, iv (manyM M u 2)), (2, iv (((j : Nat) : Int) + 1))]) rfl ?_
            exact z_conv (ih32 _ (by omega) (j + 1) (by omega) rfl) (by rw [show beginsM (rolled M u) u (j + 1) = beginSM u j (beginsM (rolled M u) u j) from rfl, ← hMj]; simp only [beginSM]; first | (rw [if_pos (by assumption)]; done) | (rw [if_neg (by assumption), if_pos (by omega)]; done) | (rw [if_neg (by assumption), if_neg (by omega)]; done)) (by rfl) (by rfl)
  have hc8 : ∀ (d8 : Nat) (j : Nat) (hj : j ≤ (M 0 0 5).toNat), (M 0 0 5).toNat - j = d8 → zV p l e (zrm 64 0 0) s m args below meth c (MQ below (zQi D ad okM (tmM ad tc) (manyM (passM M u) u 2 - manyM M u 2) (passM M u) (zA ad okM s.heap.size)) args s 0 0 (zA ad okM s.heap.size)) D ad okM (tmM ad tc) (zA ad okM s.heap.size) s.heap 3 0 0 (rollsM M u j) [(0, .ref (ad 11 u)), (1, iv (manyM M u 2)), (2, iv ((j : Nat) : Int))] 8 [] := by
    intro d8
    induction d8 using Nat.strongRecOn with
    | _ d8 ih8 =>
      intro j hj hd8
      have hWj := rollsM_wt (u := u) hW j (by omega) (fun l hl => hP.1 l (by omega))
      have h05 : rollsM M u j 0 0 5 = M 0 0 5 := by rw [rollsM_fr (by decide)]
      have hRj := hP.1 j
      obtain ⟨Mj, hMj⟩ : ∃ x, x = rollsM M u j := ⟨_, rfl⟩
      rw [← hMj]
      rw [← hMj] at hWj h05 hRj
      refine z_iload_n hC 2 rfl dX9_pass_8 rfl ?_
      refine z_aload_n hC 0 rfl dX9_pass_9 rfl ?_
      refine z_getR hC zfX9_3 (tmM_11 ad tc _) (okM_11 (by omega)) rfl dX9_pass_10 ?_
      have hq13 : 0 ≤ Mj 0 0 5 ∧ Mj 0 0 5 ≤ 12 := hWj.1 0 0 5
      refine z_getIN hC zfX9_79 (tmM_0 ad tc _) (okM_0 (by omega)) rfl (x := Mj 0 0 5) (rfl) dX9_pass_13 ?_
      refine z_icmp_ge hC 30 dX9_pass_16 (by decide) (by omega) (by omega) (fun c16 => ?_) (fun c16 => ?_)
      · skip
        have he : j = (M 0 0 5).toNat := by omega
        subst he
        refine z_iconst hC dX9_pass_30 ?_
        refine z_istore_n hC (L' := [(2, iv 0), (0, .ref (ad 11 u)), (1, iv (manyM M u 2))]) dX9_pass_31 rfl (by decide) rfl ?_
        refine z_perm [1, 2, 0] (L' := [(0, .ref (ad 11 u)), (1, iv (manyM M u 2)), (2, iv 0)]) rfl ?_
        exact z_conv (hc32 _ 0 (by omega) rfl) (by rw [hMj]; rfl) (by rfl) (by rfl)
      · skip
        refine z_aload_n hC 0 rfl dX9_pass_19 rfl ?_
        refine z_iload_n hC 2 rfl dX9_pass_20 rfl ?_
        refine z_callVv hC zlX9_82 (k_X9_roll l D tc ad hI Mj u ((j : Nat) : Int) (by omega) hWj ⟨by omega, by omega⟩ (by omega) (hRj (by omega))) (tmM_11 ad tc _) rfl (okM_11 (by omega)) rfl rfl (Nat.le_of_ble_eq_true rfl) ⟨by decide, by decide⟩ ⟨by decide, by decide⟩ dX9_pass_21 ?_
        refine z_iinc hC 2 (L' := [(2, iv (((j : Nat) : Int) + 1)), (0, .ref (ad 11 u)), (1, iv (manyM M u 2))]) dX9_pass_24 rfl (by decide) rfl ?_
        refine z_goto hC 8 dX9_pass_27 (by decide) ?_
        refine z_perm [1, 2, 0] (L' := [(0, .ref (ad 11 u)), (1, iv (manyM M u 2)), (2, iv (((j : Nat) : Int) + 1))]) rfl ?_
        exact z_conv (ih8 _ (by omega) (j + 1) (by omega) rfl) (by rw [hMj]; rfl) (by rfl) (by rfl)
  refine z_aload_n hC 0 rfl dX9_pass_0 rfl ?_
  refine z_iconst hC dX9_pass_1 ?_
  refine z_callVi hC zlX9_75 (k_X9_many l D tc ad hI M u 2 (by omega) hW (by omega)) (tmM_11 ad tc _) rfl (okM_11 (by omega)) rfl rfl (Nat.le_of_ble_eq_true rfl) ⟨by decide, by decide⟩ ⟨by decide, by decide⟩ dX9_pass_2 ?_
  refine z_istore_n hC (L' := [(1, iv (manyM M u 2)), (0, .ref (ad 11 u))]) dX9_pass_5 rfl (by decide) rfl ?_
  refine z_iconst hC dX9_pass_6 ?_
  refine z_istore_n hC (L' := [(2, iv 0), (1, iv (manyM M u 2)), (0, .ref (ad 11 u))]) dX9_pass_7 rfl (by decide) rfl ?_
  refine z_perm [2, 1, 0] (L' := [(0, .ref (ad 11 u)), (1, iv (manyM M u 2)), (2, iv 0)]) rfl ?_
  exact z_conv (hc8 _ 0 (by omega) rfl) (by rfl) (by rfl) (by rfl)
