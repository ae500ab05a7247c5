set_option maxHeartbeats 4000000 in
set_option maxRecDepth 100000 in
theorem k_X9_begin (l : Launch) (D : va_G) (tc : Nat → ClassId) (ad : Nat → Nat → Nat) (hI : zI ad okM) (M : zM) {T U : Int} (u : Nat) (q : Int) (hu : u < 2) (hW : WTM T U M) (hl : 0 ≤ q ∧ q < M 0 0 5) (hou : M 13 u q.toNat ≤ 2) (hQ : ∀ k : Nat, (k : Int) < M 18 u (M 4 0 q.toNat).toNat → M 21 u (M 19 u (12 * (M 4 0 q.toNat).toNat + k)).toNat = M 4 0 q.toNat) (hV : ∀ k : Nat, (k : Int) < M 18 u (M 4 0 q.toNat).toNat → 20 ≤ M 8 0 (M 19 u (12 * (M 4 0 q.toNat).toNat + k)).toNat ∧ M 8 0 (M 19 u (12 * (M 4 0 q.toNat).toNat + k)).toNat ≤ 120) (hD : ∀ i k : Nat, i < k → (k : Int) < M 18 u (M 4 0 q.toNat).toNat → M 19 u (12 * (M 4 0 q.toNat).toNat + i) ≠ M 19 u (12 * (M 4 0 q.toNat).toNat + k)) : zMv l yX9_begin cX9_begin 5 none 63 D (tysM tc) ad okM (tmM ad tc) [.ref (ad 11 u), iv q] M (beginM M u q) 0 0 := by
  have hlc : 0 ≤ M 0 0 5 ∧ M 0 0 5 ≤ 12 := hW.1 0 0 5
  have hsz : 0 ≤ M 18 u (M 4 0 q.toNat).toNat ∧ M 18 u (M 4 0 q.toNat).toNat ≤ 12 := hW.1 18 u _
  have h4q : 0 ≤ M 4 0 q.toNat ∧ M 4 0 q.toNat ≤ 7 := hW.1 4 0 _
  have h13 : 0 ≤ M 13 u q.toNat ∧ M 13 u q.toNat ≤ 3 := hW.1 13 u _
  refine z_met hI (plainFor_of_name (by decide)) (Nat.le_of_ble_eq_true rfl) ?_
  intro p e s m args below meth c hC hret hlk
  refine z_conv (L2 := [(0, .ref (ad 11 u)), (1, iv q)]) ?_ rfl rfl rfl
  have hc15 : ∀ (d15 : Nat) (j : Nat) (hj : (j : Int) ≤ M 18 u (M 4 0 q.toNat).toNat) (hz : ∀ k, k < j → ¬ bgP M u q k), 12 - j = d15 → zV p l e (zrm 63 0 0) s m args below meth c (MQ below (zQv D ad okM (tmM ad tc) (beginM M u q) (zA ad okM s.heap.size)) args s 0 0 (zA ad okM s.heap.size)) D ad okM (tmM ad tc) (zA ad okM s.heap.size) s.heap 5 0 0 M [(0, .ref (ad 11 u)), (1, iv q), (2, iv (12 * M 4 0 q.toNat)), (3, iv ((12 * (M 4 0 q.toNat).toNat + j : Nat) : Int))] 15 [] := by
    intro d15
    induction d15 using Nat.strongRecOn with
    | _ d15 ih15 =>
      intro j hj hz hd15
      refine z_iload_n hC 3 rfl dX9_begin_15 rfl ?_
      refine z_iload_n hC 2 rfl dX9_begin_16 rfl ?_
      refine z_aload_n hC 0 rfl dX9_begin_17 rfl ?_
      refine z_getR hC zfX9_34 (tmM_11 ad tc _) (okM_11 (by omega)) rfl dX9_begin_18 ?_
      refine z_aload_n hC 0 rfl dX9_begin_21 rfl ?_
      refine z_getR hC zfX9_3 (tmM_11 ad tc _) (okM_11 (by omega)) rfl dX9_begin_22 ?_
      refine z_getRN hC zfX9_116 (tmM_0 ad tc _) (okM_0 (by omega)) rfl dX9_begin_25 ?_
      refine z_iload_n hC 1 rfl dX9_begin_28 rfl ?_
      have hq1 : 0 ≤ M 4 0 ((q).toNat) ∧ M 4 0 ((q).toNat) ≤ 7 := hW.1 4 0 ((q).toNat)
      refine z_iaload hC 0 ((q).toNat) (tmM_4 ad tc _) (tysM_0 tc) (okM_4 (by omega)) (by omega) (by omega) (by decide) (x := M 4 0 ((q).toNat)) (rfl) dX9_begin_29 ?_
      have hq2 : 0 ≤ M 18 u ((M 4 0 ((q).toNat)).toNat) ∧ M 18 u ((M 4 0 ((q).toNat)).toNat) ≤ 12 := hW.1 18 u ((M 4 0 ((q).toNat)).toNat)
      refine z_iaload hC 0 ((M 4 0 ((q).toNat)).toNat) (tmM_18 ad tc _) (tysM_0 tc) (okM_18 (by omega)) (by omega) (by omega) (by decide) (x := M 18 u ((M 4 0 ((q).toNat)).toNat)) (rfl) dX9_begin_30 ?_
      refine z_iadd hC dX9_begin_31 ?_
      refine z_icmp_ge hC 234 dX9_begin_32 (by decide) (by omega) (by omega) (fun c32 => ?_) (fun c32 => ?_)
      · skip
        exact z_vret hC hret hlk (by first | exact (beginM_none hz (by omega)).symm | (rw [beginM_found hz hbj (by omega) hr, seatM, seatM1]; first | rfl | (rw [if_pos (by omega)]; done) | (rw [if_neg (by omega)]; done))) dX9_begin_234
      · skip
        refine z_aload_n hC 0 rfl dX9_begin_35 rfl ?_
        refine z_getR hC zfX9_37 (tmM_11 ad tc _) (okM_11 (by omega)) rfl dX9_begin_36 ?_
        refine z_iload_n hC 3 rfl dX9_begin_39 rfl ?_
        have hq3 : 0 ≤ M 19 u (12 * (M 4 0 q.toNat).toNat + j) ∧ M 19 u (12 * (M 4 0 q.toNat).toNat + j) ≤ 11 := hW.1 19 u (12 * (M 4 0 q.toNat).toNat + j)
        refine z_iaload hC 0 (12 * (M 4 0 q.toNat).toNat + j) (tmM_19 ad tc _) (tysM_0 tc) (okM_19 (by omega)) (rfl) (by omega) (by decide) (x := M 19 u (12 * (M 4 0 q.toNat).toNat + j)) (rfl) dX9_begin_40 ?_
        refine z_istore hC (L' := [(4, iv (M 19 u (12 * (M 4 0 q.toNat).toNat + j))), (0, .ref (ad 11 u)), (1, iv q), (2, iv (12 * M 4 0 q.toNat)), (3, iv ((12 * (M 4 0 q.toNat).toNat + j : Nat) : Int))]) dX9_begin_41 (by decide) rfl ?_
        refine z_aload_n hC 1 rfl dX9_begin_43 rfl ?_
        refine z_getR hC zfX9_3 (tmM_11 ad tc _) (okM_11 (by omega)) rfl dX9_begin_44 ?_
        refine z_aload_n hC 1 rfl dX9_begin_47 rfl ?_
        refine z_getR hC zfX9_3 (tmM_11 ad tc _) (okM_11 (by omega)) rfl dX9_begin_48 ?_
        refine z_getRN hC zfX9_116 (tmM_0 ad tc _) (okM_0 (by omega)) rfl dX9_begin_51 ?_
        refine z_iload_n hC 2 rfl dX9_begin_54 rfl ?_
        have hq4 : 0 ≤ M 4 0 ((q).toNat) ∧ M 4 0 ((q).toNat) ≤ 7 := hW.1 4 0 ((q).toNat)
        refine z_iaload hC 0 ((q).toNat) (tmM_4 ad tc _) (tysM_0 tc) (okM_4 (by omega)) (by omega) (by omega) (by decide) (x := M 4 0 ((q).toNat)) (rfl) dX9_begin_55 ?_
        refine z_aload_n hC 1 rfl dX9_begin_56 rfl ?_
        refine z_getR hC zfX9_3 (tmM_11 ad tc _) (okM_11 (by omega)) rfl dX9_begin_57 ?_
        refine z_getRN hC zfX9_72 (tmM_0 ad tc _) (okM_0 (by omega)) rfl dX9_begin_60 ?_
        refine z_iload hC 0 rfl dX9_begin_63 ?_
        have hq5 : 0 ≤ M 10 0 ((M 19 u (12 * (M 4 0 q.toNat).toNat + j)).toNat) ∧ M 10 0 ((M 19 u (12 * (M 4 0 q.toNat).toNat + j)).toNat) ≤ 7 := hW.1 10 0 ((M 19 u (12 * (M 4 0 q.toNat).toNat + j)).toNat)
        refine z_iaload hC 0 ((M 19 u (12 * (M 4 0 q.toNat).toNat + j)).toNat) (tmM_10 ad tc _) (tysM_0 tc) (okM_10 (by omega)) (by omega) (by omega) (by decide) (x := M 10 0 ((M 19 u (12 * (M 4 0 q.toNat).toNat + j)).toNat)) (rfl) dX9_begin_65 ?_
        refine z_aload_n hC 1 rfl dX9_begin_66 rfl ?_
        refine z_getR hC zfX9_3 (tmM_11 ad tc _) (okM_11 (by omega)) rfl dX9_begin_67 ?_
        refine z_getRN hC zfX9_93 (tmM_0 ad tc _) (okM_0 (by omega)) rfl dX9_begin_70 ?_
        refine z_iload hC 0 rfl dX9_begin_73 ?_
        have hq6 : 0 ≤ M 8 0 ((M 19 u (12 * (M 4 0 q.toNat).toNat + j)).toNat) ∧ M 8 0 ((M 19 u (12 * (M 4 0 q.toNat).toNat + j)).toNat) ≤ 120 := hW.1 8 0 ((M 19 u (12 * (M 4 0 q.toNat).toNat + j)).toNat)
        refine z_iaload hC 0 ((M 19 u (12 * (M 4 0 q.toNat).toNat + j)).toNat) (tmM_8 ad tc _) (tysM_0 tc) (okM_8 (by omega)) (by omega) (by omega) (by decide) (x := M 8 0 ((M 19 u (12 * (M 4 0 q.toNat).toNat + j)).toNat)) (rfl) dX9_begin_75 ?_
        refine z_callViN hC zlX9_119 (k_X10_first l D tc ad hI M (M 4 0 ((q).toNat)) (M 10 0 ((M 19 u (12 * (M 4 0 q.toNat).toNat + j)).toNat)) (M 8 0 ((M 19 u (12 * (M 4 0 q.toNat).toNat + j)).toNat)) hW (by omega) (by omega) (by omega)) (tmM_0 ad tc _) rfl (okM_0 (by omega)) rfl rfl (Nat.le_of_ble_eq_true rfl) ⟨by decide, by decide⟩ ⟨by decide, by decide⟩ dX9_begin_76 ?_
        have hfb := firstM_bd hW (M 4 0 q.toNat) (M 10 0 (M 19 u (12 * (M 4 0 q.toNat).toNat + j)).toNat) (M 8 0 (M 19 u (12 * (M 4 0 q.toNat).toNat + j)).toNat)
        refine z_iload_n hC 2 rfl dX9_begin_79 rfl ?_
        refine z_icmp_eq hC 86 dX9_begin_80 (by decide) (by omega) (by omega) (fun c80 => ?_) (fun c80 => ?_)
        · skip
          have hat : M 21 u (M 19 u (12 * (M 4 0 q.toNat).toNat + j)).toNat = M 4 0 q.toNat := hQ j (by omega)
          have hwr : 20 ≤ M 8 0 (M 19 u (12 * (M 4 0 q.toNat).toNat + j)).toNat ∧ M 8 0 (M 19 u (12 * (M 4 0 q.toNat).toNat + j)).toNat ≤ 120 := hV j (by omega)
          have hbj : bgP M u q j := (by assumption)
          have hqr : 0 ≤ M 19 u (12 * (M 4 0 q.toNat).toNat + j) ∧ M 19 u (12 * (M 4 0 q.toNat).toNat + j) ≤ 11 := hW.1 19 u _
          have hdj : ∀ k, k < j → M 19 u (12 * (M 4 0 q.toNat).toNat + k) ≠ M 19 u (12 * (M 4 0 q.toNat).toNat + j) := fun k hk => hD k j hk (by omega)
          obtain ⟨r, hr⟩ : ∃ r, r = M 19 u (12 * (M 4 0 q.toNat).toNat + j) := ⟨_, rfl⟩
          rw [← hr] at hat hwr hqr hdj
          rw [← hr]
          refine z_aload_n hC 1 rfl dX9_begin_86 rfl ?_
          refine z_iload hC 0 rfl dX9_begin_87 ?_
          refine z_callVv hC zlX9_103 (k_X9_strike l D tc ad hI M u r j (by omega) hW hqr (by rw [hat]; omega) (by rw [hat]; omega) (by rw [hat]; exact hr.symm) (fun k hk => by rw [hat]; exact hdj k hk)) (tmM_11 ad tc _) rfl (okM_11 (by omega)) rfl rfl (Nat.le_of_ble_eq_true rfl) ⟨by decide, by decide⟩ ⟨by decide, by decide⟩ dX9_begin_89 ?_
          refine z_aload_n hC 1 rfl dX9_begin_92 rfl ?_
          refine z_getR hC zfX9_40 (tmM_11 ad tc _) (okM_11 (by omega)) rfl dX9_begin_93 ?_
          refine z_iload hC 0 rfl dX9_begin_96 ?_
          refine z_iconst hC dX9_begin_98 ?_
          refine z_iastore hC 0 ((r).toNat) (tmM_20 ad tc _) (tysM_0 tc) (okM_20 (by omega)) (by omega) (by omega) (by decide) dX9_begin_99 ?_
          refine z_aload_n hC 1 rfl dX9_begin_100 rfl ?_
          refine z_getR hC zfX9_43 (tmM_11 ad tc _) (okM_11 (by omega)) rfl dX9_begin_101 ?_
          refine z_iload hC 0 rfl dX9_begin_104 ?_
          refine z_iload_n hC 2 rfl dX9_begin_106 rfl ?_
          refine z_iastore hC 0 ((r).toNat) (tmM_21 ad tc _) (tysM_0 tc) (okM_21 (by omega)) (by omega) (by omega) (by decide) dX9_begin_107 ?_
          refine z_aload_n hC 1 rfl dX9_begin_108 rfl ?_
          refine z_getR hC zfX9_49 (tmM_11 ad tc _) (okM_11 (by omega)) rfl dX9_begin_109 ?_
          refine z_iload hC 0 rfl dX9_begin_112 ?_
          refine z_dup2 hC dX9_begin_114 rfl rfl ?_
          refine z_iaload hC 0 ((r).toNat) (tmM_23 ad tc _) (tysM_0 tc) (okM_23 (by omega)) (by omega) (by omega) (by decide) (x := M 23 u ((r).toNat)) (by simp [zup, strikeM_fr (f := 23) (by decide)]) dX9_begin_115 ?_
          refine z_iconst hC dX9_begin_116 ?_
          refine z_iadd hC dX9_begin_117 ?_
          refine z_iastore hC 0 ((r).toNat) (tmM_23 ad tc _) (tysM_0 tc) (okM_23 (by omega)) (by omega) (by omega) (by decide) dX9_begin_118 ?_
          refine z_aload_n hC 1 rfl dX9_begin_119 rfl ?_
          refine z_getR hC zfX9_22 (tmM_11 ad tc _) (okM_11 (by omega)) rfl dX9_begin_120 ?_
          refine z_iconst hC dX9_begin_123 ?_
          refine z_iload_n hC 2 rfl dX9_begin_124 rfl ?_
          refine z_imul hC dX9_begin_125 ?_
          refine z_aload_n hC 1 rfl dX9_begin_126 rfl ?_
          refine z_getR hC zfX9_19 (tmM_11 ad tc _) (okM_11 (by omega)) rfl dX9_begin_127 ?_
          refine z_iload_n hC 2 rfl dX9_begin_130 rfl ?_
          have hq7 : 0 ≤ M 13 u ((q).toNat) ∧ M 13 u ((q).toNat) ≤ 3 := hW.1 13 u ((q).toNat)
          refine z_iaload hC 0 ((q).toNat) (tmM_13 ad tc _) (tysM_0 tc) (okM_13 (by omega)) (by omega) (by omega) (by decide) (x := M 13 u ((q).toNat)) (by simp [zup, strikeM_fr (f := 13) (by decide)]) dX9_begin_131 ?_
          refine z_iadd hC dX9_begin_132 ?_
          refine z_iload hC 0 rfl dX9_begin_133 ?_
          refine z_iastore hC 0 (((3 * q) + (M 13 u ((q).toNat))).toNat) (tmM_14 ad tc _) (tysM_0 tc) (okM_14 (by omega)) (by omega) (by omega) (by decide) dX9_begin_135 ?_
          refine z_aload_n hC 1 rfl dX9_begin_136 rfl ?_
          refine z_getR hC zfX9_25 (tmM_11 ad tc _) (okM_11 (by omega)) rfl dX9_begin_137 ?_
          refine z_iconst hC dX9_begin_140 ?_
          refine z_iload_n hC 2 rfl dX9_begin_141 rfl ?_
          refine z_imul hC dX9_begin_142 ?_
          refine z_aload_n hC 1 rfl dX9_begin_143 rfl ?_
          refine z_getR hC zfX9_19 (tmM_11 ad tc _) (okM_11 (by omega)) rfl dX9_begin_144 ?_
          refine z_iload_n hC 2 rfl dX9_begin_147 rfl ?_
          have hq8 : 0 ≤ M 13 u ((q).toNat) ∧ M 13 u ((q).toNat) ≤ 3 := hW.1 13 u ((q).toNat)
          refine z_iaload hC 0 ((q).toNat) (tmM_13 ad tc _) (tysM_0 tc) (okM_13 (by omega)) (by omega) (by omega) (by decide) (x := M 13 u ((q).toNat)) (by simp [zup, strikeM_fr (f := 13) (by decide)]) dX9_begin_148 ?_
          refine z_iadd hC dX9_begin_149 ?_
          refine z_aload_n hC 1 rfl dX9_begin_150 rfl ?_
          refine z_getR hC zfX9_3 (tmM_11 ad tc _) (okM_11 (by omega)) rfl dX9_begin_151 ?_
          refine z_iload_n hC 2 rfl dX9_begin_154 rfl ?_
          refine z_aload_n hC 1 rfl dX9_begin_155 rfl ?_
          refine z_getR hC zfX9_3 (tmM_11 ad tc _) (okM_11 (by omega)) rfl dX9_begin_156 ?_
          refine z_getRN hC zfX9_93 (tmM_0 ad tc _) (okM_0 (by omega)) rfl dX9_begin_159 ?_
          have hW3 : WTM T U (zup (zup (zup (zup (strikeM M u r j) 20 u ((r).toNat) 1) 21 u ((r).toNat) q) 23 u ((r).toNat) ((M 23 u ((r).toNat)) + 1)) 14 u (((3 * q) + (M 13 u ((q).toNat))).toNat) r) := ((((strikeM_wt hW (by rw [hat]; omega)).up (f := 20) (by decide) ⟨by omega, by omega⟩).up (f := 21) (by decide) ⟨by omega, by omega⟩).up (f := 23) (by decide) trivial).up (f := 14) (by decide) ⟨by omega, by omega⟩
          refine z_iload hC 0 rfl dX9_begin_162 ?_
          have hq9 : 0 ≤ M 8 0 ((r).toNat) ∧ M 8 0 ((r).toNat) ≤ 120 := hW.1 8 0 ((r).toNat)
          refine z_iaload hC 0 ((r).toNat) (tmM_8 ad tc _) (tysM_0 tc) (okM_8 (by omega)) (by omega) (by omega) (by decide) (x := M 8 0 ((r).toNat)) (by simp [zup, strikeM_fr (f := 8) (by decide)]) dX9_begin_164 ?_
          refine z_callViN hC zlX9_122 (k_X10_rideOf l D tc ad hI (zup (zup (zup (zup (strikeM M u r j) 20 u ((r).toNat) 1) 21 u ((r).toNat) q) 23 u ((r).toNat) ((M 23 u ((r).toNat)) + 1)) 14 u (((3 * q) + (M 13 u ((q).toNat))).toNat) r) q (M 8 0 ((r).toNat)) hW3 hl hwr) (tmM_0 ad tc _) rfl (okM_0 (by omega)) rfl rfl (Nat.le_of_ble_eq_true rfl) ⟨by decide, by decide⟩ ⟨by decide, by decide⟩ dX9_begin_165 ?_
          have hre : rideM (zup (zup (zup (zup (strikeM M u r j) 20 u ((r).toNat) 1) 21 u ((r).toNat) q) 23 u ((r).toNat) ((M 23 u ((r).toNat)) + 1)) 14 u (((3 * q) + (M 13 u ((q).toNat))).toNat) r) q (M 8 0 r.toNat) = rideM M q (M 8 0 r.toNat) := rideM_eq (fun f hf => (by (repeat rw [zup_fr (by omega)]); exact strikeM_fr (by omega)))
          rw [hre]
          refine z_callSi hC zlX9_126 (m_J9_abs_0f7a4 l D tc ad hI (zup (zup (zup (zup (strikeM M u r j) 20 u ((r).toNat) 1) 21 u ((r).toNat) q) 23 u ((r).toNat) ((M 23 u ((r).toNat)) + 1)) 14 u (((3 * q) + (M 13 u ((q).toNat))).toNat) r) (rideM M q (M 8 0 r.toNat)) (by have := rideM_bd hW hl hwr; omega)) rfl rfl (Nat.le_of_ble_eq_true rfl) ⟨by decide, by decide⟩ ⟨by decide, by decide⟩ dX9_begin_168 ?_
          refine z_iastore hC 0 (((3 * q) + (M 13 u ((q).toNat))).toNat) (tmM_15 ad tc _) (tysM_0 tc) (okM_15 (by omega)) (by omega) (by omega) (by decide) dX9_begin_171 ?_
          have hU := hW.2.2.2
          have hrb := rideM_bd hW hl hwr
          have hab : 0 ≤ absC (rideM M q (M 8 0 r.toNat)) ∧ absC (rideM M q (M 8 0 r.toNat)) ≤ 500 := by simp only [absC]; split <;> omega
          refine z_aload_n hC 1 rfl dX9_begin_172 rfl ?_
          refine z_getR hC zfX9_19 (tmM_11 ad tc _) (okM_11 (by omega)) rfl dX9_begin_173 ?_
          refine z_iload_n hC 2 rfl dX9_begin_176 rfl ?_
          refine z_dup2 hC dX9_begin_177 rfl rfl ?_
          have hq10 : 0 ≤ M 13 u ((q).toNat) ∧ M 13 u ((q).toNat) ≤ 3 := hW.1 13 u ((q).toNat)
          refine z_iaload hC 0 ((q).toNat) (tmM_13 ad tc _) (tysM_0 tc) (okM_13 (by omega)) (by omega) (by omega) (by decide) (x := M 13 u ((q).toNat)) (by simp [zup, strikeM_fr (f := 13) (by decide)]) dX9_begin_178 ?_
          refine z_iconst hC dX9_begin_179 ?_
          refine z_iadd hC dX9_begin_180 ?_
          refine z_iastore hC 0 ((q).toNat) (tmM_13 ad tc _) (tysM_0 tc) (okM_13 (by omega)) (by omega) (by omega) (by decide) dX9_begin_181 ?_
          refine z_aload_n hC 1 rfl dX9_begin_182 rfl ?_
          refine z_getR hC zfX9_28 (tmM_11 ad tc _) (okM_11 (by omega)) rfl dX9_begin_183 ?_
          refine z_iload_n hC 2 rfl dX9_begin_186 rfl ?_
          refine z_dup2 hC dX9_begin_187 rfl rfl ?_
          refine z_iaload hC 0 ((q).toNat) (tmM_16 ad tc _) (tysM_0 tc) (okM_16 (by omega)) (by omega) (by omega) (by decide) (x := M 16 u ((q).toNat)) (by simp [zup, strikeM_fr (f := 16) (by decide)]) dX9_begin_188 ?_
          refine z_iconst hC dX9_begin_189 ?_
          refine z_iadd hC dX9_begin_190 ?_
          refine z_iastore hC 0 ((q).toNat) (tmM_16 ad tc _) (tysM_0 tc) (okM_16 (by omega)) (by omega) (by omega) (by decide) dX9_begin_191 ?_
          refine z_aload_n hC 1 rfl dX9_begin_192 rfl ?_
          refine z_getR hC zfX9_31 (tmM_11 ad tc _) (okM_11 (by omega)) rfl dX9_begin_193 ?_
          refine z_iload_n hC 2 rfl dX9_begin_196 rfl ?_
          refine z_dup2 hC dX9_begin_197 rfl rfl ?_
          refine z_iaload hC 0 ((q).toNat) (tmM_17 ad tc _) (tysM_0 tc) (okM_17 (by omega)) (by omega) (by omega) (by decide) (x := M 17 u ((q).toNat)) (by simp [zup, strikeM_fr (f := 17) (by decide)]) dX9_begin_198 ?_
          refine z_aload_n hC 1 rfl dX9_begin_199 rfl ?_
          refine z_getR hC zfX9_3 (tmM_11 ad tc _) (okM_11 (by omega)) rfl dX9_begin_200 ?_
          refine z_iload_n hC 2 rfl dX9_begin_203 rfl ?_
          refine z_aload_n hC 1 rfl dX9_begin_204 rfl ?_
          refine z_getR hC zfX9_3 (tmM_11 ad tc _) (okM_11 (by omega)) rfl dX9_begin_205 ?_
          refine z_getRN hC zfX9_93 (tmM_0 ad tc _) (okM_0 (by omega)) rfl dX9_begin_208 ?_
          have hW4 : WTM T U (zup (zup (zup (zup (zup (zup (zup (strikeM M u r j) 20 u ((r).toNat) 1) 21 u ((r).toNat) q) 23 u ((r).toNat) ((M 23 u ((r).toNat)) + 1)) 14 u (((3 * q) + (M 13 u ((q).toNat))).toNat) r) 15 u (((3 * q) + (M 13 u ((q).toNat))).toNat) (absC (rideM M q (M 8 0 r.toNat)))) 13 u ((q).toNat) ((M 13 u ((q).toNat)) + 1)) 16 u ((q).toNat) ((M 16 u ((q).toNat)) + 1)) := ((((((strikeM_wt hW (by rw [hat]; omega)).up (f := 20) (by decide) ⟨by omega, by omega⟩).up (f := 21) (by decide) ⟨by omega, by omega⟩).up (f := 23) (by decide) trivial).up (f := 14) (by decide) ⟨by omega, by omega⟩).up (f := 15) (by decide) ⟨by omega, by omega⟩).up (f := 13) (by decide) ⟨by omega, by omega⟩ |>.up (f := 16) (by decide) trivial
          refine z_iload hC 0 rfl dX9_begin_211 ?_
          have hq11 : 0 ≤ M 8 0 ((r).toNat) ∧ M 8 0 ((r).toNat) ≤ 120 := hW.1 8 0 ((r).toNat)
          refine z_iaload hC 0 ((r).toNat) (tmM_8 ad tc _) (tysM_0 tc) (okM_8 (by omega)) (by omega) (by omega) (by decide) (x := M 8 0 ((r).toNat)) (by simp [zup, strikeM_fr (f := 8) (by decide)]) dX9_begin_213 ?_
          refine z_callViN hC zlX9_122 (k_X10_rideOf l D tc ad hI (zup (zup (zup (zup (zup (zup (zup (strikeM M u r j) 20 u ((r).toNat) 1) 21 u ((r).toNat) q) 23 u ((r).toNat) ((M 23 u ((r).toNat)) + 1)) 14 u (((3 * q) + (M 13 u ((q).toNat))).toNat) r) 15 u (((3 * q) + (M 13 u ((q).toNat))).toNat) (absC (rideM M q (M 8 0 r.toNat)))) 13 u ((q).toNat) ((M 13 u ((q).toNat)) + 1)) 16 u ((q).toNat) ((M 16 u ((q).toNat)) + 1)) q (M 8 0 ((r).toNat)) hW4 hl hwr) (tmM_0 ad tc _) rfl (okM_0 (by omega)) rfl rfl (Nat.le_of_ble_eq_true rfl) ⟨by decide, by decide⟩ ⟨by decide, by decide⟩ dX9_begin_214 ?_
          have hre : rideM (zup (zup (zup (zup (zup (zup (zup (strikeM M u r j) 20 u ((r).toNat) 1) 21 u ((r).toNat) q) 23 u ((r).toNat) ((M 23 u ((r).toNat)) + 1)) 14 u (((3 * q) + (M 13 u ((q).toNat))).toNat) r) 15 u (((3 * q) + (M 13 u ((q).toNat))).toNat) (absC (rideM M q (M 8 0 r.toNat)))) 13 u ((q).toNat) ((M 13 u ((q).toNat)) + 1)) 16 u ((q).toNat) ((M 16 u ((q).toNat)) + 1)) q (M 8 0 r.toNat) = rideM M q (M 8 0 r.toNat) := rideM_eq (fun f hf => (by (repeat rw [zup_fr (by omega)]); exact strikeM_fr (by omega)))
          rw [hre]
          refine z_if_ge hC 224 dX9_begin_217 (by decide) (by omega) (fun c217 => ?_) (fun c217 => ?_)
          · skip
            refine z_iconst hC dX9_begin_224 ?_
            refine z_iadd hC dX9_begin_225 ?_
            refine z_iastore hC 0 ((q).toNat) (tmM_17 ad tc _) (tysM_0 tc) (okM_17 (by omega)) (by omega) (by omega) (by decide) dX9_begin_226 ?_
            exact z_vret hC hret hlk (by first | exact (beginM_none hz (by omega)).symm | (rw [beginM_found hz hbj (by omega) hr, seatM, seatM1]; first | rfl | (rw [if_pos (by omega)]; done) | (rw [if_neg (by omega)]; done))) dX9_begin_227
          · skip
            refine z_iconst hC dX9_begin_220 ?_
            refine z_goto hC 225 dX9_begin_221 (by decide) ?_
            refine z_iadd hC dX9_begin_225 ?_
            refine z_iastore hC 0 ((q).toNat) (tmM_17 ad tc _) (tysM_0 tc) (okM_17 (by omega)) (by omega) (by omega) (by decide) dX9_begin_226 ?_
            exact z_vret hC hret hlk (by first | exact (beginM_none hz (by omega)).symm | (rw [beginM_found hz hbj (by omega) hr, seatM, seatM1]; first | rfl | (rw [if_pos (by omega)]; done) | (rw [if_neg (by omega)]; done))) dX9_begin_227
        · skip
          refine z_goto hC 228 dX9_begin_83 (by decide) ?_
          refine z_iinc hC 4 (L' := [(3, iv (((12 * (M 4 0 q.toNat).toNat + j : Nat) : Int) + 1)), (4, iv (M 19 u (12 * (M 4 0 q.toNat).toNat + j))), (0, .ref (ad 11 u)), (1, iv q), (2, iv (12 * M 4 0 q.toNat))]) dX9_begin_228 rfl (by decide) rfl ?_
          refine z_goto hC 15 dX9_begin_231 (by decide) ?_
          refine z_perm [2, 3, 4, 0] (L' := [(0, .ref (ad 11 u)), (1, iv q), (2, iv (12 * M 4 0 q.toNat)), (3, iv (((12 * (M 4 0 q.toNat).toNat + j : Nat) : Int) + 1))]) rfl ?_
          exact z_conv (ih15 _ (by omega) (j + 1) (by omega) (fun k hk => (Nat.lt_or_ge k j).elim (hz k) (fun z => by rw [show k = j by omega]; assumption)) rfl) (by rfl) (by rfl) (by rfl)
  refine z_bipush hC dX9_begin_0 (by decide) ?_
  refine z_aload_n hC 0 rfl dX9_begin_2 rfl ?_
  refine z_getR hC zfX9_3 (tmM_11 ad tc _) (okM_11 (by omega)) rfl dX9_begin_3 ?_
  refine z_getRN hC zfX9_116 (tmM_0 ad tc _) (okM_0 (by omega)) rfl dX9_begin_6 ?_
  refine z_iload_n hC 1 rfl dX9_begin_9 rfl ?_
  have hq12 : 0 ≤ M 4 0 ((q).toNat) ∧ M 4 0 ((q).toNat) ≤ 7 := hW.1 4 0 ((q).toNat)
  refine z_iaload hC 0 ((q).toNat) (tmM_4 ad tc _) (tysM_0 tc) (okM_4 (by omega)) (by omega) (by omega) (by decide) (x := M 4 0 ((q).toNat)) (rfl) dX9_begin_10 ?_
  refine z_imul hC dX9_begin_11 ?_
  refine z_istore_n hC (L' := [(2, iv (12 * (M 4 0 ((q).toNat)))), (0, .ref (ad 11 u)), (1, iv q)]) dX9_begin_12 rfl (by decide) rfl ?_
  refine z_iload_n hC 0 rfl dX9_begin_13 rfl ?_
  refine z_istore_n hC (L' := [(3, iv (12 * (M 4 0 ((q).toNat)))), (2, iv (12 * (M 4 0 ((q).toNat)))), (0, .ref (ad 11 u)), (1, iv q)]) dX9_begin_14 rfl (by decide) rfl ?_
  refine z_perm [2, 3, 1, 0] (L' := [(0, .ref (ad 11 u)), (1, iv q), (2, iv (12 * (M 4 0 ((q).toNat)))), (3, iv (12 * (M 4 0 ((q).toNat))))]) rfl ?_
  exact z_conv (hc15 _ 0 (by omega) (fun k hk => by omega) rfl) (by rfl) (by simp [Int.toNat_of_nonneg h4q.1]) (by rfl)
