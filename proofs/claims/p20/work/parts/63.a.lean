/-! the law, piece by piece: who comes, wind, trolleys, asking -/
set_option maxHeartbeats 4000000 in
set_option maxRecDepth 100000 in
theorem law_A {p : Program} {l : Launch} {e : Env} {s : State} {m : MethodId} {args : Array Value} {below : List Frame} {meth : Method} {c : Code} {Q : State → Prop} {D : va_G} {tc : Nat → ClassId} {b : Nat} {A : Nat → Prop} {H0 : Heap} {sb Ls : Nat} {xs : Nat → Int32} (hlt : l.stackTraces = false) (hK : zLK p s m args c D tc b A H0 cL_law 23 sb Ls xs) (hA : ∀ q, b ≤ q → A q) {cs ss : Nat} (hcs : cs ≤ 500000) (hss : ss ≤ 7000000) {P : Int} {t n : Nat} {C : zM} (hP : 2 ≤ P ∧ P ≤ 8) (hG : GS n C) (hn : n < 400) (h4 : C 1 0 4 = P) (h5 : 1 ≤ C 1 0 5) (ht : t < 45) (hgo : ∀ (C9 : zM) (x : Int32), GS (n + 1) C9 → C9 1 0 4 = P → 1 ≤ C9 1 0 5 → zQ p l e room_1 s m args below meth c Q D tc b A H0 23 (cs + 10) (ss + 100) C9 [] [(0, .ref sb), (1, .ref (adC b 0 0)), (2, iv P), (3, iv ((t : Nat) : Int)), (4, .int x)] 103 []) : zQ p l e room_1 s m args below meth c Q D tc b A H0 23 (cs) (ss) C [] [(0, .ref sb), (1, .ref (adC b 0 0)), (2, iv P), (3, iv ((t : Nat) : Int))] 20 [] := by
  have hC := hK.1
  have hX := hK.2.1
  have hW := hG.wt (show n ≤ 512 by omega)
  have hb5 : 0 ≤ C 1 0 5 ∧ C 1 0 5 ≤ 12 := hW.1 1 0 5
  have hb6 : 0 ≤ C 1 0 6 ∧ C 1 0 6 ≤ 12 := hW.1 1 0 6
  refine zq_aload_n hC 0 rfl dL_law_20 rfl ?_
  refine zq_iload_n hC 3 rfl dL_law_21 rfl ?_
  refine zq_bipush hC dL_law_22 (by decide) ?_
  refine zq_irem hC dL_law_24 (by omega) (by omega) ?_
  refine zq_cell hK (t % 16) (by omega) (by omega) (Nat.le_of_ble_eq_true rfl) ⟨by decide, by decide⟩ ⟨by show _ ≤ 602799; omega, by show _ ≤ 7293227; omega⟩ dL_law_25 (fun z1 => ?_)
  refine zq_iload_n hC 3 rfl dL_law_28 rfl ?_
  refine zq_bipush hC dL_law_29 (by decide) ?_
  refine zq_idiv hC dL_law_31 (by omega) (by omega) ?_
  refine zq_bipush hC dL_law_32 (by decide) ?_
  refine zq_imul hC dL_law_34 ?_
  refine zq_ishr_any hC dL_law_35 (fun z2 => ?_)
  refine zq_istore hC (L' := [(4, .int z2), (0, .ref sb), (1, .ref (adC b 0 0)), (2, iv P), (3, iv ((t : Nat) : Int))]) dL_law_36 (by decide) rfl ?_
  refine zq_iload hC 0 rfl dL_law_38 ?_
  refine zq_iconst hC dL_law_40 ?_
  refine zq_below hK (n := 5) ⟨by omega, by omega⟩ (Nat.le_of_ble_eq_true rfl) ⟨by decide, by decide⟩ ⟨by show _ ≤ 602799; omega, by show _ ≤ 7293227; omega⟩ dL_law_41 (fun r3 hr3 gr3 => ?_)
  refine zq_if_ne hC 103 dL_law_44 (by decide) (by omega) (fun c44 => ?_) (fun c44 => ?_)
  · skip
    refine zq_perm [1, 2, 3, 4, 0] (L' := [(0, .ref sb), (1, .ref (adC b 0 0)), (2, iv P), (3, iv ((t : Nat) : Int)), (4, .int z2)]) rfl ?_
    refine zq_widen (k := cs + 10) (n := ss + 100) (by omega) (by omega) ?_
    exact hgo C z2 hG.skip h4 h5
  · skip
    refine zq_aload_n hC 2 rfl dL_law_47 rfl ?_
    refine zq_iconst hC dL_law_48 ?_
    refine zq_call hC hX zlL_40 rfl (k_X8_count l hlt D tc (adC b) (zI_adC b) C 3 hW ⟨by decide, by decide⟩) (by decide) (r2 := (C 1 0 6)) (by rfl) rfl rfl (Nat.le_of_ble_eq_true rfl) ⟨by decide, by decide⟩ ⟨by show _ ≤ 602799; omega, by show _ ≤ 7293227; omega⟩ dL_law_49 ?_
    refine zq_bipush hC dL_law_52 (by decide) ?_
    refine zq_icmp_ge hC 103 dL_law_54 (by decide) (by omega) (by omega) (fun c54 => ?_) (fun c54 => ?_)
    · skip
      refine zq_perm [1, 2, 3, 4, 0] (L' := [(0, .ref sb), (1, .ref (adC b 0 0)), (2, iv P), (3, iv ((t : Nat) : Int)), (4, .int z2)]) rfl ?_
      refine zq_widen (k := cs + 10) (n := ss + 100) (by omega) (by omega) ?_
      exact hgo C z2 hG.skip h4 h5
    · skip
      refine zq_aload_n hC 2 rfl dL_law_57 rfl ?_
      refine zq_iload hC 0 rfl dL_law_58 ?_
      refine zq_iconst hC dL_law_60 ?_
      refine zq_ishr_any hC dL_law_61 (fun z4 => ?_)
      refine zq_iload_n hC 3 rfl dL_law_62 rfl ?_
      refine zq_below hK (n := P) ⟨by omega, by omega⟩ (Nat.le_of_ble_eq_true rfl) ⟨by decide, by decide⟩ ⟨by show _ ≤ 602799; omega, by show _ ≤ 7293227; omega⟩ dL_law_63 (fun r5 hr5 gr5 => ?_)
      refine zq_iload hC 0 rfl dL_law_66 ?_
      refine zq_bipush hC dL_law_68 (by decide) ?_
      refine zq_ishr_any hC dL_law_70 (fun z6 => ?_)
      refine zq_iload_n hC 3 rfl dL_law_71 rfl ?_
      refine zq_below hK (n := P) ⟨by omega, by omega⟩ (Nat.le_of_ble_eq_true rfl) ⟨by decide, by decide⟩ ⟨by show _ ≤ 602799; omega, by show _ ≤ 7293227; omega⟩ dL_law_72 (fun r7 hr7 gr7 => ?_)
      refine zq_bipush hC dL_law_75 (by decide) ?_
      refine zq_iload hC 0 rfl dL_law_77 ?_
      refine zq_iconst hC dL_law_79 ?_
      refine zq_ishr_any hC dL_law_80 (fun z8 => ?_)
      refine zq_bipush hC dL_law_81 (by decide) ?_
      refine zq_below hK (n := 101) ⟨by omega, by omega⟩ (Nat.le_of_ble_eq_true rfl) ⟨by decide, by decide⟩ ⟨by show _ ≤ 602799; omega, by show _ ≤ 7293227; omega⟩ dL_law_83 (fun r9 hr9 gr9 => ?_)
      refine zq_iadd hC dL_law_86 ?_
      refine zq_iconst hC dL_law_87 ?_
      refine zq_iload hC 0 rfl dL_law_88 ?_
      refine zq_bipush hC dL_law_90 (by decide) ?_
      refine zq_ishr_any hC dL_law_92 (fun z10 => ?_)
      refine zq_bipush hC dL_law_93 (by decide) ?_
      refine zq_below hK (n := 60) ⟨by omega, by omega⟩ (Nat.le_of_ble_eq_true rfl) ⟨by decide, by decide⟩ ⟨by show _ ≤ 602799; omega, by show _ ≤ 7293227; omega⟩ dL_law_95 (fun r11 hr11 gr11 => ?_)
      refine zq_iadd hC dL_law_98 ?_
      obtain ⟨hk, hG2, k4, k5, k6⟩ := gs_come (q := r5) (g := r7) (w := 20 + r9) (pa := 1 + r11) hG (by omega) ⟨by omega, by omega⟩ ⟨by omega, by omega⟩ ⟨by omega, by omega⟩ ⟨by omega, by omega⟩ (by omega)
      refine zq_call hC hX zlL_33 rfl (k_X8_come l hlt D tc (adC b) (zI_adC b) C r5 r7 (20 + r9) (1 + r11) hW ⟨by omega, by omega⟩ ⟨by omega, by omega⟩ ⟨by omega, by omega⟩ ⟨by omega, by omega⟩) (hk) (r2 := (C 1 0 6)) (by rfl) rfl rfl (Nat.le_of_ble_eq_true rfl) ⟨by decide, by decide⟩ ⟨by show _ ≤ 602799; omega, by show _ ≤ 7293227; omega⟩ dL_law_99 ?_
      refine zq_pop hC dL_law_102 rfl ?_
      refine zq_perm [1, 2, 3, 4, 0] (L' := [(0, .ref sb), (1, .ref (adC b 0 0)), (2, iv P), (3, iv ((t : Nat) : Int)), (4, .int z2)]) rfl ?_
      refine zq_widen (k := cs + 10) (n := ss + 100) (by omega) (by omega) ?_
      exact hgo _ z2 hG2 (by omega) (by omega)
set_option maxHeartbeats 4000000 in
set_option maxRecDepth 100000 in
theorem law_B {p : Program} {l : Launch} {e : Env} {s : State} {m : MethodId} {args : Array Value} {below : List Frame} {meth : Method} {c : Code} {Q : State → Prop} {D : va_G} {tc : Nat → ClassId} {b : Nat} {A : Nat → Prop} {H0 : Heap} {sb Ls : Nat} {xs : Nat → Int32} (hlt : l.stackTraces = false) (hK : zLK p s m args c D tc b A H0 cL_law 23 sb Ls xs) (hA : ∀ q, b ≤ q → A q) {cs ss : Nat} (hcs : cs ≤ 500000) (hss : ss ≤ 7000000) {P : Int} {t n : Nat} {C : zM} {x : Int32} (hP : 2 ≤ P ∧ P ≤ 8) (hG : GS n C) (hn : n < 400) (h4 : C 1 0 4 = P) (h5 : 1 ≤ C 1 0 5) (hgo : ∀ C9 : zM, GS (n + 1) C9 → C9 1 0 4 = P → 1 ≤ C9 1 0 5 → zQ p l e room_1 s m args below meth c Q D tc b A H0 23 (cs + 10) (ss + 100) C9 [] [(0, .ref sb), (1, .ref (adC b 0 0)), (2, iv P), (3, iv ((t : Nat) : Int)), (4, .int x)] 138 []) : zQ p l e room_1 s m args below meth c Q D tc b A H0 23 (cs) (ss) C [] [(0, .ref sb), (1, .ref (adC b 0 0)), (2, iv P), (3, iv ((t : Nat) : Int)), (4, .int x)] 103 [] := by
  have hC := hK.1
  have hX := hK.2.1
  have hW := hG.wt (show n ≤ 512 by omega)
  refine zq_iload hC 4 rfl dL_law_103 ?_
  refine zq_bipush hC dL_law_105 (by decide) ?_
  refine zq_below hK (n := 9) ⟨by omega, by omega⟩ (Nat.le_of_ble_eq_true rfl) ⟨by decide, by decide⟩ ⟨by show _ ≤ 602799; omega, by show _ ≤ 7293227; omega⟩ dL_law_107 (fun r1 hr1 gr1 => ?_)
  refine zq_iconst hC dL_law_110 ?_
  refine zq_icmp_ne hC 138 dL_law_111 (by decide) (by omega) (by omega) (fun c111 => ?_) (fun c111 => ?_)
  · skip
    refine zq_widen (k := cs + 10) (n := ss + 100) (by omega) (by omega) ?_
    exact hgo C hG.skip h4 h5
  · skip
    refine zq_aload_n hC 1 rfl dL_law_114 rfl ?_
    refine zq_iload hC 4 rfl dL_law_115 ?_
    refine zq_iconst hC dL_law_117 ?_
    refine zq_ishr_any hC dL_law_118 (fun z2 => ?_)
    refine zq_bipush hC dL_law_119 (by decide) ?_
    refine zq_below hK (n := 12) ⟨by omega, by omega⟩ (Nat.le_of_ble_eq_true rfl) ⟨by decide, by decide⟩ ⟨by show _ ≤ 602799; omega, by show _ ≤ 7293227; omega⟩ dL_law_121 (fun r3 hr3 gr3 => ?_)
    refine zq_iload hC 4 rfl dL_law_124 ?_
    refine zq_bipush hC dL_law_126 (by decide) ?_
    refine zq_ishr_any hC dL_law_128 (fun z4 => ?_)
    refine zq_bipush hC dL_law_129 (by decide) ?_
    refine zq_below hK (n := 10) ⟨by omega, by omega⟩ (Nat.le_of_ble_eq_true rfl) ⟨by decide, by decide⟩ ⟨by show _ ≤ 602799; omega, by show _ ≤ 7293227; omega⟩ dL_law_131 (fun r5 hr5 gr5 => ?_)
    obtain ⟨hk, hG2⟩ := gs_wind (mi := r3) (w := r5) hG (by omega) ⟨by omega, by omega⟩ ⟨by omega, by omega⟩
    refine zq_call hC hX zlL_30 rfl (k_X8_setWind l hlt D tc (adC b) (zI_adC b) C r3 r5 hW ⟨by omega, by omega⟩ ⟨by omega, by omega⟩) (hk) (r2 := (C 5 0 r3.toNat)) (by rfl) rfl rfl (Nat.le_of_ble_eq_true rfl) ⟨by decide, by decide⟩ ⟨by show _ ≤ 602799; omega, by show _ ≤ 7293227; omega⟩ dL_law_134 ?_
    refine zq_pop hC dL_law_137 rfl ?_
    refine zq_widen (k := cs + 10) (n := ss + 100) (by omega) (by omega) ?_
    exact hgo _ hG2 (by rw [zup_fr (by decide)]; exact h4) (by rw [zup_fr (by decide)]; exact h5)
set_option maxHeartbeats 4000000 in
set_option maxRecDepth 100000 in
theorem law_B2 {p : Program} {l : Launch} {e : Env} {s : State} {m : MethodId} {args : Array Value} {below : List Frame} {meth : Method} {c : Code} {Q : State → Prop} {D : va_G} {tc : Nat → ClassId} {b : Nat} {A : Nat → Prop} {H0 : Heap} {sb Ls : Nat} {xs : Nat → Int32} (hlt : l.stackTraces = false) (hK : zLK p s m args c D tc b A H0 cL_law 23 sb Ls xs) (hA : ∀ q, b ≤ q → A q) {cs ss : Nat} (hcs : cs ≤ 500000) (hss : ss ≤ 7000000) {P : Int} {t n : Nat} {C : zM} {x : Int32} (hP : 2 ≤ P ∧ P ≤ 8) (hG : GS n C) (hn : n < 400) (h4 : C 1 0 4 = P) (h5 : 1 ≤ C 1 0 5) (hgo : ∀ C9 : zM, GS (n + 1) C9 → C9 1 0 4 = P → 1 ≤ C9 1 0 5 → zQ p l e room_1 s m args below meth c Q D tc b A H0 23 (cs + 10) (ss + 100) C9 [] [(0, .ref sb), (1, .ref (adC b 0 0)), (2, iv P), (3, iv ((t : Nat) : Int)), (4, .int x)] 181 []) : zQ p l e room_1 s m args below meth c Q D tc b A H0 23 (cs) (ss) C [] [(0, .ref sb), (1, .ref (adC b 0 0)), (2, iv P), (3, iv ((t : Nat) : Int)), (4, .int x)] 138 [] := by
  have hC := hK.1
  have hX := hK.2.1
  have hW := hG.wt (show n ≤ 512 by omega)
  have hb5 : 0 ≤ C 1 0 5 ∧ C 1 0 5 ≤ 12 := hW.1 1 0 5
  have hb6 : 0 ≤ C 1 0 6 ∧ C 1 0 6 ≤ 12 := hW.1 1 0 6
  refine zq_iload hC 4 rfl dL_law_138 ?_
  refine zq_bipush hC dL_law_140 (by decide) ?_
  refine zq_below hK (n := 9) ⟨by omega, by omega⟩ (Nat.le_of_ble_eq_true rfl) ⟨by decide, by decide⟩ ⟨by show _ ≤ 602799; omega, by show _ ≤ 7293227; omega⟩ dL_law_142 (fun r1 hr1 gr1 => ?_)
  refine zq_iconst hC dL_law_145 ?_
  refine zq_icmp_ne hC 181 dL_law_146 (by decide) (by omega) (by omega) (fun c146 => ?_) (fun c146 => ?_)
  · skip
    refine zq_widen (k := cs + 10) (n := ss + 100) (by omega) (by omega) ?_
    exact hgo C hG.skip h4 h5
  · skip
    refine zq_iload hC 4 rfl dL_law_149 ?_
    refine zq_iconst hC dL_law_151 ?_
    refine zq_ishr_any hC dL_law_152 (fun z2 => ?_)
    refine zq_aload_n hC 1 rfl dL_law_153 rfl ?_
    refine zq_iconst hC dL_law_154 ?_
    refine zq_call hC hX zlL_40 rfl (k_X8_count l hlt D tc (adC b) (zI_adC b) C 2 hW ⟨by decide, by decide⟩) (by decide) (r2 := (C 1 0 5)) (by rfl) rfl rfl (Nat.le_of_ble_eq_true rfl) ⟨by decide, by decide⟩ ⟨by show _ ≤ 602799; omega, by show _ ≤ 7293227; omega⟩ dL_law_155 ?_
    refine zq_below hK (n := (C 1 0 5)) ⟨by omega, by omega⟩ (Nat.le_of_ble_eq_true rfl) ⟨by decide, by decide⟩ ⟨by show _ ≤ 602799; omega, by show _ ≤ 7293227; omega⟩ dL_law_158 (fun r3 hr3 gr3 => ?_)
    refine zq_istore hC (L' := [(5, iv r3), (0, .ref sb), (1, .ref (adC b 0 0)), (2, iv P), (3, iv ((t : Nat) : Int)), (4, .int x)]) dL_law_161 (by decide) rfl ?_
    have hln := gs_line (l := r3.toNat) hG (by omega) (by omega)
    refine zq_aload_n hC 2 rfl dL_law_163 rfl ?_
    refine zq_iload hC 0 rfl dL_law_164 ?_
    refine zq_iconst hC dL_law_166 ?_
    refine zq_call hC hX zlL_44 rfl (k_X8_line l hlt D tc (adC b) (zI_adC b) C r3 5 hW ⟨by omega, by omega⟩ ⟨by decide, by decide⟩) (by unfold kLine; rw [if_pos ⟨by omega, by omega⟩, if_pos ⟨by decide, by decide⟩]) (r2 := (C 17 (12 * 0 + r3.toNat) 0 + C 17 (12 * 0 + r3.toNat) 1)) (by rfl) rfl rfl (Nat.le_of_ble_eq_true rfl) ⟨by decide, by decide⟩ ⟨by show _ ≤ 602799; omega, by show _ ≤ 7293227; omega⟩ dL_law_167 ?_
    refine zq_iconst hC dL_law_170 ?_
    refine zq_icmp_ge hC 181 dL_law_171 (by decide) (by omega) (by omega) (fun c171 => ?_) (fun c171 => ?_)
    · skip
      refine zq_perm [1, 2, 3, 4, 5] (L' := [(0, .ref sb), (1, .ref (adC b 0 0)), (2, iv P), (3, iv ((t : Nat) : Int)), (4, .int x)]) rfl ?_
      refine zq_widen (k := cs + 10) (n := ss + 100) (by omega) (by omega) ?_
      exact hgo C hG.skip h4 h5
    · skip
      refine zq_aload_n hC 2 rfl dL_law_174 rfl ?_
      refine zq_iload hC 0 rfl dL_law_175 ?_
      obtain ⟨hk, hG2⟩ := gs_add (q := r3) hG (by omega) ⟨by omega, by omega⟩ (by omega)
      refine zq_call hC hX zlL_47 rfl (k_X8_add l hlt D tc (adC b) (zI_adC b) C r3 hW ⟨by omega, by omega⟩) (hk) (r2 := ((addTC C 0 r3 1) 17 (12 * 0 + r3.toNat) 0 + (addTC C 0 r3 1) 17 (12 * 0 + r3.toNat) 1)) (by rfl) rfl rfl (Nat.le_of_ble_eq_true rfl) ⟨by decide, by decide⟩ ⟨by show _ ≤ 602799; omega, by show _ ≤ 7293227; omega⟩ dL_law_177 ?_
      refine zq_pop hC dL_law_180 rfl ?_
      refine zq_perm [1, 2, 3, 4, 5] (L' := [(0, .ref sb), (1, .ref (adC b 0 0)), (2, iv P), (3, iv ((t : Nat) : Int)), (4, .int x)]) rfl ?_
      refine zq_widen (k := cs + 10) (n := ss + 100) (by omega) (by omega) ?_
      exact hgo _ hG2 (by rw [addTC_fr (by decide)]; exact h4) (by rw [addTC_fr (by decide)]; exact h5)
set_option maxHeartbeats 4000000 in
set_option maxRecDepth 100000 in
theorem law_C1 {p : Program} {l : Launch} {e : Env} {s : State} {m : MethodId} {args : Array Value} {below : List Frame} {meth : Method} {c : Code} {Q : State → Prop} {D : va_G} {tc : Nat → ClassId} {b : Nat} {A : Nat → Prop} {H0 : Heap} {sb Ls : Nat} {xs : Nat → Int32} (hlt : l.stackTraces = false) (hK : zLK p s m args c D tc b A H0 cL_law 23 sb Ls xs) (hA : ∀ q, b ≤ q → A q) {cs ss : Nat} (hcs : cs ≤ 500000) (hss : ss ≤ 7000000) {P : Int} {t n : Nat} {C : zM} {x : Int32} (hP : 2 ≤ P ∧ P ≤ 8) (hG : GS n C) (hn : n < 400) (h4 : C 1 0 4 = P) (h5 : 1 ≤ C 1 0 5) (ht : t < 45) (hgo : ∀ C9 : zM, GS (n + 1) C9 → C9 1 0 4 = P → 1 ≤ C9 1 0 5 → C9 1 0 6 = C 1 0 6 → dg5 C9 = dg5 C → zQ p l e room_1 s m args below meth c Q D tc b A H0 23 (cs + 10) (ss + 100) C9 [] [(0, .ref sb), (1, .ref (adC b 0 0)), (2, iv P), (3, iv ((t : Nat) : Int)), (4, .int x), (5, iv (C 1 0 6)), (6, .long (dg5 C))] 217 []) : zQ p l e room_1 s m args below meth c Q D tc b A H0 23 (cs) (ss) C [] [(0, .ref sb), (1, .ref (adC b 0 0)), (2, iv P), (3, iv ((t : Nat) : Int)), (4, .int x)] 181 [] := by
  have hC := hK.1
  have hX := hK.2.1
  have hW := hG.wt (show n ≤ 512 by omega)
  have hb5 : 0 ≤ C 1 0 5 ∧ C 1 0 5 ≤ 12 := hW.1 1 0 5
  have hb6 : 0 ≤ C 1 0 6 ∧ C 1 0 6 ≤ 12 := hW.1 1 0 6
  refine zq_aload_n hC 1 rfl dL_law_181 rfl ?_
  refine zq_iconst hC dL_law_182 ?_
  refine zq_call hC hX zlL_40 rfl (k_X8_count l hlt D tc (adC b) (zI_adC b) C 3 hW ⟨by decide, by decide⟩) (by decide) (r2 := (C 1 0 6)) (by rfl) rfl rfl (Nat.le_of_ble_eq_true rfl) ⟨by decide, by decide⟩ ⟨by show _ ≤ 602799; omega, by show _ ≤ 7293227; omega⟩ dL_law_183 ?_
  refine zq_istore hC (L' := [(5, iv (C 1 0 6)), (0, .ref sb), (1, .ref (adC b 0 0)), (2, iv P), (3, iv ((t : Nat) : Int)), (4, .int x)]) dL_law_186 (by decide) rfl ?_
  refine zq_aload_n hC 2 rfl dL_law_188 rfl ?_
  refine zq_calll hC zlL_50 rfl (k_X8_digest l D tc (adC b) (zI_adC b) C hW) rfl rfl (Nat.le_of_ble_eq_true rfl) ⟨by decide, by decide⟩ ⟨by show _ ≤ 602799; omega, by show _ ≤ 7293227; omega⟩ dL_law_189 ?_
  refine zq_lstore hC (L' := [(6, .long (dg5 C)), (5, iv (C 1 0 6)), (0, .ref sb), (1, .ref (adC b 0 0)), (2, iv P), (3, iv ((t : Nat) : Int)), (4, .int x)]) dL_law_192 (by decide) rfl ?_
  refine zq_iload_n hC 5 rfl dL_law_194 rfl ?_
  refine zq_bipush hC dL_law_195 (by decide) ?_
  refine zq_irem hC dL_law_197 (by omega) (by omega) ?_
  refine zq_if_ne hC 217 dL_law_198 (by decide) (by omega) (fun c198 => ?_) (fun c198 => ?_)
  · skip
    refine zq_perm [2, 3, 4, 5, 6, 1, 0] (L' := [(0, .ref sb), (1, .ref (adC b 0 0)), (2, iv P), (3, iv ((t : Nat) : Int)), (4, .int x), (5, iv (C 1 0 6)), (6, .long (dg5 C))]) rfl ?_
    refine zq_widen (k := cs + 10) (n := ss + 100) (by omega) (by omega) ?_
    exact hgo C hG.skip h4 h5 rfl rfl
  · skip
    refine zq_aload_n hC 3 rfl dL_law_201 rfl ?_
    refine zq_iconst hC dL_law_202 ?_
    refine zq_iload hC 6 rfl dL_law_203 ?_
    refine zq_iconst hC dL_law_205 ?_
    refine zq_ishr_any hC dL_law_206 (fun z1 => ?_)
    refine zq_bipush hC dL_law_207 (by decide) ?_
    refine zq_below hK (n := 8) ⟨by omega, by omega⟩ (Nat.le_of_ble_eq_true rfl) ⟨by decide, by decide⟩ ⟨by show _ ≤ 602799; omega, by show _ ≤ 7293227; omega⟩ dL_law_209 (fun r2 hr2 gr2 => ?_)
    refine zq_iadd hC dL_law_212 ?_
    obtain ⟨hk, hG2, hd2, hf2⟩ := gs_advise (a := 1 + r2) hG (by omega) ⟨by omega, by omega⟩
    refine zq_call hC hX zlL_54 rfl (k_X8_advise l hlt D tc (adC b) (zI_adC b) C (1 + r2) hW ⟨by omega, by omega⟩ (by omega) (by omega)) (hk) (r2 := ((advN C (1 + r2) (C 1 0 5).toNat).2.2)) (by rfl) rfl rfl (Nat.le_of_ble_eq_true rfl) ⟨by decide, by decide⟩ ⟨by show _ ≤ 602799; omega, by show _ ≤ 7293227; omega⟩ dL_law_213 ?_
    refine zq_pop hC dL_law_216 rfl ?_
    refine zq_perm [2, 3, 4, 5, 6, 1, 0] (L' := [(0, .ref sb), (1, .ref (adC b 0 0)), (2, iv P), (3, iv ((t : Nat) : Int)), (4, .int x), (5, iv (C 1 0 6)), (6, .long (dg5 C))]) rfl ?_
    refine zq_widen (k := cs + 10) (n := ss + 100) (by omega) (by omega) ?_
    exact hgo _ hG2 (by rw [hf2]; exact h4) (by rw [hf2]; exact h5) (by rw [hf2]) hd2
set_option maxHeartbeats 4000000 in
set_option maxRecDepth 100000 in
theorem law_C2 {p : Program} {l : Launch} {e : Env} {s : State} {m : MethodId} {args : Array Value} {below : List Frame} {meth : Method} {c : Code} {Q : State → Prop} {D : va_G} {tc : Nat → ClassId} {b : Nat} {A : Nat → Prop} {H0 : Heap} {sb Ls : Nat} {xs : Nat → Int32} (hlt : l.stackTraces = false) (hK : zLK p s m args c D tc b A H0 cL_law 23 sb Ls xs) (hA : ∀ q, b ≤ q → A q) {cs ss : Nat} (hcs : cs ≤ 500000) (hss : ss ≤ 7000000) {P : Int} {t n : Nat} {C : zM} {x : Int32} {RC : Int} {d0 : Int64} (hP : 2 ≤ P ∧ P ≤ 8) (hG : GS n C) (hn : n < 400) (h4 : C 1 0 4 = P) (h5 : 1 ≤ C 1 0 5) (h6 : C 1 0 6 = RC) (hd : dg5 C = d0) (hgo : ∀ C9 : zM, GS (n + 1) C9 → C9 1 0 4 = P → 1 ≤ C9 1 0 5 → C9 1 0 6 = RC → dg5 C9 = d0 → zQ p l e room_1 s m args below meth c Q D tc b A H0 23 (cs + 10) (ss + 100) C9 [] [(0, .ref sb), (1, .ref (adC b 0 0)), (2, iv P), (3, iv ((t : Nat) : Int)), (4, .int x), (5, iv RC), (6, .long d0)] 237 []) : zQ p l e room_1 s m args below meth c Q D tc b A H0 23 (cs) (ss) C [] [(0, .ref sb), (1, .ref (adC b 0 0)), (2, iv P), (3, iv ((t : Nat) : Int)), (4, .int x), (5, iv RC), (6, .long d0)] 217 [] := by
  have hC := hK.1
  have hX := hK.2.1
  have hW := hG.wt (show n ≤ 512 by omega)
  have hb5 : 0 ≤ C 1 0 5 ∧ C 1 0 5 ≤ 12 := hW.1 1 0 5
  have hb6 : 0 ≤ C 1 0 6 ∧ C 1 0 6 ≤ 12 := hW.1 1 0 6
  refine zq_iload hC 5 rfl dL_law_217 ?_
  refine zq_if_le hC 237 dL_law_219 (by decide) (by omega) (fun c219 => ?_) (fun c219 => ?_)
  · skip
    refine zq_widen (k := cs + 10) (n := ss + 100) (by omega) (by omega) ?_
    exact hgo C hG.skip h4 h5 h6 hd
  · skip
    refine zq_aload_n hC 1 rfl dL_law_222 rfl ?_
    refine zq_iload hC 4 rfl dL_law_223 ?_
    refine zq_bipush hC dL_law_225 (by decide) ?_
    refine zq_ishr_any hC dL_law_227 (fun z1 => ?_)
    refine zq_iload hC 5 rfl dL_law_228 ?_
    refine zq_below hK (n := RC) ⟨by omega, by omega⟩ (Nat.le_of_ble_eq_true rfl) ⟨by decide, by decide⟩ ⟨by show _ ≤ 602799; omega, by show _ ≤ 7293227; omega⟩ dL_law_230 (fun r2 hr2 gr2 => ?_)
    obtain ⟨hk, hG2, hd2, hf2⟩ := gs_arrives (a := r2) hG (by omega) ⟨by omega, by omega⟩
    refine zq_call hC hX zlL_57 rfl (k_X8_arrives l hlt D tc (adC b) (zI_adC b) C r2 hW ⟨by omega, by omega⟩ (by omega) (by omega)) (hk) (r2 := (arrN C r2.toNat 200 16 (12 * 1 + r2.toNat) 5)) (by rfl) rfl rfl (Nat.le_of_ble_eq_true rfl) ⟨by decide, by decide⟩ ⟨by show _ ≤ 602799; omega, by show _ ≤ 7293227; omega⟩ dL_law_233 ?_
    refine zq_pop hC dL_law_236 rfl ?_
    refine zq_widen (k := cs + 10) (n := ss + 100) (by omega) (by omega) ?_
    exact hgo _ hG2 (by rw [hf2]; exact h4) (by rw [hf2]; exact h5) (by rw [hf2]; exact h6) (hd2.trans hd)
set_option maxHeartbeats 4000000 in
set_option maxRecDepth 100000 in
theorem law_C3 {p : Program} {l : Launch} {e : Env} {s : State} {m : MethodId} {args : Array Value} {below : List Frame} {meth : Method} {c : Code} {Q : State → Prop} {D : va_G} {tc : Nat → ClassId} {b : Nat} {A : Nat → Prop} {H0 : Heap} {sb Ls : Nat} {xs : Nat → Int32} (hlt : l.stackTraces = false) (hK : zLK p s m args c D tc b A H0 cL_law 23 sb Ls xs) (hA : ∀ q, b ≤ q → A q) {cs ss : Nat} (hcs : cs ≤ 500000) (hss : ss ≤ 7000000) {P : Int} {t n : Nat} {C : zM} {x : Int32} {RC : Int} {d0 : Int64} (hP : 2 ≤ P ∧ P ≤ 8) (hG : GS n C) (hn : n < 400) (h4 : C 1 0 4 = P) (h5 : 1 ≤ C 1 0 5) (h6 : C 1 0 6 = RC) (hd : dg5 C = d0) (hgo : ∀ C9 : zM, GS (n + 1) C9 → C9 1 0 4 = P → 1 ≤ C9 1 0 5 → C9 1 0 6 = RC → zQ p l e room_1 s m args below meth c Q D tc b A H0 23 (cs + 10) (ss + 100) C9 [] [(0, .ref sb), (1, .ref (adC b 0 0)), (2, iv P), (3, iv ((t : Nat) : Int)), (4, .int x), (5, iv RC)] 283 []) : zQ p l e room_1 s m args below meth c Q D tc b A H0 23 (cs) (ss) C [] [(0, .ref sb), (1, .ref (adC b 0 0)), (2, iv P), (3, iv ((t : Nat) : Int)), (4, .int x), (5, iv RC), (6, .long d0)] 237 [] := by
  have hC := hK.1
  have hX := hK.2.1
  have hW := hG.wt (show n ≤ 512 by omega)
  refine zq_aload_n hC 1 rfl dL_law_237 rfl ?_
  refine zq_iload hC 4 rfl dL_law_238 ?_
  refine zq_iconst hC dL_law_240 ?_
  refine zq_ishr_any hC dL_law_241 (fun z1 => ?_)
  refine zq_iload_n hC 2 rfl dL_law_242 rfl ?_
  refine zq_below hK (n := P) ⟨by omega, by omega⟩ (Nat.le_of_ble_eq_true rfl) ⟨by decide, by decide⟩ ⟨by show _ ≤ 602799; omega, by show _ ≤ 7293227; omega⟩ dL_law_243 (fun r2 hr2 gr2 => ?_)
  refine zq_iload hC 4 rfl dL_law_246 ?_
  refine zq_iconst hC dL_law_248 ?_
  refine zq_ishr_any hC dL_law_249 (fun z3 => ?_)
  refine zq_iload_n hC 2 rfl dL_law_250 rfl ?_
  refine zq_below hK (n := P) ⟨by omega, by omega⟩ (Nat.le_of_ble_eq_true rfl) ⟨by decide, by decide⟩ ⟨by show _ ≤ 602799; omega, by show _ ≤ 7293227; omega⟩ dL_law_251 (fun r4 hr4 gr4 => ?_)
  refine zq_bipush hC dL_law_254 (by decide) ?_
  refine zq_iload hC 4 rfl dL_law_256 ?_
  refine zq_bipush hC dL_law_258 (by decide) ?_
  refine zq_ishr_any hC dL_law_260 (fun z5 => ?_)
  refine zq_bipush hC dL_law_261 (by decide) ?_
  refine zq_below hK (n := 101) ⟨by omega, by omega⟩ (Nat.le_of_ble_eq_true rfl) ⟨by decide, by decide⟩ ⟨by show _ ≤ 602799; omega, by show _ ≤ 7293227; omega⟩ dL_law_263 (fun r6 hr6 gr6 => ?_)
  refine zq_iadd hC dL_law_266 ?_
  obtain ⟨hk, hG2, hd2, hf2⟩ := gs_way (a := r2) (b := r4) (w := 20 + r6) hG (by omega) ⟨by omega, by omega⟩ ⟨by omega, by omega⟩ ⟨by omega, by omega⟩
  refine zq_call hC hX zlL_60 rfl (k_X8_way l hlt D tc (adC b) (zI_adC b) C r2 r4 (20 + r6) hW ⟨by omega, by omega⟩ ⟨by omega, by omega⟩ ⟨by omega, by omega⟩) (hk) (r2 := (linesFromC (planC C 12 r4 (20 + r6)) 12 r2)) (by rfl) rfl rfl (Nat.le_of_ble_eq_true rfl) ⟨by decide, by decide⟩ ⟨by show _ ≤ 602799; omega, by show _ ≤ 7293227; omega⟩ dL_law_267 ?_
  have hW2 := hG2.wt (show n + 1 ≤ 512 by omega)
  refine zq_pop hC dL_law_270 rfl ?_
  refine zq_aload_n hC 1 rfl dL_law_271 rfl ?_
  refine zq_calll hC zlL_50 rfl (k_X8_digest l D tc (adC b) (zI_adC b) (planC C 12 r4 (20 + r6)) hW2) rfl rfl (Nat.le_of_ble_eq_true rfl) ⟨by decide, by decide⟩ ⟨by show _ ≤ 602799; omega, by show _ ≤ 7293227; omega⟩ dL_law_272 ?_
  refine zq_lload hC 6 rfl dL_law_275 ?_
  refine zq_lcmp hC (hd2.trans hd) dL_law_277 ?_
  refine zq_if_eq hC 283 dL_law_278 (by decide) (by omega) (fun c278 => ?_) (fun c278 => ?_)
  · skip
    refine zq_perm [0, 1, 2, 3, 4, 5] (L' := [(0, .ref sb), (1, .ref (adC b 0 0)), (2, iv P), (3, iv ((t : Nat) : Int)), (4, .int x), (5, iv RC)]) rfl ?_
    refine zq_widen (k := cs + 10) (n := ss + 100) (by omega) (by omega) ?_
    exact hgo _ hG2 (by rw [hf2]; exact h4) (by rw [hf2]; exact h5) (by rw [hf2]; exact h6)
  · skip
    exfalso; omega
