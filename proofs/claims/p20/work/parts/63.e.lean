/-! the law, piece by piece: every line, and what must be alike -/
theorem gs_taken {n : Nat} {C : zM} (hG : GS n C) : zsum (fun k => C 16 (12 * 0 + k) 4) (C 1 0 6).toNat = zsum (fun j => C 17 (12 * 0 + j) 4) (C 1 0 5).toNat := by
  obtain ⟨M, hR, hI⟩ := hG
  exact hI.2.2

set_option maxHeartbeats 4000000 in
set_option maxRecDepth 100000 in
theorem law_H {p : Program} {l : Launch} {e : Env} {s : State} {m : MethodId} {args : Array Value} {below : List Frame} {meth : Method} {c : Code} {Q : State → Prop} {D : va_G} {tc : Nat → ClassId} {b : Nat} {A : Nat → Prop} {H0 : Heap} {sb Ls : Nat} {xs : Nat → Int32} (hlt : l.stackTraces = false) (hK : zLK p s m args c D tc b A H0 cL_law 23 sb Ls xs) (hA : ∀ q, b ≤ q → A q) {cs ss : Nat} (hcs : cs ≤ 500000) (hss : ss ≤ 7000000) {P : Int} {t n : Nat} {C : zM} {RC W13 W14 W15 W16 W17 : Int} (hG : GS n C) (hn : n < 400) (hgo : zQ p l e room_1 s m args below meth c Q D tc b A H0 23 (cs + 170) (ss + 1000) C [] [(0, .ref sb), (1, .ref (adC b 0 0)), (2, iv P), (3, iv ((t : Nat) : Int)), (5, iv RC), (13, iv W13), (14, iv W14), (15, iv W15), (16, iv W16), (17, iv W17), (18, iv (zsum (fun j => C 17 (12 * 0 + j) 0 + C 17 (12 * 0 + j) 1) (C 1 0 5).toNat)), (19, iv (zsum (fun i => zcnt (fun j => C 18 (12 * 0 + i) j ≠ -1) (C 17 (12 * 0 + i) 1).toNat) (C 1 0 5).toNat)), (20, iv (zsum (fun j => C 17 (12 * 0 + j) 4) (C 1 0 5).toNat))] 847 []) : zQ p l e room_1 s m args below meth c Q D tc b A H0 23 (cs) (ss) C [] [(0, .ref sb), (1, .ref (adC b 0 0)), (2, iv P), (3, iv ((t : Nat) : Int)), (5, iv RC), (13, iv W13), (14, iv W14), (15, iv W15), (16, iv W16), (17, iv W17)] 711 [] := by
  have hC := hK.1
  have hX := hK.2.1
  have hW := hG.wt (show n ≤ 512 by omega)
  have hb5 : 0 ≤ C 1 0 5 ∧ C 1 0 5 ≤ 12 := hW.1 1 0 5
  have hb6 : 0 ≤ C 1 0 6 ∧ C 1 0 6 ≤ 12 := hW.1 1 0 6
  have hc723 : ∀ (d723 : Nat) (i : Nat) (hi : (i : Int) ≤ C 1 0 5), (C 1 0 5 - (i : Int)).toNat = d723 → zQ p l e room_1 s m args below meth c Q D tc b A H0 23 (cs + 5 + 12 * i) (ss + 50 + 72 * i) C [] [(0, .ref sb), (1, .ref (adC b 0 0)), (2, iv P), (3, iv ((t : Nat) : Int)), (5, iv RC), (13, iv W13), (14, iv W14), (15, iv W15), (16, iv W16), (17, iv W17), (18, iv (zsum (fun j => C 17 (12 * 0 + j) 0 + C 17 (12 * 0 + j) 1) i)), (19, iv (zsum (fun i => zcnt (fun j => C 18 (12 * 0 + i) j ≠ -1) (C 17 (12 * 0 + i) 1).toNat) i)), (20, iv (zsum (fun j => C 17 (12 * 0 + j) 4) i)), (21, iv ((i : Nat) : Int))] 723 [] := by
    intro d723
    induction d723 using Nat.strongRecOn with
    | _ d723 ih723 =>
      intro i hi hd723
      refine zq_iload hC 13 rfl dL_law_723 ?_
      refine zq_aload_n hC 1 rfl dL_law_725 rfl ?_
      refine zq_iconst hC dL_law_726 ?_
      refine zq_call hC hX zlL_40 rfl (k_X8_count l hlt D tc (adC b) (zI_adC b) C 2 hW ⟨by decide, by decide⟩) (by decide) (r2 := (C 1 0 5)) (by rfl) rfl rfl (Nat.le_of_ble_eq_true rfl) ⟨by decide, by decide⟩ ⟨by show _ ≤ 602799; omega, by show _ ≤ 7293227; omega⟩ dL_law_727 ?_
      refine zq_icmp_ge hC 847 dL_law_730 (by decide) (by omega) (by omega) (fun c730 => ?_) (fun c730 => ?_)
      · skip
        refine zq_perm [0, 1, 2, 3, 4, 5, 6, 7, 8, 9, 10, 11, 12] (L' := [(0, .ref sb), (1, .ref (adC b 0 0)), (2, iv P), (3, iv ((t : Nat) : Int)), (5, iv RC), (13, iv W13), (14, iv W14), (15, iv W15), (16, iv W16), (17, iv W17), (18, iv (zsum (fun j => C 17 (12 * 0 + j) 0 + C 17 (12 * 0 + j) 1) i)), (19, iv (zsum (fun i => zcnt (fun j => C 18 (12 * 0 + i) j ≠ -1) (C 17 (12 * 0 + i) 1).toNat) i)), (20, iv (zsum (fun j => C 17 (12 * 0 + j) 4) i))]) rfl ?_
        refine zq_widen (k := cs + 170) (n := ss + 1000) (by omega) (by omega) ?_
        have he : i = (C 1 0 5).toNat := by omega
        subst he
        exact zq_conv hgo rfl rfl rfl rfl
      · skip
        have hln := gs_line (l := i) hG (by omega) (by omega)
        refine zq_iload hC 10 rfl dL_law_733 ?_
        refine zq_aload_n hC 1 rfl dL_law_735 rfl ?_
        refine zq_iload hC 13 rfl dL_law_736 ?_
        refine zq_iconst hC dL_law_738 ?_
        refine zq_call hC hX zlL_44 rfl (k_X8_line l hlt D tc (adC b) (zI_adC b) C ((i : Nat) : Int) 5 hW ⟨by omega, by omega⟩ ⟨by decide, by decide⟩) (by unfold kLine; rw [if_pos ⟨by omega, by omega⟩, if_pos ⟨by decide, by decide⟩]) (r2 := (C 17 (12 * 0 + i) 0 + C 17 (12 * 0 + i) 1)) (by rfl) rfl rfl (Nat.le_of_ble_eq_true rfl) ⟨by decide, by decide⟩ ⟨by show _ ≤ 602799; omega, by show _ ≤ 7293227; omega⟩ dL_law_739 ?_
        refine zq_iadd hC dL_law_742 ?_
        refine zq_istore hC (L' := [(18, iv ((zsum (fun j => C 17 (12 * 0 + j) 0 + C 17 (12 * 0 + j) 1) i) + (C 17 (12 * 0 + i) 0 + C 17 (12 * 0 + i) 1))), (0, .ref sb), (1, .ref (adC b 0 0)), (2, iv P), (3, iv ((t : Nat) : Int)), (5, iv RC), (13, iv W13), (14, iv W14), (15, iv W15), (16, iv W16), (17, iv W17), (19, iv (zsum (fun i => zcnt (fun j => C 18 (12 * 0 + i) j ≠ -1) (C 17 (12 * 0 + i) 1).toNat) i)), (20, iv (zsum (fun j => C 17 (12 * 0 + j) 4) i)), (21, iv ((i : Nat) : Int))]) dL_law_743 (by decide) rfl ?_
        refine zq_iload hC 11 rfl dL_law_745 ?_
        refine zq_aload_n hC 2 rfl dL_law_747 rfl ?_
        refine zq_iload hC 13 rfl dL_law_748 ?_
        refine zq_bipush hC dL_law_750 (by decide) ?_
        refine zq_call hC hX zlL_44 rfl (k_X8_line l hlt D tc (adC b) (zI_adC b) C ((i : Nat) : Int) 7 hW ⟨by omega, by omega⟩ ⟨by decide, by decide⟩) (by unfold kLine; rw [if_pos ⟨by omega, by omega⟩, if_pos ⟨by decide, by decide⟩]) (r2 := (zcnt (fun j => C 18 (12 * 0 + i) j ≠ -1) (C 17 (12 * 0 + i) 1).toNat)) (by rfl) rfl rfl (Nat.le_of_ble_eq_true rfl) ⟨by decide, by decide⟩ ⟨by show _ ≤ 602799; omega, by show _ ≤ 7293227; omega⟩ dL_law_752 ?_
        refine zq_iadd hC dL_law_755 ?_
        refine zq_istore hC (L' := [(19, iv ((zsum (fun i => zcnt (fun j => C 18 (12 * 0 + i) j ≠ -1) (C 17 (12 * 0 + i) 1).toNat) i) + (zcnt (fun j => C 18 (12 * 0 + i) j ≠ -1) (C 17 (12 * 0 + i) 1).toNat))), (18, iv ((zsum (fun j => C 17 (12 * 0 + j) 0 + C 17 (12 * 0 + j) 1) i) + (C 17 (12 * 0 + i) 0 + C 17 (12 * 0 + i) 1))), (0, .ref sb), (1, .ref (adC b 0 0)), (2, iv P), (3, iv ((t : Nat) : Int)), (5, iv RC), (13, iv W13), (14, iv W14), (15, iv W15), (16, iv W16), (17, iv W17), (20, iv (zsum (fun j => C 17 (12 * 0 + j) 4) i)), (21, iv ((i : Nat) : Int))]) dL_law_756 (by decide) rfl ?_
        refine zq_iload hC 12 rfl dL_law_758 ?_
        refine zq_aload_n hC 3 rfl dL_law_760 rfl ?_
        refine zq_iload hC 13 rfl dL_law_761 ?_
        refine zq_bipush hC dL_law_763 (by decide) ?_
        refine zq_call hC hX zlL_44 rfl (k_X8_line l hlt D tc (adC b) (zI_adC b) C ((i : Nat) : Int) 8 hW ⟨by omega, by omega⟩ ⟨by decide, by decide⟩) (by unfold kLine; rw [if_pos ⟨by omega, by omega⟩, if_pos ⟨by decide, by decide⟩]) (r2 := (C 17 (12 * 0 + i) 4)) (by rfl) rfl rfl (Nat.le_of_ble_eq_true rfl) ⟨by decide, by decide⟩ ⟨by show _ ≤ 602799; omega, by show _ ≤ 7293227; omega⟩ dL_law_765 ?_
        refine zq_iadd hC dL_law_768 ?_
        refine zq_istore hC (L' := [(20, iv ((zsum (fun j => C 17 (12 * 0 + j) 4) i) + (C 17 (12 * 0 + i) 4))), (19, iv ((zsum (fun i => zcnt (fun j => C 18 (12 * 0 + i) j ≠ -1) (C 17 (12 * 0 + i) 1).toNat) i) + (zcnt (fun j => C 18 (12 * 0 + i) j ≠ -1) (C 17 (12 * 0 + i) 1).toNat))), (18, iv ((zsum (fun j => C 17 (12 * 0 + j) 0 + C 17 (12 * 0 + j) 1) i) + (C 17 (12 * 0 + i) 0 + C 17 (12 * 0 + i) 1))), (0, .ref sb), (1, .ref (adC b 0 0)), (2, iv P), (3, iv ((t : Nat) : Int)), (5, iv RC), (13, iv W13), (14, iv W14), (15, iv W15), (16, iv W16), (17, iv W17), (21, iv ((i : Nat) : Int))]) dL_law_769 (by decide) rfl ?_
        refine zq_aload_n hC 4 rfl dL_law_771 rfl ?_
        refine zq_iload hC 13 rfl dL_law_772 ?_
        refine zq_bipush hC dL_law_774 (by decide) ?_
        refine zq_call hC hX zlL_44 rfl (k_X8_line l hlt D tc (adC b) (zI_adC b) C ((i : Nat) : Int) 6 hW ⟨by omega, by omega⟩ ⟨by decide, by decide⟩) (by unfold kLine; rw [if_pos ⟨by omega, by omega⟩, if_pos ⟨by decide, by decide⟩]) (r2 := (C 17 (12 * 0 + i) 0)) (by rfl) rfl rfl (Nat.le_of_ble_eq_true rfl) ⟨by decide, by decide⟩ ⟨by show _ ≤ 602799; omega, by show _ ≤ 7293227; omega⟩ dL_law_776 ?_
        refine zq_if_lt hC 839 dL_law_779 (by decide) (by omega) (fun c779 => ?_) (fun c779 => ?_)
        · skip
          exfalso; omega
        · skip
          refine zq_aload_n hC 4 rfl dL_law_782 rfl ?_
          refine zq_iload hC 13 rfl dL_law_783 ?_
          refine zq_bipush hC dL_law_785 (by decide) ?_
          refine zq_call hC hX zlL_44 rfl (k_X8_line l hlt D tc (adC b) (zI_adC b) C ((i : Nat) : Int) 6 hW ⟨by omega, by omega⟩ ⟨by decide, by decide⟩) (by unfold kLine; rw [if_pos ⟨by omega, by omega⟩, if_pos ⟨by decide, by decide⟩]) (r2 := (C 17 (12 * 0 + i) 0)) (by rfl) rfl rfl (Nat.le_of_ble_eq_true rfl) ⟨by decide, by decide⟩ ⟨by show _ ≤ 602799; omega, by show _ ≤ 7293227; omega⟩ dL_law_787 ?_
          refine zq_aload_n hC 4 rfl dL_law_790 rfl ?_
          refine zq_iload hC 13 rfl dL_law_791 ?_
          refine zq_bipush hC dL_law_793 (by decide) ?_
          refine zq_call hC hX zlL_44 rfl (k_X8_line l hlt D tc (adC b) (zI_adC b) C ((i : Nat) : Int) 7 hW ⟨by omega, by omega⟩ ⟨by decide, by decide⟩) (by unfold kLine; rw [if_pos ⟨by omega, by omega⟩, if_pos ⟨by decide, by decide⟩]) (r2 := (zcnt (fun j => C 18 (12 * 0 + i) j ≠ -1) (C 17 (12 * 0 + i) 1).toNat)) (by rfl) rfl rfl (Nat.le_of_ble_eq_true rfl) ⟨by decide, by decide⟩ ⟨by show _ ≤ 602799; omega, by show _ ≤ 7293227; omega⟩ dL_law_795 ?_
          refine zq_iadd hC dL_law_798 ?_
          refine zq_aload_n hC 4 rfl dL_law_799 rfl ?_
          refine zq_iload hC 13 rfl dL_law_800 ?_
          refine zq_iconst hC dL_law_802 ?_
          refine zq_call hC hX zlL_44 rfl (k_X8_line l hlt D tc (adC b) (zI_adC b) C ((i : Nat) : Int) 5 hW ⟨by omega, by omega⟩ ⟨by decide, by decide⟩) (by unfold kLine; rw [if_pos ⟨by omega, by omega⟩, if_pos ⟨by decide, by decide⟩]) (r2 := (C 17 (12 * 0 + i) 0 + C 17 (12 * 0 + i) 1)) (by rfl) rfl rfl (Nat.le_of_ble_eq_true rfl) ⟨by decide, by decide⟩ ⟨by show _ ≤ 602799; omega, by show _ ≤ 7293227; omega⟩ dL_law_803 ?_
          refine zq_icmp_gt hC 839 dL_law_806 (by decide) (by omega) (by omega) (fun c806 => ?_) (fun c806 => ?_)
          · skip
            exfalso; omega
          · skip
            refine zq_aload_n hC 4 rfl dL_law_809 rfl ?_
            refine zq_iload hC 13 rfl dL_law_810 ?_
            refine zq_bipush hC dL_law_812 (by decide) ?_
            refine zq_call hC hX zlL_44 rfl (k_X8_line l hlt D tc (adC b) (zI_adC b) C ((i : Nat) : Int) 9 hW ⟨by omega, by omega⟩ ⟨by decide, by decide⟩) (by unfold kLine; rw [if_pos ⟨by omega, by omega⟩, if_pos ⟨by decide, by decide⟩]) (r2 := (C 17 (12 * 0 + i) 5)) (by rfl) rfl rfl (Nat.le_of_ble_eq_true rfl) ⟨by decide, by decide⟩ ⟨by show _ ≤ 602799; omega, by show _ ≤ 7293227; omega⟩ dL_law_814 ?_
            refine zq_aload_n hC 4 rfl dL_law_817 rfl ?_
            refine zq_iload hC 13 rfl dL_law_818 ?_
            refine zq_bipush hC dL_law_820 (by decide) ?_
            refine zq_call hC hX zlL_44 rfl (k_X8_line l hlt D tc (adC b) (zI_adC b) C ((i : Nat) : Int) 8 hW ⟨by omega, by omega⟩ ⟨by decide, by decide⟩) (by unfold kLine; rw [if_pos ⟨by omega, by omega⟩, if_pos ⟨by decide, by decide⟩]) (r2 := (C 17 (12 * 0 + i) 4)) (by rfl) rfl rfl (Nat.le_of_ble_eq_true rfl) ⟨by decide, by decide⟩ ⟨by show _ ≤ 602799; omega, by show _ ≤ 7293227; omega⟩ dL_law_822 ?_
            refine zq_icmp_gt hC 839 dL_law_825 (by decide) (by omega) (by omega) (fun c825 => ?_) (fun c825 => ?_)
            · skip
              exfalso; omega
            · skip
              refine zq_aload_n hC 4 rfl dL_law_828 rfl ?_
              refine zq_iload hC 13 rfl dL_law_829 ?_
              refine zq_iconst hC dL_law_831 ?_
              refine zq_call hC hX zlL_44 rfl (k_X8_line l hlt D tc (adC b) (zI_adC b) C ((i : Nat) : Int) 5 hW ⟨by omega, by omega⟩ ⟨by decide, by decide⟩) (by unfold kLine; rw [if_pos ⟨by omega, by omega⟩, if_pos ⟨by decide, by decide⟩]) (r2 := (C 17 (12 * 0 + i) 0 + C 17 (12 * 0 + i) 1)) (by rfl) rfl rfl (Nat.le_of_ble_eq_true rfl) ⟨by decide, by decide⟩ ⟨by show _ ≤ 602799; omega, by show _ ≤ 7293227; omega⟩ dL_law_832 ?_
              refine zq_iconst hC dL_law_835 ?_
              refine zq_icmp_le hC 841 dL_law_836 (by decide) (by omega) (by omega) (fun c836 => ?_) (fun c836 => ?_)
              · skip
                refine zq_iinc hC 13 (L' := [(21, iv (((i : Nat) : Int) + 1)), (20, iv ((zsum (fun j => C 17 (12 * 0 + j) 4) i) + (C 17 (12 * 0 + i) 4))), (19, iv ((zsum (fun i => zcnt (fun j => C 18 (12 * 0 + i) j ≠ -1) (C 17 (12 * 0 + i) 1).toNat) i) + (zcnt (fun j => C 18 (12 * 0 + i) j ≠ -1) (C 17 (12 * 0 + i) 1).toNat))), (18, iv ((zsum (fun j => C 17 (12 * 0 + j) 0 + C 17 (12 * 0 + j) 1) i) + (C 17 (12 * 0 + i) 0 + C 17 (12 * 0 + i) 1))), (0, .ref sb), (1, .ref (adC b 0 0)), (2, iv P), (3, iv ((t : Nat) : Int)), (5, iv RC), (13, iv W13), (14, iv W14), (15, iv W15), (16, iv W16), (17, iv W17)]) dL_law_841 rfl (by decide) rfl ?_
                refine zq_goto hC 723 dL_law_844 (by decide) ?_
                refine zq_perm [4, 5, 6, 7, 8, 9, 10, 11, 12, 13, 3, 2, 1, 0] (L' := [(0, .ref sb), (1, .ref (adC b 0 0)), (2, iv P), (3, iv ((t : Nat) : Int)), (5, iv RC), (13, iv W13), (14, iv W14), (15, iv W15), (16, iv W16), (17, iv W17), (18, iv ((zsum (fun j => C 17 (12 * 0 + j) 0 + C 17 (12 * 0 + j) 1) i) + (C 17 (12 * 0 + i) 0 + C 17 (12 * 0 + i) 1))), (19, iv ((zsum (fun i => zcnt (fun j => C 18 (12 * 0 + i) j ≠ -1) (C 17 (12 * 0 + i) 1).toNat) i) + (zcnt (fun j => C 18 (12 * 0 + i) j ≠ -1) (C 17 (12 * 0 + i) 1).toNat))), (20, iv ((zsum (fun j => C 17 (12 * 0 + j) 4) i) + (C 17 (12 * 0 + i) 4))), (21, iv (((i : Nat) : Int) + 1))]) rfl ?_
                refine zq_widen (k := cs + 5 + 12 * (i + 1)) (n := ss + 50 + 72 * (i + 1)) (by omega) (by omega) ?_
                exact zq_conv (ih723 _ (by omega) (i + 1) (by omega) rfl) (by rfl) (by rfl) (by rfl) rfl
              · skip
                exfalso; omega
  refine zq_iconst hC dL_law_711 ?_
  refine zq_istore hC (L' := [(18, iv 0), (0, .ref sb), (1, .ref (adC b 0 0)), (2, iv P), (3, iv ((t : Nat) : Int)), (5, iv RC), (13, iv W13), (14, iv W14), (15, iv W15), (16, iv W16), (17, iv W17)]) dL_law_712 (by decide) rfl ?_
  refine zq_iconst hC dL_law_714 ?_
  refine zq_istore hC (L' := [(19, iv 0), (18, iv 0), (0, .ref sb), (1, .ref (adC b 0 0)), (2, iv P), (3, iv ((t : Nat) : Int)), (5, iv RC), (13, iv W13), (14, iv W14), (15, iv W15), (16, iv W16), (17, iv W17)]) dL_law_715 (by decide) rfl ?_
  refine zq_iconst hC dL_law_717 ?_
  refine zq_istore hC (L' := [(20, iv 0), (19, iv 0), (18, iv 0), (0, .ref sb), (1, .ref (adC b 0 0)), (2, iv P), (3, iv ((t : Nat) : Int)), (5, iv RC), (13, iv W13), (14, iv W14), (15, iv W15), (16, iv W16), (17, iv W17)]) dL_law_718 (by decide) rfl ?_
  refine zq_iconst hC dL_law_720 ?_
  refine zq_istore hC (L' := [(21, iv 0), (20, iv 0), (19, iv 0), (18, iv 0), (0, .ref sb), (1, .ref (adC b 0 0)), (2, iv P), (3, iv ((t : Nat) : Int)), (5, iv RC), (13, iv W13), (14, iv W14), (15, iv W15), (16, iv W16), (17, iv W17)]) dL_law_721 (by decide) rfl ?_
  refine zq_perm [4, 5, 6, 7, 8, 9, 10, 11, 12, 13, 3, 2, 1, 0] (L' := [(0, .ref sb), (1, .ref (adC b 0 0)), (2, iv P), (3, iv ((t : Nat) : Int)), (5, iv RC), (13, iv W13), (14, iv W14), (15, iv W15), (16, iv W16), (17, iv W17), (18, iv 0), (19, iv 0), (20, iv 0), (21, iv 0)]) rfl ?_
  refine zq_widen (k := cs + 5 + 12 * 0) (n := ss + 50 + 72 * 0) (by omega) (by omega) ?_
  exact zq_conv (hc723 _ 0 (by omega) rfl) (by rfl) (by rfl) (by rfl) rfl
set_option maxHeartbeats 4000000 in
set_option maxRecDepth 100000 in
theorem law_I {p : Program} {l : Launch} {e : Env} {s : State} {m : MethodId} {args : Array Value} {below : List Frame} {meth : Method} {c : Code} {Q : State → Prop} {D : va_G} {tc : Nat → ClassId} {b : Nat} {A : Nat → Prop} {H0 : Heap} {sb Ls : Nat} {xs : Nat → Int32} (hlt : l.stackTraces = false) (hK : zLK p s m args c D tc b A H0 cL_law 23 sb Ls xs) (hA : ∀ q, b ≤ q → A q) {cs ss : Nat} (hcs : cs ≤ 500000) (hss : ss ≤ 7000000) {P : Int} {t n : Nat} {C : zM} {RC W13 W14 W15 W16 W17 W18 W19 W20 : Int} (hG : GS n C) (hn : n < 400) (h6 : C 1 0 6 = RC) (e13 : W13 = ridersC C 0 0) (e14 : W14 = ridersC C 0 1) (e15 : W15 = zsum (fun k => C 16 (12 * 0 + k) 4) (C 1 0 6).toNat) (e16 : W16 = zsum (fun p => qLen C 0 (p : Int)) (C 1 0 4).toNat) (e17 : W17 = zsum (fun p => arrAt C 0 (p : Int)) (C 1 0 4).toNat) (e18 : W18 = zsum (fun j => C 17 (12 * 0 + j) 0 + C 17 (12 * 0 + j) 1) (C 1 0 5).toNat) (e19 : W19 = zsum (fun i => zcnt (fun j => C 18 (12 * 0 + i) j ≠ -1) (C 17 (12 * 0 + i) 1).toNat) (C 1 0 5).toNat) (e20 : W20 = zsum (fun j => C 17 (12 * 0 + j) 4) (C 1 0 5).toNat) (hgo : zQ p l e room_1 s m args below meth c Q D tc b A H0 23 (cs + 20) (ss + 150) C [] [(0, .ref sb), (1, .ref (adC b 0 0)), (2, iv P), (3, iv (((t + 1) : Nat) : Int))] 14 []) : zQ p l e room_1 s m args below meth c Q D tc b A H0 23 (cs) (ss) C [] [(0, .ref sb), (1, .ref (adC b 0 0)), (2, iv P), (3, iv ((t : Nat) : Int)), (5, iv RC), (13, iv W13), (14, iv W14), (15, iv W15), (16, iv W16), (17, iv W17), (18, iv W18), (19, iv W19), (20, iv W20)] 847 [] := by
  have hC := hK.1
  have hX := hK.2.1
  have hW := hG.wt (show n ≤ 512 by omega)
  have hb5 : 0 ≤ C 1 0 5 ∧ C 1 0 5 ≤ 12 := hW.1 1 0 5
  have hb6 : 0 ≤ C 1 0 6 ∧ C 1 0 6 ≤ 12 := hW.1 1 0 6
  obtain ⟨g1, g2, g3, g4⟩ := gs_sums hG (by omega)
  have g5 := gs_taken hG
  have r0 := ridersC_bd hW 0 0
  have r1 := ridersC_bd hW 0 1
  have r2 := ridersC_bd hW 0 2
  have r3 := ridersC_bd hW 0 3
  have z1 := zsum_ge (f := fun j => C 17 (12 * 0 + j) 0 + C 17 (12 * 0 + j) 1) (n := (C 1 0 5).toNat) (fun k hk => by have h9 := gs_line (l := k) hG (by omega) (by omega); show 0 ≤ C 17 (12 * 0 + k) 0 + C 17 (12 * 0 + k) 1; omega)
  have z2 := zsum_le (f := fun j => C 17 (12 * 0 + j) 0 + C 17 (12 * 0 + j) 1) (n := (C 1 0 5).toNat) (B := 3) (fun k hk => by have h9 := gs_line (l := k) hG (by omega) (by omega); show C 17 (12 * 0 + k) 0 + C 17 (12 * 0 + k) 1 ≤ 3; omega)
  have z3 := zsum_ge (f := fun j => C 17 (12 * 0 + j) 4) (n := (C 1 0 5).toNat) (fun k hk => by have h9 := gs_line (l := k) hG (by omega) (by omega); show 0 ≤ C 17 (12 * 0 + k) 4; omega)
  have z4 := zsum_le (f := fun j => C 17 (12 * 0 + j) 4) (n := (C 1 0 5).toNat) (B := 1000000) (fun k hk => by have h9 := gs_line (l := k) hG (by omega) (by omega); show C 17 (12 * 0 + k) 4 ≤ 1000000; omega)
  have y1 := z1.1
  have y3 := z3.1
  refine zq_iload hC 8 rfl dL_law_847 ?_
  refine zq_iload hC 5 rfl dL_law_849 ?_
  refine zq_icmp_ne hC 951 dL_law_851 (by decide) (by omega) (by omega) (fun c851 => ?_) (fun c851 => ?_)
  · skip
    exfalso; omega
  · skip
    refine zq_iload hC 5 rfl dL_law_854 ?_
    refine zq_aload_n hC 1 rfl dL_law_856 rfl ?_
    refine zq_iconst hC dL_law_857 ?_
    refine zq_call hC hX zlL_40 rfl (k_X8_count l hlt D tc (adC b) (zI_adC b) C 4 hW ⟨by decide, by decide⟩) (by decide) (r2 := (ridersC C 0 0)) (by rfl) rfl rfl (Nat.le_of_ble_eq_true rfl) ⟨by decide, by decide⟩ ⟨by show _ ≤ 602799; omega, by show _ ≤ 7293227; omega⟩ dL_law_858 ?_
    refine zq_icmp_ne hC 951 dL_law_861 (by decide) (by omega) (by omega) (fun c861 => ?_) (fun c861 => ?_)
    · skip
      exfalso; omega
    · skip
      refine zq_iload hC 6 rfl dL_law_864 ?_
      refine zq_aload_n hC 1 rfl dL_law_866 rfl ?_
      refine zq_iconst hC dL_law_867 ?_
      refine zq_call hC hX zlL_40 rfl (k_X8_count l hlt D tc (adC b) (zI_adC b) C 5 hW ⟨by decide, by decide⟩) (by decide) (r2 := (ridersC C 0 1)) (by rfl) rfl rfl (Nat.le_of_ble_eq_true rfl) ⟨by decide, by decide⟩ ⟨by show _ ≤ 602799; omega, by show _ ≤ 7293227; omega⟩ dL_law_868 ?_
      refine zq_icmp_ne hC 951 dL_law_871 (by decide) (by omega) (by omega) (fun c871 => ?_) (fun c871 => ?_)
      · skip
        exfalso; omega
      · skip
        refine zq_iload hC 11 rfl dL_law_874 ?_
        refine zq_iload hC 6 rfl dL_law_876 ?_
        refine zq_icmp_ne hC 951 dL_law_878 (by decide) (by omega) (by omega) (fun c878 => ?_) (fun c878 => ?_)
        · skip
          exfalso; omega
        · skip
          refine zq_iload hC 9 rfl dL_law_881 ?_
          refine zq_aload_n hC 1 rfl dL_law_883 rfl ?_
          refine zq_bipush hC dL_law_884 (by decide) ?_
          refine zq_call hC hX zlL_40 rfl (k_X8_count l hlt D tc (adC b) (zI_adC b) C 6 hW ⟨by decide, by decide⟩) (by decide) (r2 := (ridersC C 0 2)) (by rfl) rfl rfl (Nat.le_of_ble_eq_true rfl) ⟨by decide, by decide⟩ ⟨by show _ ≤ 602799; omega, by show _ ≤ 7293227; omega⟩ dL_law_886 ?_
          refine zq_icmp_ne hC 951 dL_law_889 (by decide) (by omega) (by omega) (fun c889 => ?_) (fun c889 => ?_)
          · skip
            exfalso; omega
          · skip
            refine zq_iload hC 10 rfl dL_law_892 ?_
            refine zq_aload_n hC 1 rfl dL_law_894 rfl ?_
            refine zq_bipush hC dL_law_895 (by decide) ?_
            refine zq_call hC hX zlL_40 rfl (k_X8_count l hlt D tc (adC b) (zI_adC b) C 8 hW ⟨by decide, by decide⟩) (by decide) (r2 := (zsum (fun j => C 17 (12 * 0 + j) 0 + C 17 (12 * 0 + j) 1) (C 1 0 5).toNat)) (by rfl) rfl rfl (Nat.le_of_ble_eq_true rfl) ⟨by decide, by decide⟩ ⟨by show _ ≤ 602799; omega, by show _ ≤ 7293227; omega⟩ dL_law_897 ?_
            refine zq_icmp_ne hC 951 dL_law_900 (by decide) (by omega) (by omega) (fun c900 => ?_) (fun c900 => ?_)
            · skip
              exfalso; omega
            · skip
              refine zq_iload hC 12 rfl dL_law_903 ?_
              refine zq_aload_n hC 1 rfl dL_law_905 rfl ?_
              refine zq_bipush hC dL_law_906 (by decide) ?_
              refine zq_call hC hX zlL_40 rfl (k_X8_count l hlt D tc (adC b) (zI_adC b) C 9 hW ⟨by decide, by decide⟩) (by decide) (r2 := (zsum (fun j => C 17 (12 * 0 + j) 4) (C 1 0 5).toNat)) (by rfl) rfl rfl (Nat.le_of_ble_eq_true rfl) ⟨by decide, by decide⟩ ⟨by show _ ≤ 602799; omega, by show _ ≤ 7293227; omega⟩ dL_law_908 ?_
              refine zq_icmp_ne hC 951 dL_law_911 (by decide) (by omega) (by omega) (fun c911 => ?_) (fun c911 => ?_)
              · skip
                exfalso; omega
              · skip
                refine zq_iload hC 7 rfl dL_law_914 ?_
                refine zq_iload hC 12 rfl dL_law_916 ?_
                refine zq_icmp_ne hC 951 dL_law_918 (by decide) (by omega) (by omega) (fun c918 => ?_) (fun c918 => ?_)
                · skip
                  exfalso; omega
                · skip
                  refine zq_aload_n hC 1 rfl dL_law_921 rfl ?_
                  refine zq_iconst hC dL_law_922 ?_
                  refine zq_call hC hX zlL_40 rfl (k_X8_count l hlt D tc (adC b) (zI_adC b) C 4 hW ⟨by decide, by decide⟩) (by decide) (r2 := (ridersC C 0 0)) (by rfl) rfl rfl (Nat.le_of_ble_eq_true rfl) ⟨by decide, by decide⟩ ⟨by show _ ≤ 602799; omega, by show _ ≤ 7293227; omega⟩ dL_law_923 ?_
                  refine zq_aload_n hC 1 rfl dL_law_926 rfl ?_
                  refine zq_iconst hC dL_law_927 ?_
                  refine zq_call hC hX zlL_40 rfl (k_X8_count l hlt D tc (adC b) (zI_adC b) C 5 hW ⟨by decide, by decide⟩) (by decide) (r2 := (ridersC C 0 1)) (by rfl) rfl rfl (Nat.le_of_ble_eq_true rfl) ⟨by decide, by decide⟩ ⟨by show _ ≤ 602799; omega, by show _ ≤ 7293227; omega⟩ dL_law_928 ?_
                  refine zq_iadd hC dL_law_931 ?_
                  refine zq_aload_n hC 1 rfl dL_law_932 rfl ?_
                  refine zq_bipush hC dL_law_933 (by decide) ?_
                  refine zq_call hC hX zlL_40 rfl (k_X8_count l hlt D tc (adC b) (zI_adC b) C 6 hW ⟨by decide, by decide⟩) (by decide) (r2 := (ridersC C 0 2)) (by rfl) rfl rfl (Nat.le_of_ble_eq_true rfl) ⟨by decide, by decide⟩ ⟨by show _ ≤ 602799; omega, by show _ ≤ 7293227; omega⟩ dL_law_935 ?_
                  refine zq_iadd hC dL_law_938 ?_
                  refine zq_aload_n hC 1 rfl dL_law_939 rfl ?_
                  refine zq_bipush hC dL_law_940 (by decide) ?_
                  refine zq_call hC hX zlL_40 rfl (k_X8_count l hlt D tc (adC b) (zI_adC b) C 7 hW ⟨by decide, by decide⟩) (by decide) (r2 := (ridersC C 0 3)) (by rfl) rfl rfl (Nat.le_of_ble_eq_true rfl) ⟨by decide, by decide⟩ ⟨by show _ ≤ 602799; omega, by show _ ≤ 7293227; omega⟩ dL_law_942 ?_
                  refine zq_iadd hC dL_law_945 ?_
                  refine zq_iload hC 4 rfl dL_law_946 ?_
                  refine zq_icmp_eq hC 953 dL_law_948 (by decide) (by omega) (by omega) (fun c948 => ?_) (fun c948 => ?_)
                  · skip
                    refine zq_iinc hC 3 (L' := [(3, iv (((t : Nat) : Int) + 1)), (0, .ref sb), (1, .ref (adC b 0 0)), (2, iv P), (5, iv RC), (13, iv W13), (14, iv W14), (15, iv W15), (16, iv W16), (17, iv W17), (18, iv W18), (19, iv W19), (20, iv W20)]) dL_law_953 rfl (by decide) rfl ?_
                    refine zq_goto hC 14 dL_law_956 (by decide) ?_
                    refine zq_perm [1, 2, 3, 0] (L' := [(0, .ref sb), (1, .ref (adC b 0 0)), (2, iv P), (3, iv (((t : Nat) : Int) + 1))]) rfl ?_
                    refine zq_widen (k := cs + 20) (n := ss + 150) (by omega) (by omega) ?_
                    exact zq_conv hgo rfl rfl rfl rfl
                  · skip
                    exfalso; omega
