/-! the law, piece by piece: every queue -/
set_option maxHeartbeats 4000000 in
set_option maxRecDepth 100000 in
theorem law_G {p : Program} {l : Launch} {e : Env} {s : State} {m : MethodId} {args : Array Value} {below : List Frame} {meth : Method} {c : Code} {Q : State → Prop} {D : va_G} {tc : Nat → ClassId} {b : Nat} {A : Nat → Prop} {H0 : Heap} {sb Ls : Nat} {xs : Nat → Int32} (hlt : l.stackTraces = false) (hK : zLK p s m args c D tc b A H0 cL_law 23 sb Ls xs) (hA : ∀ q, b ≤ q → A q) {cs ss : Nat} (hcs : cs ≤ 500000) (hss : ss ≤ 7000000) {P : Int} {t n : Nat} {C : zM} {RC W13 W14 W15 : Int} (hP : 2 ≤ P ∧ P ≤ 8) (hG : GS n C) (hn : n < 400) (h4 : C 1 0 4 = P) (h6 : C 1 0 6 = RC) (hgo : zQ p l e room_1 s m args below meth c Q D tc b A H0 23 (cs + 400) (ss + 2500) C [] [(0, .ref sb), (1, .ref (adC b 0 0)), (2, iv P), (3, iv ((t : Nat) : Int)), (5, iv RC), (13, iv W13), (14, iv W14), (15, iv W15), (16, iv (zsum (fun p => qLen C 0 (p : Int)) (C 1 0 4).toNat)), (17, iv (zsum (fun p => arrAt C 0 (p : Int)) (C 1 0 4).toNat))] 711 []) : zQ p l e room_1 s m args below meth c Q D tc b A H0 23 (cs) (ss) C [] [(0, .ref sb), (1, .ref (adC b 0 0)), (2, iv P), (3, iv ((t : Nat) : Int)), (5, iv RC), (13, iv W13), (14, iv W14), (15, iv W15)] 588 [] := by
  have hC := hK.1
  have hX := hK.2.1
  have hW := hG.wt (show n ≤ 512 by omega)
  have hb5 : 0 ≤ C 1 0 5 ∧ C 1 0 5 ≤ 12 := hW.1 1 0 5
  have hb6 : 0 ≤ C 1 0 6 ∧ C 1 0 6 ≤ 12 := hW.1 1 0 6
  have hc597 : ∀ (d597 : Nat) (q : Nat) (hq : (q : Int) ≤ P), (P - (q : Int)).toNat = d597 → zQ p l e room_1 s m args below meth c Q D tc b A H0 23 (cs + 5 + 40 * q) (ss + 50 + 240 * q) C [] [(0, .ref sb), (1, .ref (adC b 0 0)), (2, iv P), (3, iv ((t : Nat) : Int)), (5, iv RC), (13, iv W13), (14, iv W14), (15, iv W15), (16, iv (zsum (fun p => qLen C 0 (p : Int)) q)), (17, iv (zsum (fun p => arrAt C 0 (p : Int)) q)), (18, iv ((q : Nat) : Int))] 597 [] := by
    intro d597
    induction d597 using Nat.strongRecOn with
    | _ d597 ih597 =>
      intro q hq hd597
      refine zq_iload hC 10 rfl dL_law_597 ?_
      refine zq_iload_n hC 2 rfl dL_law_599 rfl ?_
      refine zq_icmp_ge hC 711 dL_law_600 (by decide) (by omega) (by omega) (fun c600 => ?_) (fun c600 => ?_)
      · skip
        refine zq_perm [0, 1, 2, 3, 4, 5, 6, 7, 8, 9] (L' := [(0, .ref sb), (1, .ref (adC b 0 0)), (2, iv P), (3, iv ((t : Nat) : Int)), (5, iv RC), (13, iv W13), (14, iv W14), (15, iv W15), (16, iv (zsum (fun p => qLen C 0 (p : Int)) q)), (17, iv (zsum (fun p => arrAt C 0 (p : Int)) q))]) rfl ?_
        refine zq_widen (k := cs + 400) (n := ss + 2500) (by omega) (by omega) ?_
        have he : q = (C 1 0 4).toNat := by omega
        subst he
        exact zq_conv hgo rfl rfl rfl rfl
      · skip
        have hqq := gs_queue hG (show n < 512 by omega) (p := q) (by omega)
        have hc638 : ∀ (d638 : Nat) (k : Nat) (on : Int32) (hk : (k : Int) ≤ qLen C 0 ((q : Nat) : Int)) (hon : ∀ y : Nat, y < 12 → (on.toBitVec.getLsbD y = true ↔ ∃ i : Nat, i < k ∧ qAt C 0 ((q : Nat) : Int) ((i : Nat) : Int) = (y : Int))), (qLen C 0 ((q : Nat) : Int) - (k : Int)).toNat = d638 → zQ p l e room_1 s m args below meth c Q D tc b A H0 23 (cs + 5 + 40 * q + 2 + 3 * k) (ss + 50 + 240 * q + 12 + 18 * k) C [] [(0, .ref sb), (1, .ref (adC b 0 0)), (2, iv P), (3, iv ((t : Nat) : Int)), (5, iv RC), (13, iv W13), (14, iv W14), (15, iv W15), (16, iv (zsum (fun p => qLen C 0 (p : Int)) q + qLen C 0 ((q : Nat) : Int))), (17, iv (zsum (fun p => arrAt C 0 (p : Int)) q + arrAt C 0 ((q : Nat) : Int))), (18, iv ((q : Nat) : Int)), (19, iv (qLen C 0 ((q : Nat) : Int))), (20, .int on), (21, iv ((k : Nat) : Int))] 638 [] := by
          intro d638
          induction d638 using Nat.strongRecOn with
          | _ d638 ih638 =>
            intro k on hk hon hd638
            refine zq_iload hC 13 rfl dL_law_638 ?_
            refine zq_iload hC 11 rfl dL_law_640 ?_
            refine zq_icmp_ge hC 705 dL_law_642 (by decide) (by omega) (by omega) (fun c642 => ?_) (fun c642 => ?_)
            · skip
              refine zq_iinc hC 10 (L' := [(18, iv (((q : Nat) : Int) + 1)), (0, .ref sb), (1, .ref (adC b 0 0)), (2, iv P), (3, iv ((t : Nat) : Int)), (5, iv RC), (13, iv W13), (14, iv W14), (15, iv W15), (16, iv (zsum (fun p => qLen C 0 (p : Int)) q + qLen C 0 ((q : Nat) : Int))), (17, iv (zsum (fun p => arrAt C 0 (p : Int)) q + arrAt C 0 ((q : Nat) : Int))), (19, iv (qLen C 0 ((q : Nat) : Int))), (20, .int on), (21, iv ((k : Nat) : Int))]) dL_law_705 rfl (by decide) rfl ?_
              refine zq_goto hC 597 dL_law_708 (by decide) ?_
              refine zq_perm [1, 2, 3, 4, 5, 6, 7, 8, 9, 10, 0] (L' := [(0, .ref sb), (1, .ref (adC b 0 0)), (2, iv P), (3, iv ((t : Nat) : Int)), (5, iv RC), (13, iv W13), (14, iv W14), (15, iv W15), (16, iv (zsum (fun p => qLen C 0 (p : Int)) q + qLen C 0 ((q : Nat) : Int))), (17, iv (zsum (fun p => arrAt C 0 (p : Int)) q + arrAt C 0 ((q : Nat) : Int))), (18, iv (((q : Nat) : Int) + 1))]) rfl ?_
              refine zq_widen (k := cs + 5 + 40 * (q + 1)) (n := ss + 50 + 240 * (q + 1)) (by omega) (by omega) ?_
              exact zq_conv (ih597 _ (by omega) (q + 1) (by omega) rfl) (by rfl) (by rfl) (by rfl) rfl
            · skip
              refine zq_aload_n hC 1 rfl dL_law_645 rfl ?_
              refine zq_iload hC 10 rfl dL_law_646 ?_
              refine zq_iload hC 13 rfl dL_law_648 ?_
              obtain ⟨r9, e1, e2, e3, e4⟩ := hqq.2.1 k (by omega)
              have hr12 : r9 < 12 := by omega
              refine zq_call hC hX zlL_72 rfl (k_X8_queue l hlt D tc (adC b) (zI_adC b) C ((q : Nat) : Int) ((k : Nat) : Int) hW ⟨by omega, by omega⟩ ⟨by omega, by omega⟩) (by unfold kQueue; rw [if_pos ⟨by omega, by omega⟩, if_pos ⟨by omega, by omega⟩]) (r2 := ((r9 : Nat) : Int)) (e1) rfl rfl (Nat.le_of_ble_eq_true rfl) ⟨by decide, by decide⟩ ⟨by show _ ≤ 602799; omega, by show _ ≤ 7293227; omega⟩ dL_law_650 ?_
              refine zq_istore hC (L' := [(22, iv ((r9 : Nat) : Int)), (0, .ref sb), (1, .ref (adC b 0 0)), (2, iv P), (3, iv ((t : Nat) : Int)), (5, iv RC), (13, iv W13), (14, iv W14), (15, iv W15), (16, iv (zsum (fun p => qLen C 0 (p : Int)) q + qLen C 0 ((q : Nat) : Int))), (17, iv (zsum (fun p => arrAt C 0 (p : Int)) q + arrAt C 0 ((q : Nat) : Int))), (18, iv ((q : Nat) : Int)), (19, iv (qLen C 0 ((q : Nat) : Int))), (20, .int on), (21, iv ((k : Nat) : Int))]) dL_law_653 (by decide) rfl ?_
              refine zq_iload hC 13 rfl dL_law_655 ?_
              refine zq_iload hC 0 rfl dL_law_657 ?_
              refine zq_ishr hC dL_law_659 ?_
              refine zq_iconst hC dL_law_660 ?_
              refine zq_iand hC dL_law_661 ?_
              have hbit : on.toBitVec.getLsbD r9 = false := by
                cases hb9 : on.toBitVec.getLsbD r9 with
                | false => rfl
                | true =>
                  obtain ⟨i9, hi9, hi8⟩ := (hon r9 hr12).mp hb9
                  exact absurd (hi8.trans e1.symm) (hqq.2.2 i9 k (by omega) (by omega) (by omega))
              refine zq_conv (St2 := [iv 0]) ?_ rfl rfl rfl (by rw [bit_no hr12 hbit])
              refine zq_iconst hC dL_law_662 ?_
              refine zq_icmp_eq hC 688 dL_law_663 (by decide) (by omega) (by omega) (fun c663 => ?_) (fun c663 => ?_)
              · skip
                exfalso; omega
              · skip
                refine zq_aload_n hC 2 rfl dL_law_666 rfl ?_
                refine zq_iload hC 0 rfl dL_law_667 ?_
                refine zq_iconst hC dL_law_669 ?_
                refine zq_call hC hX zlL_63 rfl (k_X8_rider l hlt D tc (adC b) (zI_adC b) C ((r9 : Nat) : Int) 3 hW ⟨by omega, by omega⟩ ⟨by decide, by decide⟩) (by unfold kRider; rw [if_pos ⟨by omega, by omega⟩, if_pos ⟨by decide, by decide⟩]) (r2 := (C 16 (12 * 0 + r9) 0)) (by rfl) rfl rfl (Nat.le_of_ble_eq_true rfl) ⟨by decide, by decide⟩ ⟨by show _ ≤ 602799; omega, by show _ ≤ 7293227; omega⟩ dL_law_670 ?_
                refine zq_if_ne hC 688 dL_law_673 (by decide) (by omega) (fun c673 => ?_) (fun c673 => ?_)
                · skip
                  exfalso; omega
                · skip
                  refine zq_aload_n hC 2 rfl dL_law_676 rfl ?_
                  refine zq_iload hC 0 rfl dL_law_677 ?_
                  refine zq_iconst hC dL_law_679 ?_
                  refine zq_call hC hX zlL_63 rfl (k_X8_rider l hlt D tc (adC b) (zI_adC b) C ((r9 : Nat) : Int) 4 hW ⟨by omega, by omega⟩ ⟨by decide, by decide⟩) (by unfold kRider; rw [if_pos ⟨by omega, by omega⟩, if_pos ⟨by decide, by decide⟩]) (r2 := (C 16 (12 * 0 + r9) 1)) (by rfl) rfl rfl (Nat.le_of_ble_eq_true rfl) ⟨by decide, by decide⟩ ⟨by show _ ≤ 602799; omega, by show _ ≤ 7293227; omega⟩ dL_law_680 ?_
                  refine zq_iload hC 11 rfl dL_law_683 ?_
                  refine zq_icmp_eq hC 690 dL_law_685 (by decide) (by omega) (by omega) (fun c685 => ?_) (fun c685 => ?_)
                  · skip
                    refine zq_iload hC 13 rfl dL_law_690 ?_
                    refine zq_iconst hC dL_law_692 ?_
                    refine zq_iload hC 0 rfl dL_law_693 ?_
                    refine zq_ishl hC dL_law_695 ?_
                    refine zq_ior hC dL_law_696 ?_
                    refine zq_istore hC (L' := [(20, .int (on ||| ((Int32.ofInt 1) <<< ((Int32.ofInt ((r9 : Nat) : Int)) &&& 31)))), (22, iv ((r9 : Nat) : Int)), (0, .ref sb), (1, .ref (adC b 0 0)), (2, iv P), (3, iv ((t : Nat) : Int)), (5, iv RC), (13, iv W13), (14, iv W14), (15, iv W15), (16, iv (zsum (fun p => qLen C 0 (p : Int)) q + qLen C 0 ((q : Nat) : Int))), (17, iv (zsum (fun p => arrAt C 0 (p : Int)) q + arrAt C 0 ((q : Nat) : Int))), (18, iv ((q : Nat) : Int)), (19, iv (qLen C 0 ((q : Nat) : Int))), (21, iv ((k : Nat) : Int))]) dL_law_697 (by decide) rfl ?_
                    refine zq_iinc hC 14 (L' := [(21, iv (((k : Nat) : Int) + 1)), (20, .int (on ||| ((Int32.ofInt 1) <<< ((Int32.ofInt ((r9 : Nat) : Int)) &&& 31)))), (22, iv ((r9 : Nat) : Int)), (0, .ref sb), (1, .ref (adC b 0 0)), (2, iv P), (3, iv ((t : Nat) : Int)), (5, iv RC), (13, iv W13), (14, iv W14), (15, iv W15), (16, iv (zsum (fun p => qLen C 0 (p : Int)) q + qLen C 0 ((q : Nat) : Int))), (17, iv (zsum (fun p => arrAt C 0 (p : Int)) q + arrAt C 0 ((q : Nat) : Int))), (18, iv ((q : Nat) : Int)), (19, iv (qLen C 0 ((q : Nat) : Int)))]) dL_law_699 rfl (by decide) rfl ?_
                    refine zq_goto hC 638 dL_law_702 (by decide) ?_
                    refine zq_perm [3, 4, 5, 6, 7, 8, 9, 10, 11, 12, 13, 14, 1, 0] (L' := [(0, .ref sb), (1, .ref (adC b 0 0)), (2, iv P), (3, iv ((t : Nat) : Int)), (5, iv RC), (13, iv W13), (14, iv W14), (15, iv W15), (16, iv (zsum (fun p => qLen C 0 (p : Int)) q + qLen C 0 ((q : Nat) : Int))), (17, iv (zsum (fun p => arrAt C 0 (p : Int)) q + arrAt C 0 ((q : Nat) : Int))), (18, iv ((q : Nat) : Int)), (19, iv (qLen C 0 ((q : Nat) : Int))), (20, .int (on ||| ((Int32.ofInt 1) <<< ((Int32.ofInt ((r9 : Nat) : Int)) &&& 31)))), (21, iv (((k : Nat) : Int) + 1))]) rfl ?_
                    have hon2 : ∀ y : Nat, y < 12 → ((on ||| ((Int32.ofInt 1) <<< ((Int32.ofInt ((r9 : Nat) : Int)) &&& 31))).toBitVec.getLsbD y = true ↔ ∃ i : Nat, i < k + 1 ∧ qAt C 0 ((q : Nat) : Int) ((i : Nat) : Int) = (y : Int)) := by
                      intro y hy
                      rw [bit_or hr12 hy, Bool.or_eq_true, hon y hy, decide_eq_true_iff]
                      constructor
                      · rintro (⟨i, hi, hi2⟩ | rfl)
                        · exact ⟨i, by omega, hi2⟩
                        · exact ⟨k, by omega, e1⟩
                      · rintro ⟨i, hi, hi2⟩
                        by_cases e9 : i = k
                        · subst e9
                          exact Or.inr (by rw [e1] at hi2; omega)
                        · exact Or.inl ⟨i, by omega, hi2⟩
                    refine zq_widen (k := cs + 5 + 40 * q + 2 + 3 * (k + 1)) (n := ss + 50 + 240 * q + 12 + 18 * (k + 1)) (by omega) (by omega) ?_
                    exact zq_conv (ih638 _ (by omega) (k + 1) (on ||| ((Int32.ofInt 1) <<< ((Int32.ofInt ((r9 : Nat) : Int)) &&& 31))) (by omega) hon2 rfl) (by rfl) (by rfl) (by rfl) rfl
                  · skip
                    exfalso; omega
        refine zq_aload_n hC 1 rfl dL_law_603 rfl ?_
        refine zq_iload hC 10 rfl dL_law_604 ?_
        refine zq_iconst hC dL_law_606 ?_
        refine zq_call hC hX zlL_69 rfl (k_X8_platform l hlt D tc (adC b) (zI_adC b) C ((q : Nat) : Int) 3 hW ⟨by omega, by omega⟩ ⟨by decide, by decide⟩) (by unfold kPlat; rw [if_pos ⟨by omega, by omega⟩, if_pos ⟨by decide, by decide⟩]) (r2 := (qLen C 0 ((q : Nat) : Int))) (by rfl) rfl rfl (Nat.le_of_ble_eq_true rfl) ⟨by decide, by decide⟩ ⟨by show _ ≤ 602799; omega, by show _ ≤ 7293227; omega⟩ dL_law_607 ?_
        refine zq_istore hC (L' := [(19, iv (qLen C 0 ((q : Nat) : Int))), (0, .ref sb), (1, .ref (adC b 0 0)), (2, iv P), (3, iv ((t : Nat) : Int)), (5, iv RC), (13, iv W13), (14, iv W14), (15, iv W15), (16, iv (zsum (fun p => qLen C 0 (p : Int)) q)), (17, iv (zsum (fun p => arrAt C 0 (p : Int)) q)), (18, iv ((q : Nat) : Int))]) dL_law_610 (by decide) rfl ?_
        refine zq_iload hC 9 rfl dL_law_612 ?_
        refine zq_iload hC 0 rfl dL_law_614 ?_
        refine zq_iadd hC dL_law_616 ?_
        refine zq_istore hC (L' := [(16, iv ((zsum (fun p => qLen C 0 (p : Int)) q) + (qLen C 0 ((q : Nat) : Int)))), (19, iv (qLen C 0 ((q : Nat) : Int))), (0, .ref sb), (1, .ref (adC b 0 0)), (2, iv P), (3, iv ((t : Nat) : Int)), (5, iv RC), (13, iv W13), (14, iv W14), (15, iv W15), (17, iv (zsum (fun p => arrAt C 0 (p : Int)) q)), (18, iv ((q : Nat) : Int))]) dL_law_617 (by decide) rfl ?_
        refine zq_iload hC 10 rfl dL_law_619 ?_
        refine zq_aload_n hC 3 rfl dL_law_621 rfl ?_
        refine zq_iload hC 11 rfl dL_law_622 ?_
        refine zq_bipush hC dL_law_624 (by decide) ?_
        refine zq_call hC hX zlL_69 rfl (k_X8_platform l hlt D tc (adC b) (zI_adC b) C ((q : Nat) : Int) 7 hW ⟨by omega, by omega⟩ ⟨by decide, by decide⟩) (by unfold kPlat; rw [if_pos ⟨by omega, by omega⟩, if_pos ⟨by decide, by decide⟩]) (r2 := (arrAt C 0 ((q : Nat) : Int))) (by rfl) rfl rfl (Nat.le_of_ble_eq_true rfl) ⟨by decide, by decide⟩ ⟨by show _ ≤ 602799; omega, by show _ ≤ 7293227; omega⟩ dL_law_626 ?_
        refine zq_iadd hC dL_law_629 ?_
        refine zq_istore hC (L' := [(17, iv ((zsum (fun p => arrAt C 0 (p : Int)) q) + (arrAt C 0 ((q : Nat) : Int)))), (16, iv ((zsum (fun p => qLen C 0 (p : Int)) q) + (qLen C 0 ((q : Nat) : Int)))), (19, iv (qLen C 0 ((q : Nat) : Int))), (0, .ref sb), (1, .ref (adC b 0 0)), (2, iv P), (3, iv ((t : Nat) : Int)), (5, iv RC), (13, iv W13), (14, iv W14), (15, iv W15), (18, iv ((q : Nat) : Int))]) dL_law_630 (by decide) rfl ?_
        refine zq_iconst hC dL_law_632 ?_
        refine zq_istore hC (L' := [(20, iv 0), (17, iv ((zsum (fun p => arrAt C 0 (p : Int)) q) + (arrAt C 0 ((q : Nat) : Int)))), (16, iv ((zsum (fun p => qLen C 0 (p : Int)) q) + (qLen C 0 ((q : Nat) : Int)))), (19, iv (qLen C 0 ((q : Nat) : Int))), (0, .ref sb), (1, .ref (adC b 0 0)), (2, iv P), (3, iv ((t : Nat) : Int)), (5, iv RC), (13, iv W13), (14, iv W14), (15, iv W15), (18, iv ((q : Nat) : Int))]) dL_law_633 (by decide) rfl ?_
        refine zq_iconst hC dL_law_635 ?_
        refine zq_istore hC (L' := [(21, iv 0), (20, iv 0), (17, iv ((zsum (fun p => arrAt C 0 (p : Int)) q) + (arrAt C 0 ((q : Nat) : Int)))), (16, iv ((zsum (fun p => qLen C 0 (p : Int)) q) + (qLen C 0 ((q : Nat) : Int)))), (19, iv (qLen C 0 ((q : Nat) : Int))), (0, .ref sb), (1, .ref (adC b 0 0)), (2, iv P), (3, iv ((t : Nat) : Int)), (5, iv RC), (13, iv W13), (14, iv W14), (15, iv W15), (18, iv ((q : Nat) : Int))]) dL_law_636 (by decide) rfl ?_
        refine zq_perm [5, 6, 7, 8, 9, 10, 11, 12, 3, 2, 13, 4, 1, 0] (L' := [(0, .ref sb), (1, .ref (adC b 0 0)), (2, iv P), (3, iv ((t : Nat) : Int)), (5, iv RC), (13, iv W13), (14, iv W14), (15, iv W15), (16, iv ((zsum (fun p => qLen C 0 (p : Int)) q) + (qLen C 0 ((q : Nat) : Int)))), (17, iv ((zsum (fun p => arrAt C 0 (p : Int)) q) + (arrAt C 0 ((q : Nat) : Int)))), (18, iv ((q : Nat) : Int)), (19, iv (qLen C 0 ((q : Nat) : Int))), (20, iv 0), (21, iv 0)]) rfl ?_
        refine zq_widen (k := cs + 5 + 40 * q + 2 + 3 * 0) (n := ss + 50 + 240 * q + 12 + 18 * 0) (by omega) (by omega) ?_
        exact zq_conv (hc638 _ 0 (Int32.ofInt 0) (by omega) (fun y hy => ⟨fun z => by rw [bit_0] at z; exact absurd z (by decide), fun ⟨i, hi, _⟩ => absurd hi (Nat.not_lt_zero i)⟩) rfl) (by rfl) (by rfl) (by rfl) rfl
  refine zq_iconst hC dL_law_588 ?_
  refine zq_istore hC (L' := [(16, iv 0), (0, .ref sb), (1, .ref (adC b 0 0)), (2, iv P), (3, iv ((t : Nat) : Int)), (5, iv RC), (13, iv W13), (14, iv W14), (15, iv W15)]) dL_law_589 (by decide) rfl ?_
  refine zq_iconst hC dL_law_591 ?_
  refine zq_istore hC (L' := [(17, iv 0), (16, iv 0), (0, .ref sb), (1, .ref (adC b 0 0)), (2, iv P), (3, iv ((t : Nat) : Int)), (5, iv RC), (13, iv W13), (14, iv W14), (15, iv W15)]) dL_law_592 (by decide) rfl ?_
  refine zq_iconst hC dL_law_594 ?_
  refine zq_istore hC (L' := [(18, iv 0), (17, iv 0), (16, iv 0), (0, .ref sb), (1, .ref (adC b 0 0)), (2, iv P), (3, iv ((t : Nat) : Int)), (5, iv RC), (13, iv W13), (14, iv W14), (15, iv W15)]) dL_law_595 (by decide) rfl ?_
  refine zq_perm [3, 4, 5, 6, 7, 8, 9, 10, 2, 1, 0] (L' := [(0, .ref sb), (1, .ref (adC b 0 0)), (2, iv P), (3, iv ((t : Nat) : Int)), (5, iv RC), (13, iv W13), (14, iv W14), (15, iv W15), (16, iv 0), (17, iv 0), (18, iv 0)]) rfl ?_
  refine zq_widen (k := cs + 5 + 40 * 0) (n := ss + 50 + 240 * 0) (by omega) (by omega) ?_
  exact zq_conv (hc597 _ 0 (by omega) rfl) (by rfl) (by rfl) (by rfl) rfl
