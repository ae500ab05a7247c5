/-! System.arraycopy between two int arrays of one world, from their starts; the model's copy -/
theorem zcopyws : ∀ w ∈ ([.methodLink RX9 55 arraycopyName, .native arraycopyName, .static arraycopyName, .initialized "java/lang/System"] : List Cond), w ∈ zbig := zc1 (zin 1100 (by decide +kernel) rfl) (zc1 (zin 1102 (by decide +kernel) rfl) (zc1 (zin 1101 (by decide +kernel) rfl) (zc1 (zin 53 (by decide +kernel) rfl) zc0)))
def zcp (M : zM) (f i g j n : Nat) : zM := fun f' i' k => if f' = g ∧ i' = j ∧ k < n then M f i k else M f' i' k
theorem zcp_off {M : zM} {f i g j n f' i' : Nat} (h : ¬ (f' = g ∧ i' = j)) : zcp M f i g j n f' i' = M f' i' := by
  funext k; simp only [zcp]; rw [if_neg (fun q => h ⟨q.1, q.2.1⟩)]
section ZCPY
variable {p : Program} {l : Launch} {e : Env} {R : Room} {s : State} {m : MethodId} {args : Array Value} {below : List Frame} {meth : Method} {c : Code} {Q : State → Prop} {D : va_G} {tys : List (ClassId × FieldType)} {ad : Nat → Nat → Nat} {ok : Nat → Nat → Prop} {tm : Nat → Nat → zT} {A : Nat → Prop} {H0 : Heap} {nL : Nat} {cells slots : Nat} {M : zM} {L : List (Nat × Value)} {pc : Nat} {cc : ByteArray}
theorem z_arraycopy (hC : zC p s m args c D tys ad ok A H0 cc nL RX9) {f i g j n : Nat} {tA : ClassId} (t0 : Nat) (hf : tm f i = .inr (.inl (tA, n))) (hg : tm g j = .inr (.inl (tA, n))) (hty : tys[t0]? = some (tA, .int)) (hof : ok f i) (hog : ok g j) (hn : n < 2147483648) (hfr : 1 ≤ R.frames) (hlo : 0 + (nativeFrameWords "java/lang/System" "arraycopy" 5 + 11) ≤ R.locals) (hdg : decode cc pc = .ok (.invokestatic 55, 3))
    (kk : zV p l e R s m args below meth c Q D ad ok tm A H0 nL cells slots (zcp M f i g j n) L (pc + 3) []) : zV p l e R s m args below meth c Q D ad ok tm A H0 nL cells slots M L pc [iv (n : Int), iv 0, .ref (ad g j), iv 0, .ref (ad f i)] := by
  intro H locs ls hw hS hl T hT X
  have hws := fun w h => hC.1.2.2.2.2 w (zcopyws w h)
  have wf := hw f i hof
  have wg := hw g j hog
  rw [hf] at wf
  rw [hg] at wg
  have wf' : H[ad f i]? = some (vp_cell tA (n, .inl (fun k => Int32.ofInt (M f i k)))) := wf
  have wg' : H[ad g j]? = some (vp_cell tA (n, .inl (fun k => Int32.ofInt (M g j k)))) := wg
  obtain ⟨-, k0, hk0, cm0, hkk0⟩ := (hC.2.1.2 t0 _ hty).1 n (fun k => .int (Int32.ofInt (M f i k)))
  obtain ⟨-, k1, hk1, cm1, hkk1⟩ := (hC.2.1.2 t0 _ hty).1 n (fun k => .int (Int32.ofInt (M g j k)))
  have hnn : (Int32.ofInt (n : Int)).toInt = n := zi_toInt ⟨by omega, by omega⟩
  have hnc : (Int32.ofInt (n : Int)).toNatClampNeg = n := by rw [zi_nat ⟨by omega, by omega⟩]; omega
  have h0 : ¬ Int32.ofInt 0 < 0 := by decide
  have h0c : (Int32.ofInt 0).toNatClampNeg = 0 := by decide
  have h0i : (Int32.ofInt 0).toInt = 0 := by decide
  have hn0 : ¬ Int32.ofInt (n : Int) < 0 := by rw [zi_0, zi_lt ⟨by omega, by omega⟩ zi_r0]; omega
  obtain ⟨vm', X', step⟩ := X.arraycopy (own := RX9) (index := 55) hC.1.1 hC.1.2.2.2.1 (hws _ (by simp)) (hws _ (by simp)) (hws _ (by simp)) (hws _ (by simp)) (src := ad f i) (dst := ad g j) (cs := vp_cell tA (n, .inl (fun k => Int32.ofInt (M f i k)))) (cd := vp_cell tA (n, .inl (fun k => Int32.ofInt (M g j k)))) (srcPos := Int32.ofInt 0) (destPos := Int32.ofInt 0) (n := Int32.ofInt n) (by rw [hT]; exact wf') (by rw [hT]; exact wg')
    (fun _ h => by cases h) (fun _ h => by cases h) (fun h => by cases h) (fun h => by cases h) hk0 hk1 hkk0 hkk1 (by rfl) h0 h0 hn0
    (by rw [h0i, hnn]; show ¬ _ > ((arrV tA n (fun k => .int (Int32.ofInt (M f i k)))).slots.size : Int); rw [arrV_size]; omega)
    (by rw [h0i, hnn]; show ¬ _ > ((arrV tA n (fun k => .int (Int32.ofInt (M g j k)))).slots.size : Int); rw [arrV_size]; omega)
    (fun vm₁ _ k hk => by
      rw [hnc] at hk
      have e : (vp_cell tA (n, .inl (fun k => Int32.ofInt (M f i k)))).slots.getD ((Int32.ofInt 0).toNatClampNeg + k) .null = .int (Int32.ofInt (M f i k)) := by
        show (arrV tA n (fun k => .int (Int32.ofInt (M f i k)))).slots.getD _ _ = _
        rw [h0c, Nat.zero_add, Array.getD_eq_getD_getElem?, arrV_read _ _ hk]
        rfl
      rw [e]
      exact ⟨rfl, trivial⟩)
    (g := F0 m pc ls [iv (n : Int), iv 0, .ref (ad g j), iv 0, .ref (ad f i)]) rfl (by rw [hC.1.2.2.1]; exact hl.1) (rest := []) rfl (by rw [hC.1.2.1]; exact hdg) hfr (by show 2 * 0 + 0 + _ ≤ _; omega)
  have e1 : copied (vp_cell tA (n, .inl (fun k => Int32.ofInt (M f i k)))) (vp_cell tA (n, .inl (fun k => Int32.ofInt (M g j k)))) (Int32.ofInt 0) (Int32.ofInt 0) (Int32.ofInt n) = vp_cell tA (n, .inl (va_cpy (fun k => Int32.ofInt (M f i k)) (fun k => Int32.ofInt (M g j k)) (Int32.ofInt 0).toNatClampNeg (Int32.ofInt 0).toNatClampNeg (Int32.ofInt (n : Int)).toNatClampNeg)) := va_copied (n0 := n) (n1 := n) (sp := (Int32.ofInt 0).toNatClampNeg) (dp := (Int32.ofInt 0).toNatClampNeg) (n := (Int32.ofInt (n : Int)).toNatClampNeg) (fun z => Value.int z) tA tA (fun k => Int32.ofInt (M f i k)) (fun k => Int32.ofInt (M g j k)) (by rw [h0c, hnc]; omega)
  have e2 : va_cpy (fun k => Int32.ofInt (M f i k)) (fun k => Int32.ofInt (M g j k)) (Int32.ofInt 0).toNatClampNeg (Int32.ofInt 0).toNatClampNeg (Int32.ofInt (n : Int)).toNatClampNeg = (fun k => Int32.ofInt (zcp M f i g j n g j k)) := by
    rw [h0c, hnc]
    funext k
    simp only [va_cpy, zcp, Nat.zero_add, Nat.sub_zero, Nat.zero_le, true_and]
    split <;> rfl
  rw [e1, e2] at X' step
  have hsz : ad g j < H.size := (Array.getElem?_eq_some_iff.mp wg').1
  have oq : ∀ q : Nat, q ≠ ad g j → (H.setIfInBounds (ad g j) (vp_cell tA (n, .inl (fun k => Int32.ofInt (zcp M f i g j n g j k)))))[q]? = H[q]? := fun q hq => by simp [Array.getElem?_setIfInBounds, Ne.symm hq]
  have hheap : ((T.setVm vm').setCell (ad g j) (vp_cell tA (n, .inl (fun k => Int32.ofInt (zcp M f i g j n g j k))))).heap = H.setIfInBounds (ad g j) (vp_cell tA (n, .inl (fun k => Int32.ofInt (zcp M f i g j n g j k)))) := by rw [← hT]; rfl
  obtain ⟨t, a1, b1⟩ := kk _ _ ls (hw.put hC.2.2.1 hog (by
      rw [hg]
      show (H.setIfInBounds (ad g j) _)[ad g j]? = some _
      simp [Array.getElem?_setIfInBounds, hsz]) oq (fun f' i' h => zcp_off h)) ⟨by simp; exact hS.1, fun q g1 g2 => by
      rw [oq q (fun e => g2 (by rw [e]; exact hC.2.2.2.1 g j hog))]
      exact hS.2.1 q g1 g2, fun q hq => by
      rcases List.mem_append.mp hq with h | h
      · exact hS.2.2 q h
      · obtain ⟨z, -, hz⟩ := List.mem_map.mp h
        rw [← hz]
        exact hC.2.2.2.1 g j hog⟩ hl _ hheap X'
  exact ⟨t, step t a1, b1⟩
end ZCPY
set_option maxHeartbeats 4000000 in
set_option maxRecDepth 100000 in
theorem k_X9_copy (l : Launch) (D : va_G) (tys : List (ClassId × FieldType)) (ad : Nat → Nat → Nat) (ok : Nat → Nat → Prop) (tm : Nat → Nat → zT) (hI : zI ad ok) (M : zM) (b f i g j n : Nat) {tA : ClassId} (t0 : Nat) (hf : tm f i = .inr (.inl (tA, n))) (hg : tm g j = .inr (.inl (tA, n))) (hty : tys[t0]? = some (tA, .int)) (hof : ok f i) (hog : ok g j) (hn : n < 2147483648) : zMv l yX9_copy cX9_copy 3 none 2 D tys ad ok tm [.ref b, .ref (ad f i), .ref (ad g j)] M (zcp M f i g j n) 0 0 := by
  refine z_met hI (plainFor_of_name (by decide)) (Nat.le_of_ble_eq_true rfl) ?_
  intro p e s m args below meth c hC hret hlk
  refine z_conv (L2 := [(0, .ref b), (1, .ref (ad f i)), (2, .ref (ad g j))]) ?_ rfl rfl rfl
  refine z_aload_n hC 1 rfl dX9_copy_0 rfl ?_
  refine z_iconst hC dX9_copy_1 ?_
  refine z_aload_n hC 2 rfl dX9_copy_2 rfl ?_
  refine z_iconst hC dX9_copy_3 ?_
  refine z_aload_n hC 1 rfl dX9_copy_4 rfl ?_
  refine z_alen hC t0 hf hty hof dX9_copy_5 ?_
  refine z_arraycopy hC t0 hf hg hty hof hog hn (by decide) (by decide) dX9_copy_6 ?_
  exact z_vret hC hret hlk rfl dX9_copy_9
