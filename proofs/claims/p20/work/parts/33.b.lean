/-! the world C when it is made: every cell at its place behind the first -/
def offC : Nat → Nat → Nat := fun f i => match f with
  | 0 => 0
  | 1 => 1
  | 2 => 2
  | 3 => 3
  | 4 => 4
  | 5 => 5
  | 6 => 6 + i
  | 7 => 14 + i
  | 8 => 26 + 4 * i
  | 9 => 27 + 4 * i + 103 * (i / 12)
  | 10 => 28 + 4 * i + 103 * (i / 12)
  | 11 => 29 + 4 * i + 103 * (i / 12)
  | 12 => 74 + 52 * i
  | 13 => 75 + 52 * i
  | 14 => 76 + 52 * i
  | 15 => 77 + 52 * i
  | 16 => 78 + 52 * (i / 12) + i % 12
  | 17 => 90 + 52 * (i / 12) + 3 * (i % 12)
  | 18 => 91 + 52 * (i / 12) + 3 * (i % 12)
  | 19 => 92 + 52 * (i / 12) + 3 * (i % 12)
  | _ => 0
def adC (b : Nat) (f i : Nat) : Nat := b + offC f i
theorem adC_0 (b i : Nat) : adC b 0 i = b + (0) := rfl
theorem adC_1 (b i : Nat) : adC b 1 i = b + (1) := rfl
theorem adC_2 (b i : Nat) : adC b 2 i = b + (2) := rfl
theorem adC_3 (b i : Nat) : adC b 3 i = b + (3) := rfl
theorem adC_4 (b i : Nat) : adC b 4 i = b + (4) := rfl
theorem adC_5 (b i : Nat) : adC b 5 i = b + (5) := rfl
theorem adC_6 (b i : Nat) : adC b 6 i = b + (6 + i) := rfl
theorem adC_7 (b i : Nat) : adC b 7 i = b + (14 + i) := rfl
theorem adC_8 (b i : Nat) : adC b 8 i = b + (26 + 4 * i) := rfl
theorem adC_9 (b i : Nat) : adC b 9 i = b + (27 + 4 * i + 103 * (i / 12)) := rfl
theorem adC_10 (b i : Nat) : adC b 10 i = b + (28 + 4 * i + 103 * (i / 12)) := rfl
theorem adC_11 (b i : Nat) : adC b 11 i = b + (29 + 4 * i + 103 * (i / 12)) := rfl
theorem adC_12 (b i : Nat) : adC b 12 i = b + (74 + 52 * i) := rfl
theorem adC_13 (b i : Nat) : adC b 13 i = b + (75 + 52 * i) := rfl
theorem adC_14 (b i : Nat) : adC b 14 i = b + (76 + 52 * i) := rfl
theorem adC_15 (b i : Nat) : adC b 15 i = b + (77 + 52 * i) := rfl
theorem adC_16 (b i : Nat) : adC b 16 i = b + (78 + 52 * (i / 12) + i % 12) := rfl
theorem adC_17 (b i : Nat) : adC b 17 i = b + (90 + 52 * (i / 12) + 3 * (i % 12)) := rfl
theorem adC_18 (b i : Nat) : adC b 18 i = b + (91 + 52 * (i / 12) + 3 * (i % 12)) := rfl
theorem adC_19 (b i : Nat) : adC b 19 i = b + (92 + 52 * (i / 12) + 3 * (i % 12)) := rfl
def invC (n : Nat) : Nat × Nat := if n < 6 then (n, 0) else if n < 14 then (6, n - 6) else if n < 26 then (7, n - 14) else if n < 74 then (8 + (n - 26) % 4, (n - 26) / 4) else if n < 178 then (if (n - 74) % 52 < 4 then (12 + (n - 74) % 52, (n - 74) / 52) else if (n - 74) % 52 < 16 then (16, 12 * ((n - 74) / 52) + (n - 74) % 52 - 4) else (17 + ((n - 74) % 52 - 16) % 3, 12 * ((n - 74) / 52) + ((n - 74) % 52 - 16) / 3)) else (9 + (n - 178), 12)
theorem invC_ok : ∀ f, f < 20 → ∀ i, i < szC f → invC (offC f i) = (f, i) := by decide +kernel
theorem offC_lt : ∀ f, f < 20 → ∀ i, i < szC f → offC f i < 181 := by decide +kernel
theorem okC_f {f i : Nat} (h : okC f i) : f < 20 := by
  have h9 : i < szC f := h
  unfold szC at h9
  split at h9 <;> omega
theorem zI_adC (b : Nat) : zI (adC b) okC := by
  intro f i f' i' h h' e
  have e1 : offC f i = offC f' i' := by have : b + offC f i = b + offC f' i' := e; omega
  have e2 := invC_ok f (okC_f h) i h
  rw [e1, invC_ok f' (okC_f h') i' h'] at e2
  exact ⟨(congrArg Prod.fst e2).symm, (congrArg Prod.snd e2).symm⟩
theorem adC_ge (b f i : Nat) : b ≤ adC b f i := Nat.le_add_right _ _
theorem adC_lt {b f i : Nat} (h : okC f i) : adC b f i < b + 181 := Nat.add_lt_add_left (offC_lt f (okC_f h) i h) b
/-! the world M when it is made: every cell at its place behind the first -/
def offM : Nat → Nat → Nat := fun f i => match f with
  | 0 => 0
  | 1 => 1
  | 2 => 2
  | 3 => 3
  | 4 => 4
  | 5 => 5
  | 6 => 6
  | 7 => 7
  | 8 => 8
  | 9 => 9
  | 10 => 10
  | 11 => 11 + 14 * i
  | 12 => 12 + 14 * i
  | 13 => 13 + 14 * i
  | 14 => 14 + 14 * i
  | 15 => 15 + 14 * i
  | 16 => 16 + 14 * i
  | 17 => 17 + 14 * i
  | 18 => 18 + 14 * i
  | 19 => 19 + 14 * i
  | 20 => 20 + 14 * i
  | 21 => 21 + 14 * i
  | 22 => 22 + 14 * i
  | 23 => 23 + 14 * i
  | 24 => 24 + 14 * i
  | _ => 0
def adM (b : Nat) (f i : Nat) : Nat := b + offM f i
theorem adM_0 (b i : Nat) : adM b 0 i = b + (0) := rfl
theorem adM_1 (b i : Nat) : adM b 1 i = b + (1) := rfl
theorem adM_2 (b i : Nat) : adM b 2 i = b + (2) := rfl
theorem adM_3 (b i : Nat) : adM b 3 i = b + (3) := rfl
theorem adM_4 (b i : Nat) : adM b 4 i = b + (4) := rfl
theorem adM_5 (b i : Nat) : adM b 5 i = b + (5) := rfl
theorem adM_6 (b i : Nat) : adM b 6 i = b + (6) := rfl
theorem adM_7 (b i : Nat) : adM b 7 i = b + (7) := rfl
theorem adM_8 (b i : Nat) : adM b 8 i = b + (8) := rfl
theorem adM_9 (b i : Nat) : adM b 9 i = b + (9) := rfl
theorem adM_10 (b i : Nat) : adM b 10 i = b + (10) := rfl
theorem adM_11 (b i : Nat) : adM b 11 i = b + (11 + 14 * i) := rfl
theorem adM_12 (b i : Nat) : adM b 12 i = b + (12 + 14 * i) := rfl
theorem adM_13 (b i : Nat) : adM b 13 i = b + (13 + 14 * i) := rfl
theorem adM_14 (b i : Nat) : adM b 14 i = b + (14 + 14 * i) := rfl
theorem adM_15 (b i : Nat) : adM b 15 i = b + (15 + 14 * i) := rfl
theorem adM_16 (b i : Nat) : adM b 16 i = b + (16 + 14 * i) := rfl
theorem adM_17 (b i : Nat) : adM b 17 i = b + (17 + 14 * i) := rfl
theorem adM_18 (b i : Nat) : adM b 18 i = b + (18 + 14 * i) := rfl
theorem adM_19 (b i : Nat) : adM b 19 i = b + (19 + 14 * i) := rfl
theorem adM_20 (b i : Nat) : adM b 20 i = b + (20 + 14 * i) := rfl
theorem adM_21 (b i : Nat) : adM b 21 i = b + (21 + 14 * i) := rfl
theorem adM_22 (b i : Nat) : adM b 22 i = b + (22 + 14 * i) := rfl
theorem adM_23 (b i : Nat) : adM b 23 i = b + (23 + 14 * i) := rfl
theorem adM_24 (b i : Nat) : adM b 24 i = b + (24 + 14 * i) := rfl
def invM (n : Nat) : Nat × Nat := if n < 11 then (n, 0) else (11 + (n - 11) % 14, (n - 11) / 14)
theorem invM_ok : ∀ f, f < 25 → ∀ i, i < szM f → invM (offM f i) = (f, i) := by decide +kernel
theorem offM_lt : ∀ f, f < 25 → ∀ i, i < szM f → offM f i < 39 := by decide +kernel
theorem okM_f {f i : Nat} (h : okM f i) : f < 25 := by
  have h9 : i < szM f := h
  unfold szM at h9
  split at h9 <;> omega
theorem zI_adM (b : Nat) : zI (adM b) okM := by
  intro f i f' i' h h' e
  have e1 : offM f i = offM f' i' := by have : b + offM f i = b + offM f' i' := e; omega
  have e2 := invM_ok f (okM_f h) i h
  rw [e1, invM_ok f' (okM_f h') i' h'] at e2
  exact ⟨(congrArg Prod.fst e2).symm, (congrArg Prod.snd e2).symm⟩
theorem adM_ge (b f i : Nat) : b ≤ adM b f i := Nat.le_add_right _ _
theorem adM_lt {b f i : Nat} (h : okM f i) : adM b f i < b + 39 := Nat.add_lt_add_left (offM_lt f (okM_f h) i h) b
def M0C : zM := fun f _ k => if f = 16 ∧ k = 5 then -1 else 0
def M0M : zM := fun _ _ _ => 0
/-- what the worlds hold when they are made -/
def SFC (tc : Nat → ClassId) (b : Nat) : Nat → Nat → va_E := fun f i => zcel (tmC (adC b) tc f i) (M0C f i)
def SFM (tc : Nat → ClassId) (b : Nat) : Nat → Nat → va_E := fun f i => zcel (tmM (adM b) tc f i) (M0M f i)
theorem zse_self {S : Nat → Nat → va_E} {f i : Nat} {c : va_E} (h : S f i = c) : zse S f i c = S := by
  funext f' i'
  by_cases q : f' = f ∧ i' = i
  · obtain ⟨rfl, rfl⟩ := q
    rw [zse_at]; exact h.symm
  · rw [zse_off q]
theorem zse_twice (S : Nat → Nat → va_E) (f i : Nat) (c d : va_E) : zse (zse S f i c) f i d = zse S f i d := by
  funext f' i'
  by_cases q : f' = f ∧ i' = i
  · obtain ⟨rfl, rfl⟩ := q
    rw [zse_at, zse_at]
  · rw [zse_off q, zse_off q, zse_off q]
theorem zse_comm {S : Nat → Nat → va_E} {f i f2 i2 : Nat} {c d : va_E} (h : f ≠ f2) : zse (zse S f i c) f2 i2 d = zse (zse S f2 i2 d) f i c := by
  funext f' i'
  by_cases q : f' = f ∧ i' = i
  · obtain ⟨rfl, rfl⟩ := q
    rw [zse_at, zse_f h, zse_at]
  · by_cases q2 : f' = f2 ∧ i' = i2
    · obtain ⟨rfl, rfl⟩ := q2
      rw [zse_at, zse_off q, zse_at]
    · rw [zse_off q2, zse_off q, zse_off q, zse_off q2]
def zpart (F : Nat → Nat) (j : Nat) : Nat → Option Nat := fun k => if k < j then some (F k) else none
theorem zpart_0 (F : Nat → Nat) : zpart F 0 = fun _ => none := by funext k; simp [zpart]
theorem zpart_s (F : Nat → Nat) (j : Nat) : va_up (zpart F j) j (some (F j)) = zpart F (j + 1) := by
  funext k
  simp only [va_up, zpart]
  by_cases h : k = j
  · subst h; rw [if_pos rfl, if_pos (by omega)]
  · rw [if_neg h]
    by_cases h2 : k < j
    · rw [if_pos h2, if_pos (by omega)]
    · rw [if_neg h2, if_neg (by omega)]
/-- a row that is full -/
theorem zHB.full {D : va_G} {ad : Nat → Nat → Nat} {ok : Nat → Nat → Prop} {sz : Nat} {S : Nat → Nat → va_E} {H : Heap} {f i n : Nat} {tA : ClassId} {F : Nat → Nat} (h : zHB D ad ok sz (zse S f i (.inl (tA, n, .inr (.inr (.inr (.inr (zpart F n))))))) H) (hS : S f i = .inl (tA, n, .inr (.inr (.inr (.inr (fun k => some (F k))))))) : zHB D ad ok sz S H := by
  refine ⟨h.1, fun f' i' ho hl => ?_⟩
  have h1 := h.2 f' i' ho hl
  by_cases q : f' = f ∧ i' = i
  · obtain ⟨rfl, rfl⟩ := q
    rw [zse_at] at h1
    rw [hS]
    have h2 : H[ad f' i']? = some (vp_cell tA (n, .inr (.inr (.inr (.inr (zpart F n)))))) := h1
    show H[ad f' i']? = some (vp_cell tA (n, .inr (.inr (.inr (.inr (fun k => some (F k)))))))
    rw [h2, vp_cell_q, vp_cell_q]
    have e : arrV tA n (fun j => va_rf (zpart F n j)) = arrV tA n (fun j => va_rf (some (F j))) := by
      unfold arrV
      congr 2
      funext j
      show va_rf (zpart F n j.val) = va_rf (some (F j.val))
      rw [show zpart F n j.val = some (F j.val) from if_pos j.isLt]
    rw [e]
  · rw [zse_off q] at h1
    exact h1
theorem zb_full {p : Program} {l : Launch} {e : Env} {R : Room} {s : State} {m : MethodId} {args : Array Value} {below : List Frame} {meth : Method} {c : Code} {Q : State → Prop} {D : va_G} {ad : Nat → Nat → Nat} {ok : Nat → Nat → Prop} {A : Nat → Prop} {H0 : Heap} {nL : Nat} {cells slots : Nat} {sz : Nat} {S : Nat → Nat → va_E} {L : List (Nat × Value)} {pc : Nat} {St : List Value} {f i n : Nat} {tA : ClassId} {F : Nat → Nat} (hS9 : S f i = .inl (tA, n, .inr (.inr (.inr (.inr (fun k => some (F k))))))) (kk : zB p l e R s m args below meth c Q D ad ok A H0 nL cells slots sz S L pc St) : zB p l e R s m args below meth c Q D ad ok A H0 nL cells slots sz (zse S f i (.inl (tA, n, .inr (.inr (.inr (.inr (zpart F n))))))) L pc St := fun H locs ls hw hS hl => kk H locs ls (hw.full hS9) hS hl
theorem zhX8_10 : zFf RX8 10 8 0 := ⟨_, _, _, tyX8, rfl, by decide, zwX8, zin 692 (by decide +kernel) rfl, tyX8_ok, nmX8, rfl, rfl, .object "ZipCanopy$Layout", by decide +kernel, fun _ => rfl, fun _ => rfl⟩
theorem zhX8_21 : zFf RX8 21 8 1 := ⟨_, _, _, tyX8, rfl, by decide, zwX8, zin 693 (by decide +kernel) rfl, tyX8_ok, nmX8, rfl, rfl, .object "ZipCanopy$Traffic", by decide +kernel, fun _ => rfl, fun _ => rfl⟩
theorem zhX8_25 : zFf RX8 25 8 2 := ⟨_, _, _, tyX8, rfl, by decide, zwX8, zin 694 (by decide +kernel) rfl, tyX8_ok, nmX8, rfl, rfl, .object "ZipCanopy$Traffic", by decide +kernel, fun _ => rfl, fun _ => rfl⟩
theorem zhX8_31 : zFf RX8 31 8 3 := ⟨_, _, _, tyX8, rfl, by decide, zwX8, zin 695 (by decide +kernel) rfl, tyX8_ok, nmX8, rfl, rfl, .object "ZipCanopy$Route", by decide +kernel, fun _ => rfl, fun _ => rfl⟩
theorem zhX0_11 : zFf RX0 11 0 0 := ⟨_, _, _, tyX0, rfl, by decide, zwX0, zin 557 (by decide +kernel) rfl, tyX0_ok, nmX0, rfl, rfl, .array (.object "ZipCanopy$Platform"), by decide +kernel, fun _ => rfl, fun _ => rfl⟩
theorem zhX0_19 : zFf RX0 19 0 1 := ⟨_, _, _, tyX0, rfl, by decide, zwX0, zin 559 (by decide +kernel) rfl, tyX0_ok, nmX0, rfl, rfl, .array (.object "ZipCanopy$Line"), by decide +kernel, fun _ => rfl, fun _ => rfl⟩
theorem zhX0_25 : zFf RX0 25 0 2 := ⟨_, _, _, tyX0, rfl, by decide, zwX0, zin 563 (by decide +kernel) rfl, tyX0_ok, nmX0, rfl, rfl, .array (.object "ZipCanopy$Rider"), by decide +kernel, fun _ => rfl, fun _ => rfl⟩
theorem zhX0_29 : zFf RX0 29 0 3 := ⟨_, _, _, tyX0, rfl, by decide, zwX0, zin 566 (by decide +kernel) rfl, tyX0_ok, nmX0, rfl, rfl, .array .int, by decide +kernel, fun _ => rfl, fun _ => rfl⟩
theorem zhX3_10 : zFf RX3 10 3 0 := ⟨_, _, _, tyX3, rfl, by decide, zwX3, zin 534 (by decide +kernel) rfl, tyX3_ok, nmX3, rfl, rfl, .object "ZipCanopy$Route", by decide +kernel, fun _ => rfl, fun _ => rfl⟩
theorem zhX4_9 : zFf RX4 9 4 0 := ⟨_, _, _, tyX4, rfl, by decide, zwX4, zin 527 (by decide +kernel) rfl, tyX4_ok, nmX4, rfl, rfl, .array .int, by decide +kernel, fun _ => rfl, fun _ => rfl⟩
theorem zhX4_15 : zFf RX4 15 4 1 := ⟨_, _, _, tyX4, rfl, by decide, zwX4, zin 528 (by decide +kernel) rfl, tyX4_ok, nmX4, rfl, rfl, .array .int, by decide +kernel, fun _ => rfl, fun _ => rfl⟩
theorem zhX5_11 : zFf RX5 11 5 1 := ⟨_, _, _, tyX5, rfl, by decide, zwX5, zin 669 (by decide +kernel) rfl, tyX5_ok, nmX5, rfl, rfl, .array (.object "ZipCanopy$Trip"), by decide +kernel, fun _ => rfl, fun _ => rfl⟩
theorem zhX5_19 : zFf RX5 19 5 2 := ⟨_, _, _, tyX5, rfl, by decide, zwX5, zin 671 (by decide +kernel) rfl, tyX5_ok, nmX5, rfl, rfl, .array (.object "ZipCanopy$Trolleys"), by decide +kernel, fun _ => rfl, fun _ => rfl⟩
theorem zhX5_23 : zFf RX5 23 5 3 := ⟨_, _, _, tyX5, rfl, by decide, zwX5, zin 673 (by decide +kernel) rfl, tyX5_ok, nmX5, rfl, rfl, .array .int, by decide +kernel, fun _ => rfl, fun _ => rfl⟩
theorem zhX5_27 : zFf RX5 27 5 0 := ⟨_, _, _, tyX5, rfl, by decide, zwX5, zin 668 (by decide +kernel) rfl, tyX5_ok, nmX5, rfl, rfl, .object "ZipCanopy$Layout", by decide +kernel, fun _ => rfl, fun _ => rfl⟩
theorem zhX7_9 : zFf RX7 9 7 2 := ⟨_, _, _, tyX7, rfl, by decide, zwX7, zin 645 (by decide +kernel) rfl, tyX7_ok, nmX7, rfl, rfl, .array .int, by decide +kernel, fun _ => rfl, fun _ => rfl⟩
theorem zhX7_15 : zFf RX7 15 7 3 := ⟨_, _, _, tyX7, rfl, by decide, zwX7, zin 647 (by decide +kernel) rfl, tyX7_ok, nmX7, rfl, rfl, .array .int, by decide +kernel, fun _ => rfl, fun _ => rfl⟩
