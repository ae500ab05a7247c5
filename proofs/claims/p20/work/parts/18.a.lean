theorem zTh_43 : zTh 43 "java/lang/IllegalArgumentException" := ⟨by decide +kernel, by decide +kernel, by decide +kernel, by decide +kernel⟩
theorem zTh_58 : zTh 58 "java/lang/IllegalStateException" := ⟨by decide +kernel, by decide +kernel, by decide +kernel, by decide +kernel⟩
theorem zTh_71 : zTh 71 "java/lang/IndexOutOfBoundsException" := ⟨by decide +kernel, by decide +kernel, by decide +kernel, by decide +kernel⟩
def kBuild (M : zM) (x y q : Int) : Nat := if 0 ≤ x ∧ x ≤ 40 then (if 0 ≤ y ∧ y ≤ 40 then (if 0 ≤ q ∧ q ≤ 60 then (if zcnt (fun j => M 6 j 0 = x ∧ M 6 j 1 = y) (M 1 0 4).toNat ≠ 0 then 2 else if M 1 0 4 < 8 then 0 else 2) else 1) else 1) else 1
def kSpan (M : zM) (t b mo tr : Int) : Nat := if 0 ≤ t ∧ t ≤ M 1 0 4 - 1 then (if 0 ≤ b ∧ b ≤ M 1 0 4 - 1 then (if M 6 b.toNat 2 < M 6 t.toNat 2 then (if 20 ≤ mo ∧ mo ≤ 150 then (if 1 ≤ tr ∧ tr ≤ 3 then (if M 1 0 5 < 12 then 0 else 2) else 1) else 1) else 1) else 3) else 3
def kAdd (M : zM) (n : Int) : Nat := if 0 ≤ n ∧ n ≤ M 1 0 5 - 1 then (if M 17 (12 * 0 + n.toNat) 0 + M 17 (12 * 0 + n.toNat) 1 < 3 then 0 else 2) else 3
def kWind (mi w : Int) : Nat := if 0 ≤ mi ∧ mi ≤ 11 then (if 0 ≤ w ∧ w ≤ 9 then 0 else 1) else 3
def kPlat (M : zM) (n w : Int) : Nat := if 0 ≤ n ∧ n ≤ M 1 0 4 - 1 then (if 0 ≤ w ∧ w ≤ 7 then 0 else 3) else 3
def kLine (M : zM) (n w : Int) : Nat := if 0 ≤ n ∧ n ≤ M 1 0 5 - 1 then (if 0 ≤ w ∧ w ≤ 10 then 0 else 3) else 3
def kRide (M : zM) (n w : Int) : Nat := if 0 ≤ n ∧ n ≤ M 1 0 5 - 1 then (if 20 ≤ w ∧ w ≤ 120 then 0 else 1) else 3
def rideR (M : zM) (n w : Int) : Int := if w ≤ M 7 n.toNat 2 then (if w * M 7 n.toNat 4 < 10 * M 7 n.toNat 3 then -(rideC (M 7 n.toNat 3) (M 7 n.toNat 4) w) else rideC (M 7 n.toNat 3) (M 7 n.toNat 4) w) else 0
def kCome (M : zM) (q g w pa : Int) : Nat := if 0 ≤ q ∧ q ≤ M 1 0 4 - 1 then (if 0 ≤ g ∧ g ≤ M 1 0 4 - 1 then (if 20 ≤ w ∧ w ≤ 120 then (if 1 ≤ pa ∧ pa ≤ 60 then (if M 1 0 6 < 12 then 0 else 2) else 1) else 1) else 3) else 3
theorem addRiderC_wt {T U : Int} {M : zM} (h : WTC T U M) {g w pa : Int} (hg : 0 ≤ g ∧ g ≤ 7) (hw : 0 ≤ w ∧ w ≤ 120) (hp : 0 ≤ pa ∧ pa ≤ 60) (hc : M 1 0 6 < 12) : WTC T U (addRiderC M g w pa) := by
  have h6 : 0 ≤ M 1 0 6 ∧ M 1 0 6 ≤ 12 := h.1 1 0 6
  exact (planC_wt (((h.up (f := 8) (k := 1) (by decide) hg).up (f := 8) (k := 2) (by decide) hw).up (f := 8) (k := 3) (by decide) hp)).up (f := 1) (k := 6) (by decide) (show _ ∧ _ from ⟨by omega, by omega⟩)
theorem addLineC_wt {T U : Int} {M : zM} (h : WTC T U M) {t b mo : Int} (ht : 0 ≤ t ∧ t ≤ 7) (hb : 0 ≤ b ∧ b ≤ 7) (hm : 0 ≤ mo ∧ mo ≤ 150) (hl : M 6 b.toNat 2 ≤ M 6 t.toNat 2) (hc : M 1 0 5 < 12) : WTC T U (addLineC M t b mo) := planAll_wt (addLine0_wt h ht hb hm hl hc)
def kRider (M : zM) (n w : Int) : Nat := if 0 ≤ n ∧ n ≤ M 1 0 6 - 1 then (if 0 ≤ w ∧ w ≤ 10 then 0 else 3) else 3
def kQueue (M : zM) (n ix : Int) : Nat := if 0 ≤ n ∧ n ≤ M 1 0 4 - 1 then (if 0 ≤ ix ∧ ix ≤ qLen M 0 n - 1 then 0 else 3) else 3
def kPass (n : Int) : Nat := if 1 ≤ n ∧ n ≤ 100 then 0 else 1
def kCount (w : Int) : Nat := if 0 ≤ w ∧ w ≤ 9 then 0 else 3
def kWay (M : zM) (a b w : Int) : Nat := if 0 ≤ a ∧ a ≤ M 1 0 4 - 1 then (if 0 ≤ b ∧ b ≤ M 1 0 4 - 1 then (if 20 ≤ w ∧ w ≤ 120 then 0 else 1) else 3) else 3
def kArr (M : zM) (n : Int) : Nat := if 0 ≤ n ∧ n ≤ M 1 0 6 - 1 then 0 else 3
abbrev underP (M : zM) (i : Nat) : Prop := M 16 i 0 = 0 ∨ M 16 i 0 = 1
def arrN (M : zM) (r n : Nat) : zM := zit (fun _ M => if underP M (12 * 1 + r) then passC M 1 else M) n (copyC M 1 0)
theorem arrN_s {M : zM} {r n : Nat} (h : underP (arrN M r n) (12 * 1 + r)) : arrN M r (n + 1) = passC (arrN M r n) 1 := by
  show (if underP (arrN M r n) (12 * 1 + r) then passC (arrN M r n) 1 else arrN M r n) = _
  rw [if_pos h]
theorem arrN_stop {M : zM} {r n : Nat} (h : ¬ underP (arrN M r n) (12 * 1 + r)) (k : Nat) : arrN M r (n + k) = arrN M r n := by
  induction k with
  | zero => rfl
  | succ k ih =>
    show (if underP (arrN M r (n + k)) (12 * 1 + r) then passC (arrN M r (n + k)) 1 else arrN M r (n + k)) = _
    rw [ih, if_neg h]
theorem arrN_fr {M : zM} {r n f : Nat} (h : ¬ (f = 12 ∨ f = 15 ∨ f = 16 ∨ f = 17 ∨ f = 18 ∨ f = 19)) : arrN M r n f = M f := by
  rw [arrN, zit_fr (fun j M => ?_) n, copyC_fr h]
  split
  · exact passC_fr h
  · rfl
theorem arrN_wt {T U : Int} {M : zM} (h : WTC T U M) {r : Nat} (n : Nat) (hT : T + n ≤ 1000000) (hU : U + 48 * n ≤ 100000000) : WTC (T + n) (U + 48 * n) (arrN M r n) := by
  induction n with
  | zero => simpa [arrN, zit] using copyC_wt h
  | succ n ih =>
    have h1 := ih (by omega) (by omega)
    have hh := h1.2.2
    show WTC _ _ (if underP (arrN M r n) (12 * 1 + r) then passC (arrN M r n) 1 else arrN M r n)
    split
    · have := passC_wt (t := 1) h1 (by omega) (by omega)
      rw [show U + 48 * ((n + 1 : Nat) : Int) = U + 48 * n + 48 by omega, show T + ((n + 1 : Nat) : Int) = T + n + 1 by omega]
      exact this
    · exact h1.mono (by omega) (by omega) (by omega) (by omega)
def kAdv (n : Int) : Nat := if 1 ≤ n ∧ n ≤ 30 then 0 else 1
def advS (n : Int) (i : Nat) (s : zM × (Int × Int)) : zM × (Int × Int) :=
  if s.1 17 (12 * 0 + i) 0 + s.1 17 (12 * 0 + i) 1 < 3 then (if s.2.1 < oneMoreR s.1 i n then (oneMore s.1 i n, (oneMoreR s.1 i n, (i : Int))) else (oneMore s.1 i n, s.2)) else s
def adv0 (M : zM) (n : Int) : zM × (Int × Int) := (passN (copyC M 1 0) 1 n.toNat, (ridersC (passN (copyC M 1 0) 1 n.toNat) 1 2 - ridersC (copyC M 1 0) 1 2, -1))
def advN (M : zM) (n : Int) (j : Nat) : zM × (Int × Int) := zit (advS n) j (adv0 M n)
theorem ridersC_bd {T U : Int} {M : zM} (h : WTC T U M) (t : Nat) (st : Int) : 0 ≤ ridersC M t st ∧ ridersC M t st ≤ 12 := by
  have h6 : 0 ≤ M 1 0 6 ∧ M 1 0 6 ≤ 12 := h.1 1 0 6
  have := zcnt_le (fun j => M 16 (12 * t + j) 0 = st) (M 1 0 6).toNat
  simp only [ridersC]; omega
theorem oneMore_wt {T U : Int} {M : zM} (h : WTC T U M) {n mi : Int} (hn : 0 ≤ n ∧ n < M 1 0 5) (hs : M 17 (12 * 0 + n.toNat) 0 + M 17 (12 * 0 + n.toNat) 1 < 3) (hm : 1 ≤ mi ∧ mi ≤ 30) (hT : T + 30 ≤ 1000000) (hU : U + 1440 ≤ 100000000) : WTC (T + 30) (U + 1440) (oneMore M n mi) := by
  have hh := h.2.2
  exact (passN_wt (t := 1) (oneMore0_wt h hn hs) mi.toNat (by omega) (by omega)).mono (by omega) (by omega) (by omega) (by omega)
theorem oneMoreR_bd {T U : Int} {M : zM} (h : WTC T U M) {n mi : Int} (hn : 0 ≤ n ∧ n < M 1 0 5) (hs : M 17 (12 * 0 + n.toNat) 0 + M 17 (12 * 0 + n.toNat) 1 < 3) (hm : 1 ≤ mi ∧ mi ≤ 30) (hT : T + 30 ≤ 1000000) (hU : U + 1440 ≤ 100000000) : -12 ≤ oneMoreR M n mi ∧ oneMoreR M n mi ≤ 12 := by
  have h1 := ridersC_bd (oneMore_wt h hn hs hm hT hU) 1 2
  have h2 := ridersC_bd (oneMore0_wt h hn hs) 1 2
  simp only [oneMoreR]; omega
theorem adv_inv {T U : Int} {M : zM} (h : WTC T U M) {n : Int} (hn : 1 ≤ n ∧ n ≤ 30) (hT : T + 400 ≤ 1000000) (hU : U + 20000 ≤ 100000000) (j : Nat) (hj : j ≤ (M 1 0 5).toNat) :
    WTC (T + 30 * (j + 1)) (U + 1440 * (j + 1)) (advN M n j).1 ∧ (advN M n j).1 1 0 5 = M 1 0 5 ∧ (-12 ≤ (advN M n j).2.1 ∧ (advN M n j).2.1 ≤ 12) ∧ (-1 ≤ (advN M n j).2.2 ∧ (advN M n j).2.2 ≤ 11) := by
  have hh := h.2.2
  have h5 : 0 ≤ M 1 0 5 ∧ M 1 0 5 ≤ 12 := h.1 1 0 5
  induction j with
  | zero =>
    have h1 := (passN_wt (t := 1) (copyC_wt (t := 1) (o := 0) h) n.toNat (by omega) (by omega)).mono (T' := T + 30 * (((0 : Nat) : Int) + 1)) (U' := U + 1440 * (((0 : Nat) : Int) + 1)) (by omega) (by omega) (by omega) (by omega)
    have h2 := ridersC_bd h1 1 2
    have h3 := ridersC_bd (copyC_wt (t := 1) (o := 0) h) 1 2
    refine ⟨h1, ?_, ?_, ?_⟩
    · show passN (copyC M 1 0) 1 n.toNat 1 0 5 = _
      rw [passN_fr (by decide), copyC_fr (by decide)]
    · show -12 ≤ ridersC (passN (copyC M 1 0) 1 n.toNat) 1 2 - ridersC (copyC M 1 0) 1 2 ∧ ridersC (passN (copyC M 1 0) 1 n.toNat) 1 2 - ridersC (copyC M 1 0) 1 2 ≤ 12
      omega
    · exact ⟨show (-1 : Int) ≤ -1 by decide, show (-1 : Int) ≤ 11 by decide⟩
  | succ j ih =>
    obtain ⟨i1, i2, i3, i4⟩ := ih (by omega)
    have e : advN M n (j + 1) = advS n j (advN M n j) := rfl
    rw [e]
    simp only [advS]
    split
    · rename_i hs
      have hs' : (advN M n j).1 17 (12 * 0 + ((j : Int)).toNat) 0 + (advN M n j).1 17 (12 * 0 + ((j : Int)).toNat) 1 < 3 := hs
      have w1 := (oneMore_wt i1 (n := (j : Int)) (mi := n) ⟨by omega, by omega⟩ hs' hn (by omega) (by omega)).mono (T' := T + 30 * (((j + 1 : Nat) : Int) + 1)) (U' := U + 1440 * (((j + 1 : Nat) : Int) + 1)) (by omega) (by omega) (by omega) (by omega)
      have w2 := oneMoreR_bd i1 (n := (j : Int)) (mi := n) ⟨by omega, by omega⟩ hs' hn (by omega) (by omega)
      have w3 : oneMore (advN M n j).1 (j : Int) n 1 0 5 = M 1 0 5 := by rw [oneMore_fr (by decide), i2]
      split
      · exact ⟨w1, w3, w2, ⟨by show -1 ≤ (j : Int); omega, by show (j : Int) ≤ 11; omega⟩⟩
      · exact ⟨w1, w3, i3, i4⟩
    · exact ⟨i1.mono (by omega) (by omega) (by omega) (by omega), i2, i3, i4⟩
