/-! the second memory (a ghost here) and what steps of it do: pure rows, begun from those of the whole claim -/
def inM (T U : Int) (f k : Nat) (v : Int) : Prop := match f, k with
  | 0, 0 => 0 ≤ v ∧ v ≤ 3
  | 0, 1 => 0 ≤ v ∧ v ≤ 8
  | 0, 5 => 0 ≤ v ∧ v ≤ 12
  | 0, 10 => 0 ≤ v ∧ v ≤ 12
  | 1, _ => 0 ≤ v ∧ v ≤ 40
  | 2, _ => 0 ≤ v ∧ v ≤ 40
  | 3, _ => 0 ≤ v ∧ v ≤ 60
  | 4, _ => 0 ≤ v ∧ v ≤ 7
  | 5, _ => 0 ≤ v ∧ v ≤ 7
  | 6, _ => 0 ≤ v ∧ v ≤ 150
  | 7, _ => 0 ≤ v ∧ v ≤ 9
  | 8, _ => 0 ≤ v ∧ v ≤ 120
  | 9, _ => 0 ≤ v ∧ v ≤ 60
  | 10, _ => 0 ≤ v ∧ v ≤ 7
  | 11, 0 => 0 ≤ v ∧ v ≤ T
  | 12, _ => 0 ≤ v ∧ v ≤ 3
  | 13, _ => 0 ≤ v ∧ v ≤ 3
  | 14, _ => -1 ≤ v ∧ v ≤ 11
  | 15, _ => -(1000 + U) ≤ v ∧ v ≤ 1000
  | 18, _ => 0 ≤ v ∧ v ≤ 12
  | 19, _ => 0 ≤ v ∧ v ≤ 11
  | 20, _ => 0 ≤ v ∧ v ≤ 3
  | 21, _ => 0 ≤ v ∧ v ≤ 11
  | 22, _ => -(1000 + U) ≤ v ∧ v ≤ 1000 + U
  | _, _ => True
def WTM (T U : Int) (M : zM) : Prop := (∀ f i k, inM T U f k (M f i k)) ∧ (∀ l : Nat, (l : Int) < M 0 0 5 → M 3 0 (M 5 0 l).toNat < M 3 0 (M 4 0 l).toNat) ∧ (0 ≤ T ∧ T ≤ 1000000) ∧ (0 ≤ U ∧ U ≤ 100000000)
def lenM (M : zM) (l : Int) : Int := absC (M 1 0 (M 4 0 l.toNat).toNat - M 1 0 (M 5 0 l.toNat).toNat) + absC (M 2 0 (M 4 0 l.toNat).toNat - M 2 0 (M 5 0 l.toNat).toNat)
def dropM (M : zM) (l : Int) : Int := M 3 0 (M 4 0 l.toNat).toNat - M 3 0 (M 5 0 l.toNat).toNat
theorem lenM_bd {T U : Int} {M : zM} (h : WTM T U M) (l : Int) : 0 ≤ lenM M l ∧ lenM M l ≤ 80 := by
  have h1 := absC_bd (h.1 1 0 (M 4 0 l.toNat).toNat) (h.1 1 0 (M 5 0 l.toNat).toNat)
  have h2 := absC_bd (h.1 2 0 (M 4 0 l.toNat).toNat) (h.1 2 0 (M 5 0 l.toNat).toNat)
  simp only [lenM]; omega
theorem dropM_bd {T U : Int} {M : zM} (h : WTM T U M) {l : Int} (hl : 0 ≤ l ∧ l < M 0 0 5) : 0 < dropM M l ∧ dropM M l ≤ 60 := by
  have h1 : 0 ≤ M 3 0 (M 5 0 l.toNat).toNat ∧ M 3 0 (M 5 0 l.toNat).toNat ≤ 60 := h.1 3 0 _
  have h2 : 0 ≤ M 3 0 (M 4 0 l.toNat).toNat ∧ M 3 0 (M 4 0 l.toNat).toNat ≤ 60 := h.1 3 0 _
  have h3 := h.2.1 l.toNat (by omega)
  simp only [dropM]; omega
abbrev closedM (M : zM) (l mi : Int) : Prop := 80 - 8 * M 7 0 (mi % 12).toNat < lenM M l
def rideM (M : zM) (l w : Int) : Int := if w * dropM M l < 10 * lenM M l then -2 * ((2 * lenM M l + (dropM M l + w / 10) - 1) / (dropM M l + w / 10)) else (2 * lenM M l + (dropM M l + w / 10) - 1) / (dropM M l + w / 10)
def manyM (M : zM) (u : Nat) (sx : Int) : Int := zcnt (fun j => M 20 u j = sx) (M 0 0 10).toNat
def ridingM (M : zM) (u : Nat) (l : Int) : Int := zcnt (fun j => M 14 u (3 * l.toNat + j) ≠ -1) (M 13 u l.toNat).toNat
abbrev leftP (M : zM) (u : Nat) (r : Int) (k : Nat) : Prop := ((k % 3 : Nat) : Int) < M 13 u (k / 3) ∧ M 14 u k = r
def leftM (M : zM) (u : Nat) (r : Int) : Int := if zfst (leftP M u r) 36 < 36 then M 15 u (zfst (leftP M u r) 36) else 0
def fewN (M : zM) (to w : Int) : Nat → Int → Int
  | 0, _ => -1
  | d + 1, a => if a = to then 0 else zit (fun l best => if M 4 0 l = a ∧ w ≤ M 6 0 l then (if fewN M to w d (M 5 0 l) ≠ -1 ∧ (best = -1 ∨ fewN M to w d (M 5 0 l) + 1 < best) then fewN M to w d (M 5 0 l) + 1 else best) else best) (M 0 0 5).toNat (-1)
def fewS (M : zM) (to w : Int) (d : Nat) (a : Int) (l : Nat) (best : Int) : Int := if M 4 0 l = a ∧ w ≤ M 6 0 l then (if fewN M to w d (M 5 0 l) ≠ -1 ∧ (best = -1 ∨ fewN M to w d (M 5 0 l) + 1 < best) then fewN M to w d (M 5 0 l) + 1 else best) else best
def fewI (M : zM) (to w : Int) (d : Nat) (a : Int) (n : Nat) : Int := zit (fewS M to w d a) n (-1)
theorem fewN_s {M : zM} {to w : Int} {d : Nat} {a : Int} : fewN M to w (d + 1) a = if a = to then 0 else fewI M to w d a (M 0 0 5).toNat := rfl
theorem fewI_s {M : zM} {to w : Int} {d : Nat} {a : Int} {n : Nat} : fewI M to w d a (n + 1) = fewS M to w d a n (fewI M to w d a n) := rfl
theorem fewN_bd {M : zM} {to w : Int} {d : Nat} : ∀ a, -1 ≤ fewN M to w d a ∧ fewN M to w d a ≤ d := by
  induction d with
  | zero => intro a; exact ⟨by simp [fewN], by simp [fewN]⟩
  | succ d ih =>
    intro a
    rw [fewN_s]
    split
    · omega
    · have : ∀ n, -1 ≤ fewI M to w d a n ∧ fewI M to w d a n ≤ d + 1 := by
        intro n
        induction n with
        | zero => exact ⟨by simp [fewI, zit], by simp [fewI, zit]; omega⟩
        | succ n ihn =>
          rw [fewI_s, fewS]
          have := ih (M 5 0 n)
          split
          · split <;> omega
          · exact ihn
      have := this (M 0 0 5).toNat
      omega
def fewM (M : zM) (a to w : Int) : Int := fewN M to w 61 a
abbrev firstP (M : zM) (a to w : Int) (l : Nat) : Prop := M 4 0 l = a ∧ w ≤ M 6 0 l ∧ fewM M (M 5 0 l) to w = fewM M a to w - 1
def firstM (M : zM) (a to w : Int) : Int := if 0 < fewM M a to w ∧ zfst (firstP M a to w) (M 0 0 5).toNat < (M 0 0 5).toNat then (zfst (firstP M a to w) (M 0 0 5).toNat : Int) else -1
def zcp (M : zM) (f i g j n : Nat) : zM := fun f' i' k => if f' = g ∧ i' = j ∧ k < n then M f i k else M f' i' k
theorem zcp_off {M : zM} {f i g j n f' i' : Nat} (h : ¬ (f' = g ∧ i' = j)) : zcp M f i g j n f' i' = M f' i' := by
  funext k; simp only [zcp]; rw [if_neg (fun q => h ⟨q.1, q.2.1⟩)]
def becomeM (M : zM) (u v : Nat) : zM := zcp (zcp (zcp (zcp (zcp (zcp (zcp (zcp (zcp (zcp (zcp (zcp (zcp (zup M 11 u 0 (M 11 v 0)) 12 v 12 u 12) 13 v 13 u 12) 14 v 14 u 36) 15 v 15 u 36) 16 v 16 u 12) 17 v 17 u 12) 18 v 18 u 8) 19 v 19 u 96) 20 v 20 u 12) 21 v 21 u 12) 22 v 22 u 12) 23 v 23 u 12) 24 v 24 u 12
def comeM (M : zM) (u : Nat) (r q : Int) : zM := if q = M 10 0 r.toNat then zup (zup (zup (zup M 21 u r.toNat q) 22 u r.toNat 0) 20 u r.toNat 2) 24 u r.toNat (M 11 u 0) else zup (zup (zup (zup (zup M 21 u r.toNat q) 22 u r.toNat 0) 20 u r.toNat 0) 19 u (12 * q + M 18 u q.toNat).toNat r) 18 u q.toNat (M 18 u q.toNat + 1)
def shM (M : zM) (u a b : Nat) : zM := fun f i k => if f = 19 ∧ i = u ∧ a ≤ k ∧ k < b then M 19 u (k + 1) else M f i k
theorem shM_fr {M : zM} {u a b f : Nat} (h : f ≠ 19) (i k : Nat) : shM M u a b f i k = M f i k := by
  simp only [shM]; rw [if_neg (fun q => h q.1)]
def strikeM (M : zM) (u : Nat) (r : Int) (w : Nat) : zM := shM (zup M 18 u (M 21 u r.toNat).toNat (M 18 u (M 21 u r.toNat).toNat - 1)) u (12 * (M 21 u r.toNat).toNat + w) ((12 * M 21 u r.toNat + M 18 u (M 21 u r.toNat).toNat - 1).toNat)
theorem WTM.up {T U : Int} {M : zM} (h : WTM T U M) {f i k : Nat} {v : Int} (hf : 6 ≤ f) (hv : inM T U f k v) : WTM T U (zup M f i k v) := by
  refine ⟨fun f' i' k' => ?_, ?_, h.2.2⟩
  · simp only [zup]
    split
    · rename_i z
      obtain ⟨rfl, rfl, rfl⟩ := z
      exact hv
    · exact h.1 f' i' k'
  · rw [zup_fr (show 0 ≠ f by omega), zup_fr (show 3 ≠ f by omega), zup_fr (show 4 ≠ f by omega), zup_fr (show 5 ≠ f by omega)]
    exact h.2.1
theorem WTM.sh {T U : Int} {M : zM} (h : WTM T U M) {u a b : Nat} : WTM T U (shM M u a b) := by
  refine ⟨fun f' i' k' => ?_, ?_, h.2.2⟩
  · simp only [shM]
    split
    · rename_i z
      obtain ⟨rfl, rfl, z⟩ := z
      have := h.1 19 i' (k' + 1)
      exact this
    · exact h.1 f' i' k'
  · simp only [shM_fr (show 0 ≠ 19 by decide), shM_fr (show 3 ≠ 19 by decide), shM_fr (show 4 ≠ 19 by decide), shM_fr (show 5 ≠ 19 by decide)]
    exact h.2.1
theorem strikeM_wt {T U : Int} {M : zM} (h : WTM T U M) {u : Nat} {r : Int} {w : Nat} (hs : 1 ≤ M 18 u (M 21 u r.toNat).toNat) : WTM T U (strikeM M u r w) := by
  have hb : 0 ≤ M 18 u (M 21 u r.toNat).toNat ∧ M 18 u (M 21 u r.toNat).toNat ≤ 12 := h.1 18 u _
  exact (h.up (f := 18) (by decide) ⟨by omega, by omega⟩).sh
theorem strikeM_fr {M : zM} {u : Nat} {r : Int} {w f : Nat} (h : f ≠ 18 ∧ f ≠ 19) : strikeM M u r w f = M f := by
  funext i k
  rw [strikeM, shM_fr h.2, zup_fr h.1]
theorem rideM_bd {T U : Int} {M : zM} (h : WTM T U M) {q w : Int} (hq : 0 ≤ q ∧ q < M 0 0 5) (hw : 20 ≤ w ∧ w ≤ 120) : -500 ≤ rideM M q w ∧ rideM M q w ≤ 500 := by
  have hlb := lenM_bd h q
  have hdb := dropM_bd h hq
  have h1 : 0 ≤ (2 * lenM M q + (dropM M q + w / 10) - 1) / (dropM M q + w / 10) := Int.ediv_nonneg (by omega) (by omega)
  have h2 : (2 * lenM M q + (dropM M q + w / 10) - 1) / (dropM M q + w / 10) ≤ 240 := by
    have := Int.ediv_le_self (a := 2 * lenM M q + (dropM M q + w / 10) - 1) (dropM M q + w / 10) (by omega)
    omega
  simp only [rideM]
  split <;> omega
abbrev bgP (M : zM) (u : Nat) (q : Int) (k : Nat) : Prop := firstM M (M 4 0 q.toNat) (M 10 0 (M 19 u (12 * (M 4 0 q.toNat).toNat + k)).toNat) (M 8 0 (M 19 u (12 * (M 4 0 q.toNat).toNat + k)).toNat) = q
def seatM1 (M : zM) (u : Nat) (q r : Int) (w : Nat) : zM := zup (zup (zup (zup (strikeM M u r w) 20 u r.toNat 1) 21 u r.toNat q) 23 u r.toNat (M 23 u r.toNat + 1)) 14 u (3 * q + M 13 u q.toNat).toNat r
def seatM (M : zM) (u : Nat) (q r : Int) (w : Nat) : zM := zup (zup (zup (zup (seatM1 M u q r w) 15 u (3 * q + M 13 u q.toNat).toNat (absC (rideM M q (M 8 0 r.toNat)))) 13 u q.toNat (M 13 u q.toNat + 1)) 16 u q.toNat (M 16 u q.toNat + 1)) 17 u q.toNat (M 17 u q.toNat + (if rideM M q (M 8 0 r.toNat) < 0 then 1 else 0))
def beginM (M : zM) (u : Nat) (q : Int) : zM := if zfst (bgP M u q) (M 18 u (M 4 0 q.toNat).toNat).toNat < (M 18 u (M 4 0 q.toNat).toNat).toNat then seatM M u q (M 19 u (12 * (M 4 0 q.toNat).toNat + zfst (bgP M u q) (M 18 u (M 4 0 q.toNat).toNat).toNat)) (zfst (bgP M u q) (M 18 u (M 4 0 q.toNat).toNat).toNat) else M
theorem comeM_wt {T U : Int} {M : zM} (h : WTM T U M) {u : Nat} {r q : Int} (hr : 0 ≤ r ∧ r ≤ 11) (hq : 0 ≤ q ∧ q ≤ 7) (hs : M 18 u q.toNat ≤ 11) : WTM T U (comeM M u r q) := by
  have h18 : 0 ≤ M 18 u q.toNat ∧ M 18 u q.toNat ≤ 12 := h.1 18 u _
  have hU := h.2.2.2
  have b := (h.up (f := 21) (i := u) (k := r.toNat) (v := q) (by decide) ⟨by omega, by omega⟩).up (f := 22) (i := u) (k := r.toNat) (v := 0) (by decide) ⟨by omega, by omega⟩
  unfold comeM
  split
  · exact (b.up (f := 20) (by decide) ⟨by omega, by omega⟩).up (f := 24) (by decide) trivial
  · exact ((b.up (f := 20) (by decide) ⟨by omega, by omega⟩).up (f := 19) (by decide) ⟨by omega, by omega⟩).up (f := 18) (by decide) ⟨by omega, by omega⟩
theorem seatM_wt {T U : Int} {M : zM} (h : WTM T U M) {u : Nat} {q r : Int} {w : Nat} (hr : 0 ≤ r ∧ r ≤ 11) (hq : 0 ≤ q ∧ q < M 0 0 5) (hs : 1 ≤ M 18 u (M 21 u r.toNat).toNat) (ho : M 13 u q.toNat ≤ 2) (hw : 20 ≤ M 8 0 r.toNat ∧ M 8 0 r.toNat ≤ 120) : WTM T U (seatM M u q r w) := by
  have hU := h.2.2.2
  have hlc : 0 ≤ M 0 0 5 ∧ M 0 0 5 ≤ 12 := h.1 0 0 5
  have h13 : 0 ≤ M 13 u q.toNat ∧ M 13 u q.toNat ≤ 3 := h.1 13 u _
  have hrb := rideM_bd h hq hw
  have hab : 0 ≤ absC (rideM M q (M 8 0 r.toNat)) ∧ absC (rideM M q (M 8 0 r.toNat)) ≤ 500 := by simp only [absC]; split <;> omega
  have b := ((((strikeM_wt (r := r) (w := w) h hs).up (f := 20) (i := u) (k := r.toNat) (v := 1) (by decide) ⟨by omega, by omega⟩).up (f := 21) (i := u) (k := r.toNat) (v := q) (by decide) ⟨by omega, by omega⟩).up (f := 23) (i := u) (k := r.toNat) (v := M 23 u r.toNat + 1) (by decide) trivial).up (f := 14) (i := u) (k := (3 * q + M 13 u q.toNat).toNat) (v := r) (by decide) ⟨by omega, by omega⟩
  exact (((b.up (f := 15) (by decide) ⟨by omega, by omega⟩).up (f := 13) (by decide) ⟨by omega, by omega⟩).up (f := 16) (by decide) trivial).up (f := 17) (by decide) trivial
theorem WTM.thr {T U : Int} {M : zM} (h : WTM T U M) {v : Int} (hv : 0 ≤ v ∧ v ≤ 3) : WTM T U (zup M 0 0 0 v) := by
  refine ⟨fun f' i' k' => ?_, ?_, h.2.2⟩
  · simp only [zup]
    split
    · rename_i z
      obtain ⟨rfl, rfl, rfl⟩ := z
      exact hv
    · exact h.1 f' i' k'
  · intro x hx
    have e : zup M 0 0 0 v 0 0 5 = M 0 0 5 := by simp [zup]
    rw [e] at hx
    rw [zup_fr (show 3 ≠ 0 by decide), zup_fr (show 4 ≠ 0 by decide), zup_fr (show 5 ≠ 0 by decide)]
    exact h.2.1 x hx
def kWindM (di w : Int) : Int := if 0 ≤ di ∧ di ≤ 11 then (if 0 ≤ w ∧ w ≤ 9 then 0 else 2) else 1
def thM (M : zM) (k : Int) : zM := zup (zup M 0 0 0 0) 0 0 0 k
def windM (M : zM) (di w : Int) : zM := if kWindM di w = 0 then zup (zup M 0 0 0 0) 7 0 di.toNat w else thM M (kWindM di w)
def windR (M : zM) (di w : Int) : Int := if kWindM di w = 0 then M 7 0 di.toNat else 0
def kRideM (M : zM) (q w : Int) : Int := if 0 ≤ q ∧ q ≤ M 0 0 5 - 1 then (if 20 ≤ w ∧ w ≤ 120 then 0 else 2) else 1
def rideFM (M : zM) (q w : Int) : zM := if kRideM M q w = 0 then zup M 0 0 0 0 else thM M (kRideM M q w)
def rideFR (M : zM) (q w : Int) : Int := if kRideM M q w = 0 then (if M 6 0 q.toNat < w then 0 else rideM (zup M 0 0 0 0) q w) else 0
def kSpanM (M : zM) (t b mo tr : Int) : Int := if (0 ≤ t ∧ t ≤ M 0 0 1 - 1) ∧ (0 ≤ b ∧ b ≤ M 0 0 1 - 1) then (if M 3 0 b.toNat < M 3 0 t.toNat ∧ (20 ≤ mo ∧ mo ≤ 150) ∧ (1 ≤ tr ∧ tr ≤ 3) then (if M 0 0 5 = 12 then 3 else 0) else 2) else 1
def spanM (M : zM) (t b mo tr : Int) : zM := if kSpanM M t b mo tr = 0 then zup (zup (zup (zup (zup (zup M 0 0 0 0) 4 0 (M 0 0 5).toNat t) 5 0 (M 0 0 5).toNat b) 6 0 (M 0 0 5).toNat mo) 12 0 (M 0 0 5).toNat tr) 0 0 5 (M 0 0 5 + 1) else thM M (kSpanM M t b mo tr)
def spanR (M : zM) (t b mo tr : Int) : Int := if kSpanM M t b mo tr = 0 then M 0 0 5 else 0
def kQueueM (M : zM) (n x : Int) : Int := if (0 ≤ n ∧ n ≤ M 0 0 1 - 1) ∧ (0 ≤ x ∧ x ≤ M 18 0 n.toNat - 1) then 0 else 1
def queueFM (M : zM) (n x : Int) : zM := if kQueueM M n x = 0 then zup M 0 0 0 0 else thM M (kQueueM M n x)
def queueFR (M : zM) (n x : Int) : Int := if kQueueM M n x = 0 then M 19 0 (12 * n + x).toNat else 0
def bOk (M : zM) (x9 y9 : Int) : Nat → Int
  | 0 => if M 0 0 1 < 8 then 1 else 0
  | j + 1 => if bOk M x9 y9 j ≠ 0 ∧ (M 1 0 j ≠ x9 ∨ M 2 0 j ≠ y9) then 1 else 0
def kBuildM (M : zM) (x9 y9 h9 : Int) : Int := if (0 ≤ x9 ∧ x9 ≤ 40) ∧ (0 ≤ y9 ∧ y9 ≤ 40) ∧ (0 ≤ h9 ∧ h9 ≤ 60) then (if bOk M x9 y9 (M 0 0 1).toNat ≠ 0 then 0 else 2) else 1
def buildM (M : zM) (x9 y9 h9 : Int) : zM := if kBuildM M x9 y9 h9 = 0 then zup (zup (zup (zup (zup M 0 0 0 0) 1 0 (M 0 0 1).toNat x9) 2 0 (M 0 0 1).toNat y9) 3 0 (M 0 0 1).toNat h9) 0 0 1 (M 0 0 1 + 1) else thM M (kBuildM M x9 y9 h9)
def buildR (M : zM) (x9 y9 h9 : Int) : Int := if kBuildM M x9 y9 h9 = 0 then M 0 0 1 else 0
theorem WTM.rc {T U : Int} {M : zM} (h : WTM T U M) {v : Int} (hv : 0 ≤ v ∧ v ≤ 12) : WTM T U (zup M 0 0 10 v) := by
  refine ⟨fun f' i' k' => ?_, ?_, h.2.2⟩
  · simp only [zup]
    split
    · rename_i z
      obtain ⟨rfl, rfl, rfl⟩ := z
      exact hv
    · exact h.1 f' i' k'
  · intro x hx
    have e : zup M 0 0 10 v 0 0 5 = M 0 0 5 := by simp [zup]
    rw [e] at hx
    rw [zup_fr (show 3 ≠ 0 by decide), zup_fr (show 4 ≠ 0 by decide), zup_fr (show 5 ≠ 0 by decide)]
    exact h.2.1 x hx
def kAddM (M : zM) (q : Int) : Int := if 0 ≤ q ∧ q ≤ M 0 0 5 - 1 then (if M 12 0 q.toNat = 3 then 2 else 0) else 1
def addM (M : zM) (q : Int) : zM := if kAddM M q = 0 then zup (zup M 0 0 0 0) 12 0 q.toNat (M 12 0 q.toNat + 1) else thM M (kAddM M q)
def addR (M : zM) (q : Int) : Int := if kAddM M q = 0 then M 12 0 q.toNat + 1 else 0
def kWayM (M : zM) (a to w : Int) : Int := if (0 ≤ a ∧ a ≤ M 0 0 1 - 1) ∧ (0 ≤ to ∧ to ≤ M 0 0 1 - 1) then (if 20 ≤ w ∧ w ≤ 120 then 0 else 2) else 1
def wayM (M : zM) (a to w : Int) : zM := if kWayM M a to w = 0 then zup M 0 0 0 0 else thM M (kWayM M a to w)
def wayR (M : zM) (a to w : Int) : Int := if kWayM M a to w = 0 then fewN (zup M 0 0 0 0) to w 61 a else 0
def kComeM (M : zM) (t g9 w pt : Int) : Int := if (0 ≤ t ∧ t ≤ M 0 0 1 - 1) ∧ (0 ≤ g9 ∧ g9 ≤ M 0 0 1 - 1) then (if (20 ≤ w ∧ w ≤ 120) ∧ (1 ≤ pt ∧ pt ≤ 60) then (if M 0 0 10 = 12 then 3 else 0) else 2) else 1
def comeFM0 (M : zM) (g9 w pt : Int) : zM := zup (zup (zup (zup (zup (zup M 0 0 0 0) 8 0 (M 0 0 10).toNat w) 9 0 (M 0 0 10).toNat pt) 10 0 (M 0 0 10).toNat g9) 24 0 (M 0 0 10).toNat (-1)) 0 0 10 (M 0 0 10 + 1)
def comeFM (M : zM) (t g9 w pt : Int) : zM := if kComeM M t g9 w pt = 0 then comeM (comeFM0 M g9 w pt) 0 (M 0 0 10 + 1 - 1) t else thM M (kComeM M t g9 w pt)
def comeFR (M : zM) (t g9 w pt : Int) : Int := if kComeM M t g9 w pt = 0 then M 0 0 10 else 0
theorem comeM_fr {M : zM} {u : Nat} {r q : Int} {f : Nat} (h : f ≠ 18 ∧ f ≠ 19 ∧ f ≠ 20 ∧ f ≠ 21 ∧ f ≠ 22 ∧ f ≠ 24) : comeM M u r q f = M f := by
  unfold comeM
  split <;> (funext i k; simp [zup, h])
theorem inM_mono {T U T' U' : Int} (hT : T ≤ T') (hU : U ≤ U') {f k : Nat} {v : Int} (h : inM T U f k v) : inM T' U' f k v := by
  unfold inM at *
  split <;> simp only [] at h ⊢ <;> omega
theorem WTM.mono {T U T' U' : Int} {M : zM} (h : WTM T U M) (hT : T ≤ T') (hU : U ≤ U') (hT2 : T' ≤ 1000000) (hU2 : U' ≤ 100000000) : WTM T' U' M := by
  have := h.2.2
  exact ⟨fun f i k => inM_mono hT hU (h.1 f i k), h.2.1, ⟨by omega, hT2⟩, ⟨by omega, hU2⟩⟩
theorem lenM_eq {M M' : zM} {q : Int} (h : ∀ f, f < 8 → M' f = M f) : lenM M' q = lenM M q := by
  unfold lenM; rw [h 1 (by decide), h 2 (by decide), h 4 (by decide), h 5 (by decide)]
theorem fewN_eq {M M' : zM} (h0 : M' 0 0 5 = M 0 0 5) (h : ∀ f, 4 ≤ f → f < 7 → M' f = M f) (to w : Int) (d : Nat) (a : Int) : fewN M' to w d a = fewN M to w d a := by
  induction d generalizing a with
  | zero => rfl
  | succ d ih =>
    rw [fewN_s, fewN_s, h0]
    have e : ∀ n, fewI M' to w d a n = fewI M to w d a n := by
      intro n
      induction n with
      | zero => rfl
      | succ n ihn =>
        rw [fewI_s, fewI_s, ihn, fewS, fewS, h 4 (by decide) (by decide), h 5 (by decide) (by decide), h 6 (by decide) (by decide), ih]
    rw [e]
theorem zfst_congr {P Q : Nat → Prop} [DecidablePred P] [DecidablePred Q] {n : Nat} (h : ∀ k, k < n → (P k ↔ Q k)) : zfst P n = zfst Q n := by
  induction n with
  | zero => rfl
  | succ n ih =>
    have i := ih (fun k hk => h k (by omega))
    simp only [zfst, i]
    by_cases q : P n
    · rw [if_pos q, if_pos ((h n (by omega)).mp q)]
    · rw [if_neg q, if_neg (fun z => q ((h n (by omega)).mpr z))]
theorem zcnt_congr {P Q : Nat → Prop} [DecidablePred P] [DecidablePred Q] {n : Nat} (h : ∀ k, k < n → (P k ↔ Q k)) : zcnt P n = zcnt Q n := by
  induction n with
  | zero => rfl
  | succ n ih =>
    have i := ih (fun k hk => h k (by omega))
    simp only [zcnt, i]
    by_cases q : P n
    · rw [if_pos q, if_pos ((h n (by omega)).mp q)]
    · rw [if_neg q, if_neg (fun z => q ((h n (by omega)).mpr z))]
theorem firstM_eq {M M' : zM} (h0 : M' 0 0 5 = M 0 0 5) (h : ∀ f, 4 ≤ f → f < 7 → M' f = M f) (a to w : Int) : firstM M' a to w = firstM M a to w := by
  have e0 : zfst (firstP M' a to w) (M' 0 0 5).toNat = zfst (firstP M a to w) (M' 0 0 5).toNat := zfst_congr (fun k _ => by
    simp only [firstP, fewM, h 4 (by decide) (by decide), h 5 (by decide) (by decide), h 6 (by decide) (by decide), fewN_eq h0 h])
  have e : zfst (firstP M' a to w) (M' 0 0 5).toNat = zfst (firstP M a to w) (M 0 0 5).toNat := e0.trans (by rw [h0])
  have e2 : fewM M' a to w = fewM M a to w := fewN_eq h0 h _ _ _ _
  have e3 : (M' 0 0 5).toNat = (M 0 0 5).toNat := by rw [h0]
  by_cases q : 0 < fewM M a to w ∧ zfst (firstP M a to w) (M 0 0 5).toNat < (M 0 0 5).toNat
  · unfold firstM
    rw [if_pos q, if_pos (by omega), e]
  · unfold firstM
    rw [if_neg q, if_neg (by omega)]
def rollS (u : Nat) (q : Int) (k : Nat) (A : zM × Nat) : zM × Nat :=
  if A.1 15 u k - 1 = 0 then
    if A.1 14 u k = -1 then (zup (zup A.1 15 u k (A.1 15 u k - 1)) 13 u q.toNat (A.1 13 u q.toNat - 1), A.2)
    else (zup (zup (zup (zup (comeM (zup A.1 15 u k (A.1 15 u k - 1)) u (A.1 14 u k) (A.1 5 0 q.toNat)) 14 u k (-1)) 15 u k ((lenM A.1 q + 9) / 10)) 14 u A.2 (-1)) 15 u A.2 ((lenM A.1 q + 9) / 10), A.2 + 1)
  else (zup (zup (zup A.1 15 u k (A.1 15 u k - 1)) 14 u A.2 (A.1 14 u k)) 15 u A.2 (A.1 15 u k - 1), A.2 + 1)
def rollI (M : zM) (u : Nat) (q : Int) : Nat → zM × Nat
  | 0 => (M, 3 * q.toNat)
  | j + 1 => rollS u q (3 * q.toNat + j) (rollI M u q j)
def rollM (M : zM) (u : Nat) (q : Int) : zM := (rollI M u q (M 13 u q.toNat).toNat).1
def rollOK (M : zM) (u : Nat) (q : Int) : Prop := ∀ j : Nat, (j : Int) < M 13 u q.toNat → (rollI M u q j).1 15 u (3 * q.toNat + j) - 1 = 0 → (rollI M u q j).1 14 u (3 * q.toNat + j) ≠ -1 → (rollI M u q j).1 18 u ((rollI M u q j).1 5 0 q.toNat).toNat ≤ 11
theorem rollS_fr {u : Nat} {q : Int} {k : Nat} {A : zM × Nat} {f : Nat} (h : ¬ (f = 13 ∨ f = 14 ∨ f = 15 ∨ f = 18 ∨ f = 19 ∨ f = 20 ∨ f = 21 ∨ f = 22 ∨ f = 24)) : (rollS u q k A).1 f = A.1 f := by
  simp only [rollS]
  split
  · split
    · simp only []; rw [zup_fr (by omega), zup_fr (by omega)]
    · simp only []; rw [zup_fr (by omega), zup_fr (by omega), zup_fr (by omega), zup_fr (by omega), comeM_fr (by omega), zup_fr (by omega)]
  · simp only []; rw [zup_fr (by omega), zup_fr (by omega), zup_fr (by omega)]
theorem rollI_fr {M : zM} {u : Nat} {q : Int} {n f : Nat} (h : ¬ (f = 13 ∨ f = 14 ∨ f = 15 ∨ f = 18 ∨ f = 19 ∨ f = 20 ∨ f = 21 ∨ f = 22 ∨ f = 24)) : (rollI M u q n).1 f = M f := by
  induction n with
  | zero => rfl
  | succ n ih => rw [rollI, rollS_fr h, ih]
theorem rollM_fr {M : zM} {u : Nat} {q : Int} {f : Nat} (h : ¬ (f = 13 ∨ f = 14 ∨ f = 15 ∨ f = 18 ∨ f = 19 ∨ f = 20 ∨ f = 21 ∨ f = 22 ∨ f = 24)) : rollM M u q f = M f := rollI_fr h
theorem rollI_out (M : zM) (u : Nat) (q : Int) (n : Nat) : M 13 u q.toNat - n ≤ (rollI M u q n).1 13 u q.toNat ∧ (rollI M u q n).1 13 u q.toNat ≤ M 13 u q.toNat := by
  induction n with
  | zero => simp [rollI]
  | succ n ih =>
    rw [rollI, rollS]
    split
    · split
      · simp only [zup]; simp; omega
      · simp only []; rw [zup_fr (by decide), zup_fr (by decide), zup_fr (by decide), zup_fr (by decide), comeM_fr (by decide), zup_fr (by decide)]; omega
    · simp only []; rw [zup_fr (by decide), zup_fr (by decide), zup_fr (by decide)]; omega
theorem rollS_wt {T U : Int} {u : Nat} {q : Int} {k : Nat} {A : zM × Nat} (h : WTM T U A.1) (hU : U + 1 ≤ 100000000) (ho : 1 ≤ A.1 13 u q.toNat) (hs : A.1 15 u k - 1 = 0 → A.1 14 u k ≠ -1 → A.1 18 u (A.1 5 0 q.toNat).toNat ≤ 11) : WTM T (U + 1) (rollS u q k A).1 := by
  have hh := h.2.2
  have h15 : -(1000 + U) ≤ A.1 15 u k ∧ A.1 15 u k ≤ 1000 := h.1 15 u k
  have h14 : -1 ≤ A.1 14 u k ∧ A.1 14 u k ≤ 11 := h.1 14 u k
  have h13 : 0 ≤ A.1 13 u q.toNat ∧ A.1 13 u q.toNat ≤ 3 := h.1 13 u _
  have h5 : 0 ≤ A.1 5 0 q.toNat ∧ A.1 5 0 q.toNat ≤ 7 := h.1 5 0 _
  have hl := lenM_bd h q
  have h1 : WTM T (U + 1) (zup A.1 15 u k (A.1 15 u k - 1)) := (h.mono (T' := T) (U' := U + 1) (by omega) (by omega) (by omega) (by omega)).up (f := 15) (by decide) (show _ ∧ _ from ⟨by omega, by omega⟩)
  simp only [rollS]
  split
  · rename_i q1
    split
    · exact h1.up (f := 13) (by decide) (show _ ∧ _ from ⟨by omega, by omega⟩)
    · rename_i q2
      refine ((((comeM_wt h1 ⟨by omega, by omega⟩ h5 ?_).up (f := 14) (by decide) (show _ ∧ _ from ⟨by omega, by omega⟩)).up (f := 15) (by decide) (show _ ∧ _ from ⟨by omega, by omega⟩)).up (f := 14) (by decide) (show _ ∧ _ from ⟨by omega, by omega⟩)).up (f := 15) (by decide) (show _ ∧ _ from ⟨by omega, by omega⟩)
      rw [zup_fr (by decide)]
      exact hs q1 q2
  · exact (h1.up (f := 14) (by decide) (show _ ∧ _ from h14)).up (f := 15) (by decide) (show _ ∧ _ from ⟨by omega, by omega⟩)
theorem rollI_wt {T U : Int} {M : zM} (h : WTM T U M) {u : Nat} {q : Int} (hR : rollOK M u q) (n : Nat) (hn : (n : Int) ≤ M 13 u q.toNat) (hU : U + n ≤ 100000000) : WTM T (U + n) (rollI M u q n).1 := by
  induction n with
  | zero => simpa [rollI] using h
  | succ n ih =>
    have ho := rollI_out M u q n
    have := rollS_wt (u := u) (q := q) (k := 3 * q.toNat + n) (ih (by omega) (by omega)) (by omega) (by omega) (hR n (by omega))
    rw [show U + ((n + 1 : Nat) : Int) = U + n + 1 by omega]
    exact this
theorem rollM_wt {T U : Int} {M : zM} (h : WTM T U M) {u : Nat} {q : Int} (hR : rollOK M u q) (hU : U + 3 ≤ 100000000) : WTM T (U + 3) (rollM M u q) := by
  have h13 : 0 ≤ M 13 u q.toNat ∧ M 13 u q.toNat ≤ 3 := h.1 13 u _
  have hh := h.2.2
  exact (rollI_wt h hR (M 13 u q.toNat).toNat (by omega) (by omega)).mono (by omega) (by omega) (by omega) (by omega)
def beginOK (M : zM) (u : Nat) (q : Int) : Prop :=
  (∀ k : Nat, (k : Int) < M 18 u (M 4 0 q.toNat).toNat → M 21 u (M 19 u (12 * (M 4 0 q.toNat).toNat + k)).toNat = M 4 0 q.toNat) ∧
  (∀ k : Nat, (k : Int) < M 18 u (M 4 0 q.toNat).toNat → 20 ≤ M 8 0 (M 19 u (12 * (M 4 0 q.toNat).toNat + k)).toNat ∧ M 8 0 (M 19 u (12 * (M 4 0 q.toNat).toNat + k)).toNat ≤ 120) ∧
  (∀ i k : Nat, i < k → (k : Int) < M 18 u (M 4 0 q.toNat).toNat → M 19 u (12 * (M 4 0 q.toNat).toNat + i) ≠ M 19 u (12 * (M 4 0 q.toNat).toNat + k))
theorem seatM_fr {M : zM} {u : Nat} {q r : Int} {w f : Nat} (h : ¬ (f = 13 ∨ f = 14 ∨ f = 15 ∨ f = 16 ∨ f = 17 ∨ f = 18 ∨ f = 19 ∨ f = 20 ∨ f = 21 ∨ f = 23)) : seatM M u q r w f = M f := by
  rw [seatM, zup_fr (by omega), zup_fr (by omega), zup_fr (by omega), zup_fr (by omega), seatM1, zup_fr (by omega), zup_fr (by omega), zup_fr (by omega), zup_fr (by omega), strikeM_fr (by omega)]
theorem beginM_fr {M : zM} {u : Nat} {q : Int} {f : Nat} (h : ¬ (f = 13 ∨ f = 14 ∨ f = 15 ∨ f = 16 ∨ f = 17 ∨ f = 18 ∨ f = 19 ∨ f = 20 ∨ f = 21 ∨ f = 23)) : beginM M u q f = M f := by
  unfold beginM
  split
  · exact seatM_fr h
  · rfl
theorem beginM_wt {T U : Int} {M : zM} (h : WTM T U M) {u : Nat} {q : Int} (hq : 0 ≤ q ∧ q < M 0 0 5) (ho : M 13 u q.toNat ≤ 2) (hB : beginOK M u q) : WTM T U (beginM M u q) := by
  have h18 : 0 ≤ M 18 u (M 4 0 q.toNat).toNat ∧ M 18 u (M 4 0 q.toNat).toNat ≤ 12 := h.1 18 u _
  unfold beginM
  split
  · rename_i z
    refine seatM_wt h (h.1 19 u _) hq ?_ ho (hB.2.1 _ (by omega))
    rw [hB.1 _ (by omega)]
    omega
  · exact h
def strW (M : zM) (u r : Nat) : Nat := zfst (fun k => M 19 u (12 * (M 21 u r).toNat + k) = (r : Int)) 12
def strikeOK (M : zM) (u r : Nat) : Prop := (0 ≤ M 21 u r ∧ M 21 u r ≤ 7) ∧ (strW M u r : Int) < M 18 u (M 21 u r).toNat ∧ M 18 u (M 21 u r).toNat ≤ 12
def tireSM (u r : Nat) (M : zM) : zM :=
  if M 20 u r = 0 then
    if fewN M (M 10 0 r) (M 8 0 r) 61 (M 21 u r) = -1 then zup (strikeM (zup M 22 u r (M 22 u r + 1)) u r (strW M u r)) 20 u r 3
    else if M 22 u r + 1 < M 9 0 r then zup M 22 u r (M 22 u r + 1) else zup (strikeM (zup M 22 u r (M 22 u r + 1)) u r (strW M u r)) 20 u r 3
  else M
theorem tireSM_fr {u r : Nat} {M : zM} {f : Nat} (h : ¬ (f = 18 ∨ f = 19 ∨ f = 20 ∨ f = 22)) : tireSM u r M f = M f := by
  unfold tireSM
  repeat' split
  all_goals first | rfl | rw [zup_fr (by omega), strikeM_fr (by omega), zup_fr (by omega)] | rw [zup_fr (by omega)]
theorem tireSM_wt {T U : Int} {M : zM} (h : WTM T U M) {u r : Nat} (hU : U + 1 ≤ 100000000) (hS : M 20 u r = 0 → strikeOK M u r) : WTM T (U + 1) (tireSM u r M) := by
  have hh := h.2.2
  have h22 : -(1000 + U) ≤ M 22 u r ∧ M 22 u r ≤ 1000 + U := h.1 22 u r
  have h0 : WTM T (U + 1) M := h.mono (by omega) (by omega) (by omega) (by omega)
  have h1 : WTM T (U + 1) (zup M 22 u r (M 22 u r + 1)) := h0.up (f := 22) (by decide) (show _ ∧ _ from ⟨by omega, by omega⟩)
  have h2 : M 20 u r = 0 → WTM T (U + 1) (zup (strikeM (zup M 22 u r (M 22 u r + 1)) u r (strW M u r)) 20 u r 3) := fun z => by
    refine (strikeM_wt h1 ?_).up (f := 20) (by decide) (show _ ∧ _ from ⟨by omega, by omega⟩)
    rw [zup_fr (by decide), zup_fr (by decide)]
    have h3 := (hS z).2.1
    simp only [Int.toNat_natCast]
    omega
  unfold tireSM
  split
  · rename_i z
    split
    · exact h2 z
    · split
      · exact h1
      · exact h2 z
  · exact h0
def rollsM (M : zM) (u : Nat) (n : Nat) : zM := zit (fun l M => rollM M u l) n M
def beginSM (u l : Nat) (M : zM) : zM := if closedM M l (M 11 u 0) then M else if M 12 u l ≤ M 13 u l then M else beginM M u l
def beginsM (M : zM) (u : Nat) (n : Nat) : zM := zit (beginSM u) n M
def tiresM (M : zM) (u : Nat) (n : Nat) : zM := zit (tireSM u) n M
theorem rollsM_fr {M : zM} {u n f : Nat} (h : ¬ (f = 13 ∨ f = 14 ∨ f = 15 ∨ f = 18 ∨ f = 19 ∨ f = 20 ∨ f = 21 ∨ f = 22 ∨ f = 24)) : rollsM M u n f = M f := zit_fr (fun j M => rollM_fr h) n M
theorem beginSM_fr {u l : Nat} {M : zM} {f : Nat} (h : ¬ (f = 13 ∨ f = 14 ∨ f = 15 ∨ f = 16 ∨ f = 17 ∨ f = 18 ∨ f = 19 ∨ f = 20 ∨ f = 21 ∨ f = 23)) : beginSM u l M f = M f := by
  unfold beginSM
  repeat' split
  all_goals first | rfl | exact beginM_fr h
theorem beginsM_fr {M : zM} {u n f : Nat} (h : ¬ (f = 13 ∨ f = 14 ∨ f = 15 ∨ f = 16 ∨ f = 17 ∨ f = 18 ∨ f = 19 ∨ f = 20 ∨ f = 21 ∨ f = 23)) : beginsM M u n f = M f := zit_fr (fun j M => beginSM_fr h) n M
theorem tiresM_fr {M : zM} {u n f : Nat} (h : ¬ (f = 18 ∨ f = 19 ∨ f = 20 ∨ f = 22)) : tiresM M u n f = M f := zit_fr (fun j M => tireSM_fr h) n M
theorem rollsM_wt {T U : Int} {M : zM} (h : WTM T U M) {u : Nat} (n : Nat) (hU : U + 3 * n ≤ 100000000) (hR : ∀ l, l < n → rollOK (rollsM M u l) u l) : WTM T (U + 3 * n) (rollsM M u n) := by
  induction n with
  | zero => simpa [rollsM, zit] using h
  | succ n ih =>
    have := rollM_wt (u := u) (q := (n : Int)) (ih (by omega) (fun l hl => hR l (by omega))) (hR n (by omega)) (by omega)
    rw [show U + 3 * ((n + 1 : Nat) : Int) = U + 3 * n + 3 by omega]
    exact this
theorem beginsM_wt {T U : Int} {M : zM} (h : WTM T U M) {u : Nat} (n : Nat) (hn : (n : Int) ≤ M 0 0 5) (hB : ∀ l, l < n → ¬ closedM (beginsM M u l) l (beginsM M u l 11 u 0) → ¬ beginsM M u l 12 u l ≤ beginsM M u l 13 u l → beginOK (beginsM M u l) u l) : WTM T U (beginsM M u n) := by
  induction n with
  | zero => exact h
  | succ n ih =>
    have i := ih (by omega) (fun l hl => hB l (by omega))
    show WTM T U (beginSM u n (beginsM M u n))
    unfold beginSM
    split
    · exact i
    · rename_i z1
      split
      · exact i
      · rename_i z2
        have h12 : 0 ≤ beginsM M u n 12 u n ∧ beginsM M u n 12 u n ≤ 3 := i.1 12 u n
        have h05 : beginsM M u n 0 0 5 = M 0 0 5 := by rw [beginsM_fr (by decide)]
        exact beginM_wt i ⟨by omega, by rw [h05]; omega⟩ (by rw [Int.toNat_natCast]; omega) (hB n (by omega) z1 z2)
theorem tiresM_wt {T U : Int} {M : zM} (h : WTM T U M) {u : Nat} (n : Nat) (hU : U + n ≤ 100000000) (hS : ∀ r, r < n → tiresM M u r 20 u r = 0 → strikeOK (tiresM M u r) u r) : WTM T (U + n) (tiresM M u n) := by
  induction n with
  | zero => simpa [tiresM, zit] using h
  | succ n ih =>
    have := tireSM_wt (u := u) (r := n) (ih (by omega) (fun l hl => hS l (by omega))) (by omega) (hS n (by omega))
    rw [show U + ((n + 1 : Nat) : Int) = U + n + 1 by omega]
    exact this
def rolled (M : zM) (u : Nat) : zM := rollsM M u (M 0 0 5).toNat
def begun (M : zM) (u : Nat) : zM := beginsM (rolled M u) u (M 0 0 5).toNat
def tired (M : zM) (u : Nat) : zM := tiresM (begun M u) u (M 0 0 10).toNat
def passM (M : zM) (u : Nat) : zM := zup (tired M u) 11 u 0 (M 11 u 0 + 1)
def passOK (M : zM) (u : Nat) : Prop :=
  (∀ l, l < (M 0 0 5).toNat → rollOK (rollsM M u l) u l) ∧
  (∀ l, l < (M 0 0 5).toNat → ¬ closedM (beginsM (rolled M u) u l) l (beginsM (rolled M u) u l 11 u 0) → ¬ beginsM (rolled M u) u l 12 u l ≤ beginsM (rolled M u) u l 13 u l → beginOK (beginsM (rolled M u) u l) u l) ∧
  (∀ r, r < (M 0 0 10).toNat → tiresM (begun M u) u r 20 u r = 0 → strikeOK (tiresM (begun M u) u r) u r)
theorem rolled_fr {M : zM} {u f : Nat} (h : ¬ (f = 13 ∨ f = 14 ∨ f = 15 ∨ f = 18 ∨ f = 19 ∨ f = 20 ∨ f = 21 ∨ f = 22 ∨ f = 24)) : rolled M u f = M f := rollsM_fr h
theorem begun_fr {M : zM} {u f : Nat} (h : ¬ (f = 13 ∨ f = 14 ∨ f = 15 ∨ f = 16 ∨ f = 17 ∨ f = 18 ∨ f = 19 ∨ f = 20 ∨ f = 21 ∨ f = 22 ∨ f = 23 ∨ f = 24)) : begun M u f = M f := by rw [begun, beginsM_fr (by omega), rolled_fr (by omega)]
theorem tired_fr {M : zM} {u f : Nat} (h : ¬ (f = 13 ∨ f = 14 ∨ f = 15 ∨ f = 16 ∨ f = 17 ∨ f = 18 ∨ f = 19 ∨ f = 20 ∨ f = 21 ∨ f = 22 ∨ f = 23 ∨ f = 24)) : tired M u f = M f := by rw [tired, tiresM_fr (by omega), begun_fr h]
theorem passM_fr {M : zM} {u f : Nat} (h : ¬ (f = 11 ∨ f = 13 ∨ f = 14 ∨ f = 15 ∨ f = 16 ∨ f = 17 ∨ f = 18 ∨ f = 19 ∨ f = 20 ∨ f = 21 ∨ f = 22 ∨ f = 23 ∨ f = 24)) : passM M u f = M f := by rw [passM, zup_fr (by omega), tired_fr (by omega)]
theorem rolled_wt {T U : Int} {M : zM} (h : WTM T U M) {u : Nat} (hP : passOK M u) (hU : U + 36 ≤ 100000000) : WTM T (U + 36) (rolled M u) := by
  have hlc : 0 ≤ M 0 0 5 ∧ M 0 0 5 ≤ 12 := h.1 0 0 5
  have hh := h.2.2
  exact (rollsM_wt h (M 0 0 5).toNat (by omega) hP.1).mono (by omega) (by omega) (by omega) (by omega)
theorem begun_wt {T U : Int} {M : zM} (h : WTM T U M) {u : Nat} (hP : passOK M u) (hU : U + 36 ≤ 100000000) : WTM T (U + 36) (begun M u) := by
  have hlc : 0 ≤ M 0 0 5 ∧ M 0 0 5 ≤ 12 := h.1 0 0 5
  exact beginsM_wt (rolled_wt h hP hU) (M 0 0 5).toNat (by rw [rolled_fr (by decide)]; omega) hP.2.1
theorem tired_wt {T U : Int} {M : zM} (h : WTM T U M) {u : Nat} (hP : passOK M u) (hU : U + 48 ≤ 100000000) : WTM T (U + 48) (tired M u) := by
  have hrc : 0 ≤ M 0 0 10 ∧ M 0 0 10 ≤ 12 := h.1 0 0 10
  have hh := h.2.2
  exact (tiresM_wt (begun_wt h hP (by omega)) (M 0 0 10).toNat (by omega) hP.2.2).mono (by omega) (by omega) (by omega) (by omega)
theorem passM_wt {T U : Int} {M : zM} (h : WTM T U M) {u : Nat} (hP : passOK M u) (hT : T + 1 ≤ 1000000) (hU : U + 48 ≤ 100000000) : WTM (T + 1) (U + 48) (passM M u) := by
  have hmi : 0 ≤ M 11 u 0 ∧ M 11 u 0 ≤ T := h.1 11 u 0
  have hh := h.2.2
  exact ((tired_wt h hP hU).mono (T' := T + 1) (by omega) (Int.le_refl _) (by omega) (by omega)).up (f := 11) (by decide) (show _ ∧ _ from ⟨by omega, by omega⟩)
def z0 (M : zM) : zM := fun f i k => if f = 25 then 0 else M f i k
def platToldM (M : zM) (n w : Int) : Int := if w = 0 then M 1 0 n.toNat else if w = 1 then M 2 0 n.toNat else if w = 2 then M 3 0 n.toNat else if w = 3 then M 18 0 n.toNat else if w = 4 then (if M 18 0 n.toNat = 0 then -1 else M 19 0 (12 * n).toNat) else if w = 5 then zcnt (fun j => M 4 0 j = n) (M 0 0 5).toNat else if w = 6 then zcnt (fun j => M 5 0 j = n) (M 0 0 5).toNat else zcnt (fun j => M 20 0 j = 2 ∧ M 10 0 j = n) (M 0 0 10).toNat
def lineToldM (M : zM) (n w : Int) : Int := if w = 0 then M 4 0 n.toNat else if w = 1 then M 5 0 n.toNat else if w = 2 then M 6 0 n.toNat else if w = 3 then lenM M n else if w = 4 then dropM M n else if w = 5 then M 12 0 n.toNat else if w = 6 then M 12 0 n.toNat - M 13 0 n.toNat else if w = 7 then ridingM M 0 n else if w = 8 then M 16 0 n.toNat else if w = 9 then M 17 0 n.toNat else if closedM M n (M 11 0 0) then 1 else 0
def countedM (M : zM) (w : Int) : Int := if w = 0 then M 11 0 0 else if w = 1 then M 0 0 1 else if w = 2 then M 0 0 5 else if w = 3 then M 0 0 10 else if w = 4 then manyM M 0 0 else if w = 5 then manyM M 0 1 else if w = 6 then manyM M 0 2 else if w = 7 then manyM M 0 3 else if w = 8 then zsum (fun j => M 12 0 j) (M 0 0 5).toNat else zsum (fun j => M 16 0 j) (M 0 0 5).toNat
def riderToldM (M : zM) (n w : Int) : Int := if w = 0 then M 8 0 n.toNat else if w = 1 then M 9 0 n.toNat else if w = 2 then M 10 0 n.toNat else if w = 3 then M 20 0 n.toNat
  else if w = 4 then (if M 20 0 n.toNat = 0 ∨ M 20 0 n.toNat = 2 then M 21 0 n.toNat else -1)
  else if w = 5 then (if M 20 0 n.toNat = 1 then M 21 0 n.toNat else -1)
  else if w = 6 then (if M 20 0 n.toNat = 0 then M 22 0 n.toNat else if M 20 0 n.toNat = 1 then leftM M 0 n else 0)
  else if w = 7 then (if M 20 0 n.toNat = 0 then (if 0 < fewN M (M 10 0 n.toNat) (M 8 0 n.toNat) 61 (M 21 0 n.toNat) then fewN M (M 10 0 n.toNat) (M 8 0 n.toNat) 61 (M 21 0 n.toNat) else 0) else 0)
  else if w = 8 then (if M 20 0 n.toNat = 0 then firstM M (M 21 0 n.toNat) (M 10 0 n.toNat) (M 8 0 n.toNat) else -1)
  else if w = 9 then M 23 0 n.toNat else M 24 0 n.toNat
def kPlatM (M : zM) (n w : Int) : Int := if (0 ≤ n ∧ n ≤ M 0 0 1 - 1) ∧ (0 ≤ w ∧ w ≤ 7) then 0 else 1
def platFM (M : zM) (n w : Int) : zM := if kPlatM M n w = 0 then zup M 0 0 0 0 else thM M (kPlatM M n w)
def platFR (M : zM) (n w : Int) : Int := if kPlatM M n w = 0 then platToldM (zup M 0 0 0 0) n w else 0
def kLineM (M : zM) (n w : Int) : Int := if (0 ≤ n ∧ n ≤ M 0 0 5 - 1) ∧ (0 ≤ w ∧ w ≤ 10) then 0 else 1
def lineFM (M : zM) (n w : Int) : zM := if kLineM M n w = 0 then zup M 0 0 0 0 else thM M (kLineM M n w)
def lineFR (M : zM) (n w : Int) : Int := if kLineM M n w = 0 then lineToldM (zup M 0 0 0 0) n w else 0
def kRiderM (M : zM) (n w : Int) : Int := if (0 ≤ n ∧ n ≤ M 0 0 10 - 1) ∧ (0 ≤ w ∧ w ≤ 10) then 0 else 1
def riderFM (M : zM) (n w : Int) : zM := if kRiderM M n w = 0 then zup M 0 0 0 0 else thM M (kRiderM M n w)
def riderFR (M : zM) (n w : Int) : Int := if kRiderM M n w = 0 then riderToldM (zup M 0 0 0 0) n w else 0
def kCountM (w : Int) : Int := if 0 ≤ w ∧ w ≤ 9 then 0 else 1
def countFM (M : zM) (w : Int) : zM := if kCountM w = 0 then zup M 0 0 0 0 else thM M (kCountM w)
def countFR (M : zM) (w : Int) : Int := if kCountM w = 0 then countedM (zup M 0 0 0 0) w else 0
def passMN (M : zM) (u n : Nat) : zM := zit (fun _ M => passM M u) n M
theorem passMN_fr {M : zM} {u n f : Nat} (h : ¬ (f = 11 ∨ f = 13 ∨ f = 14 ∨ f = 15 ∨ f = 16 ∨ f = 17 ∨ f = 18 ∨ f = 19 ∨ f = 20 ∨ f = 21 ∨ f = 22 ∨ f = 23 ∨ f = 24)) : passMN M u n f = M f := zit_fr (fun j M => passM_fr h) n M
theorem passMN_wt {T U : Int} {M : zM} (h : WTM T U M) {u : Nat} (n : Nat) (hT : T + n ≤ 1000000) (hU : U + 48 * n ≤ 100000000) (hP : ∀ j, j < n → passOK (passMN M u j) u) : WTM (T + n) (U + 48 * n) (passMN M u n) := by
  induction n with
  | zero => simpa [passMN, zit] using h
  | succ n ih =>
    have := passM_wt (u := u) (ih (by omega) (by omega) (fun j hj => hP j (by omega))) (hP n (by omega)) (by omega) (by omega)
    rw [show U + 48 * ((n + 1 : Nat) : Int) = U + 48 * n + 48 by omega, show T + ((n + 1 : Nat) : Int) = T + n + 1 by omega]
    exact this
theorem zcp_ex {X M : zM} {f g i j n : Nat} (h : ∀ f i k, ∃ i', X f i k = M f i' k) (hfg : f = g) : ∀ f' i' k, ∃ i2, zcp X f i g j n f' i' k = M f' i2 k := by
  subst hfg
  intro f' i' k
  simp only [zcp]
  split
  · rename_i q; obtain ⟨rfl, -, -⟩ := q; exact h f' i k
  · exact h f' i' k
theorem becomeM_ex (M : zM) (u v : Nat) : ∀ f i k, ∃ i', becomeM M u v f i k = M f i' k := by
  unfold becomeM
  refine zcp_ex (zcp_ex (zcp_ex (zcp_ex (zcp_ex (zcp_ex (zcp_ex (zcp_ex (zcp_ex (zcp_ex (zcp_ex (zcp_ex (zcp_ex (fun f i k => ?_) rfl) rfl) rfl) rfl) rfl) rfl) rfl) rfl) rfl) rfl) rfl) rfl) rfl
  simp only [zup]
  split
  · rename_i q; obtain ⟨rfl, rfl, rfl⟩ := q; exact ⟨v, rfl⟩
  · exact ⟨i, rfl⟩
theorem becomeM_fr {M : zM} {u v f : Nat} (h : ¬ (11 ≤ f ∧ f ≤ 24)) : becomeM M u v f = M f := by
  unfold becomeM
  funext i
  rw [zcp_off (by omega), zcp_off (by omega), zcp_off (by omega), zcp_off (by omega), zcp_off (by omega), zcp_off (by omega), zcp_off (by omega), zcp_off (by omega), zcp_off (by omega), zcp_off (by omega), zcp_off (by omega), zcp_off (by omega), zcp_off (by omega), zup_fr (by omega)]
theorem becomeM_off {M : zM} {u v f i : Nat} (h : i ≠ u) : becomeM M u v f i = M f i := by
  unfold becomeM
  rw [zcp_off (by omega), zcp_off (by omega), zcp_off (by omega), zcp_off (by omega), zcp_off (by omega), zcp_off (by omega), zcp_off (by omega), zcp_off (by omega), zcp_off (by omega), zcp_off (by omega), zcp_off (by omega), zcp_off (by omega), zcp_off (by omega), zup_off (by omega)]
theorem becomeM_wt {T U : Int} {M : zM} (h : WTM T U M) (u v : Nat) : WTM T U (becomeM M u v) := by
  refine ⟨fun f i k => ?_, ?_, h.2.2⟩
  · obtain ⟨i', e⟩ := becomeM_ex M u v f i k
    rw [e]
    exact h.1 f i' k
  · rw [becomeM_fr (f := 0) (by omega), becomeM_fr (f := 3) (by omega), becomeM_fr (f := 4) (by omega), becomeM_fr (f := 5) (by omega)]
    exact h.2.1
theorem becomeM_12 {M : zM} {u v k : Nat} (hk : k < 12) : becomeM M u v 12 u k = M 12 v k := by
  unfold becomeM
  rw [zcp_off (by omega), zcp_off (by omega), zcp_off (by omega), zcp_off (by omega), zcp_off (by omega), zcp_off (by omega), zcp_off (by omega), zcp_off (by omega), zcp_off (by omega), zcp_off (by omega), zcp_off (by omega), zcp_off (by omega)]
  simp [zcp, zup, hk]
def kPassM (n : Int) : Int := if 1 ≤ n ∧ n ≤ 100 then 0 else 1
def passFM (M : zM) (n : Int) : zM := if kPassM n = 0 then passMN (zup M 0 0 0 0) 0 n.toNat else thM M (kPassM n)
def passFR (M : zM) (n : Int) : Int := if kPassM n = 0 then manyM (passMN (zup M 0 0 0 0) 0 n.toNat) 0 2 - manyM (zup M 0 0 0 0) 0 2 else 0
def arrMN (B : zM) (r n : Nat) : zM := zit (fun _ M => if M 20 1 r < 2 then passM M 1 else M) n B
theorem arrMN_fr {M : zM} {r n f : Nat} (h : ¬ (f = 11 ∨ f = 13 ∨ f = 14 ∨ f = 15 ∨ f = 16 ∨ f = 17 ∨ f = 18 ∨ f = 19 ∨ f = 20 ∨ f = 21 ∨ f = 22 ∨ f = 23 ∨ f = 24)) : arrMN M r n f = M f := by
  refine zit_fr (fun j M => ?_) n M
  split
  · exact passM_fr h
  · rfl
theorem arrMN_wt {T U : Int} {M : zM} (h : WTM T U M) {r : Nat} (n : Nat) (hT : T + n ≤ 1000000) (hU : U + 48 * n ≤ 100000000) (hP : ∀ j, j < n → arrMN M r j 20 1 r < 2 → passOK (arrMN M r j) 1) : WTM (T + n) (U + 48 * n) (arrMN M r n) := by
  induction n with
  | zero => simpa [arrMN, zit] using h
  | succ n ih =>
    have h1 := ih (by omega) (by omega) (fun j hj => hP j (by omega))
    have hh := h1.2.2
    show WTM _ _ (if arrMN M r n 20 1 r < 2 then passM (arrMN M r n) 1 else arrMN M r n)
    split
    · rename_i q
      have := passM_wt (u := 1) h1 (hP n (by omega) q) (by omega) (by omega)
      rw [show U + 48 * ((n + 1 : Nat) : Int) = U + 48 * n + 48 by omega, show T + ((n + 1 : Nat) : Int) = T + n + 1 by omega]
      exact this
    · exact h1.mono (by omega) (by omega) (by omega) (by omega)
def kArrM (M : zM) (n : Int) : Int := if 0 ≤ n ∧ n ≤ M 0 0 10 - 1 then 0 else 1
def aheadM (M : zM) : zM := becomeM (zup M 0 0 0 0) 1 0
def arrFM (M : zM) (n : Int) : zM := if kArrM M n = 0 then arrMN (aheadM M) n.toNat 200 else thM M (kArrM M n)
def arrFR (M : zM) (n : Int) : Int := if kArrM M n = 0 then arrMN (aheadM M) n.toNat 200 24 1 n.toNat else 0
theorem aheadM_10 (M : zM) : aheadM M 0 0 10 = M 0 0 10 := by rw [aheadM, becomeM_fr (by omega)]; rfl
theorem aheadM_5 (M : zM) : aheadM M 0 0 5 = M 0 0 5 := by rw [aheadM, becomeM_fr (by omega)]; rfl
def moreM (M : zM) (i : Nat) : zM := zup (becomeM M 1 0) 12 1 i (becomeM M 1 0 12 1 i + 1)
theorem moreM_wt {T U : Int} {M : zM} (h : WTM T U M) {i : Nat} (hi : i < 12) (h3 : M 12 0 i ≠ 3) : WTM T U (moreM M i) := by
  have h12 : 0 ≤ M 12 0 i ∧ M 12 0 i ≤ 3 := h.1 12 0 i
  refine (becomeM_wt h 1 0).up (f := 12) (by decide) ?_
  rw [becomeM_12 hi]
  exact (show _ ∧ _ from ⟨by omega, by omega⟩)
def advMS (n : Int) (i : Nat) (s : zM × (Int × Int)) : zM × (Int × Int) :=
  if s.1 12 0 i = 3 then s else if manyM (passMN (moreM s.1 i) 1 n.toNat) 1 2 ≤ s.2.1 then (passMN (moreM s.1 i) 1 n.toNat, s.2) else (passMN (moreM s.1 i) 1 n.toNat, (manyM (passMN (moreM s.1 i) 1 n.toNat) 1 2, (i : Int)))
def advM0 (B : zM) (n : Int) : zM × (Int × Int) := (passMN B 1 n.toNat, (manyM (passMN B 1 n.toNat) 1 2, -1))
def advMN (B : zM) (n : Int) (j : Nat) : zM × (Int × Int) := zit (advMS n) j (advM0 B n)
def kAdvM (n : Int) : Int := if 1 ≤ n ∧ n ≤ 30 then 0 else 1
def advFM (M : zM) (n : Int) : zM := if kAdvM n = 0 then (advMN (aheadM M) n (M 0 0 5).toNat).1 else thM M (kAdvM n)
def advFR (M : zM) (n : Int) : Int := if kAdvM n = 0 then (advMN (aheadM M) n (M 0 0 5).toNat).2.2 else 0
def advOK (B : zM) (n : Int) : Prop := (∀ j : Nat, (j : Int) < n → passOK (passMN B 1 j) 1) ∧ ∀ i : Nat, (i : Int) < B 0 0 5 → (advMN B n i).1 12 0 i ≠ 3 → ∀ j : Nat, (j : Int) < n → passOK (passMN (moreM (advMN B n i).1 i) 1 j) 1
def digPM (B : zM) (n : Nat) (d : Int64) : Int64 := dgo (fun k => B 19 0 (12 * n + k)) (dgo (fun w => platToldM B n w) d 8) (B 18 0 n).toNat
def dgM2 (B : zM) : Int64 := dgo (fun k => B 7 0 k) (dgo (fun w => countedM B w) 593 10) 12
def dgM3 (B : zM) : Int64 := dgg (fun x9 d => digPM B x9 d) (dgM2 B) (B 0 0 1).toNat
def dgM4 (B : zM) : Int64 := dgg (fun x9 d => dgo (fun w => lineToldM B x9 w) d 11) (dgM3 B) (B 0 0 5).toNat
def dgM5 (B : zM) : Int64 := dgg (fun x9 d => dgo (fun w => riderToldM B x9 w) d 11) (dgM4 B) (B 0 0 10).toNat
def meanV (sm n : Int) : UInt64 := if n = 0 then FP.dconst0 else FP.ddiv (FP.i2d (Int32.ofInt sm)) (FP.i2d (Int32.ofInt n))
def meanS (M : zM) (n : Nat) : Int := zsum (fun j => if M 16 (12 * 0 + j) 0 = 2 then M 16 (12 * 0 + j) 5 else 0) n
def meanC (M : zM) : UInt64 := meanV (meanS M (M 1 0 6).toNat) (ridersC M 0 2)
def meanSM (M : zM) (n : Nat) : Int := zsum (fun j => if M 20 0 j = 2 then M 24 0 j else 0) n
def meanM (M : zM) : UInt64 := meanV (meanSM M (M 0 0 10).toNat) (manyM M 0 2)
def zWF (ad : Nat → Nat → Nat) (o sz : Nat) : Nat → Prop := fun q => (∃ f i, okC f i ∧ q = ad f i) ∨ q = o ∨ sz ≤ q
def wcd (a b c k : Nat) : Int := if k = 0 then 0 else if k = a then 1 else if k = b then 2 else if k = c then 3 else 0
theorem adM_far {b f i f' i' : Nat} (h : okC f i) (h' : okM f' i') : adC b f i ≠ adM (b + 181) f' i' := by
  have h1 := adC_lt (b := b) h
  have h2 := adM_ge (b + 181) f' i'
  omega
theorem adC_out {b f i : Nat} (h : okC f i) : adC b f i ≠ b + 220 := by
  have h1 := adC_lt (b := b) h
  omega
theorem adM_out {b f i : Nat} (h : okM f i) : adM (b + 181) f i ≠ b + 220 := by
  have h1 := adM_lt (b := b + 181) h
  omega
def zSt_wt (Rel : Nat → zM → zM → Prop) : Prop := ∀ (n : Nat) (C M : zM), Rel n C M → n ≤ 512 → WTC (400 * n) (20000 * n) C ∧ WTM (400 * n) (20000 * n) M
def zSt_skip (Rel : Nat → zM → zM → Prop) : Prop := ∀ (n : Nat) (C M : zM), Rel n C M → Rel (n + 1) C M
def zSt_mean (Rel : Nat → zM → zM → Prop) : Prop := ∀ (n : Nat) (C M : zM), Rel n C M → n < 512 → meanC C = meanM (zup M 0 0 0 0) ∧ Rel (n + 1) C (zup M 0 0 0 0)
def zSt_digest (Rel : Nat → zM → zM → Prop) : Prop := ∀ (n : Nat) (C M : zM), Rel n C M → n < 512 → (∀ r : Nat, (r : Int) < M 0 0 10 → M 20 0 r = 0 → M 21 0 r ≤ 7) ∧ dg5 C = dgM5 (zup M 0 0 0 0) ∧ Rel (n + 1) C (zup M 0 0 0 0)
def zSt_build (Rel : Nat → zM → zM → Prop) : Prop := ∀ (n : Nat) (C M : zM), Rel n C M → n < 512 → ∀ a1 a2 a3 : Int, -2147483648 ≤ a1 ∧ a1 < 2147483648 → -2147483648 ≤ a2 ∧ a2 < 2147483648 → -2147483648 ≤ a3 ∧ a3 < 2147483648 → (wcd 1 2 0 (kBuild C a1 a2 a3) = (buildM M a1 a2 a3) 0 0 0) ∧ (wcd 1 2 0 (kBuild C a1 a2 a3) = 0 → kBuild C a1 a2 a3 = 0 ∧ C 1 0 4 = buildR M a1 a2 a3) ∧ Rel (n + 1) (if kBuild C a1 a2 a3 = 0 then addPlatformC C a1 a2 a3 else C) (buildM M a1 a2 a3)
def zSt_span (Rel : Nat → zM → zM → Prop) : Prop := ∀ (n : Nat) (C M : zM), Rel n C M → n < 512 → ∀ a1 a2 a3 a4 : Int, -2147483648 ≤ a1 ∧ a1 < 2147483648 → -2147483648 ≤ a2 ∧ a2 < 2147483648 → -2147483648 ≤ a3 ∧ a3 < 2147483648 → -2147483648 ≤ a4 ∧ a4 < 2147483648 → (wcd 3 1 2 (kSpan C a1 a2 a3 a4) = (spanM M a1 a2 a3 a4) 0 0 0) ∧ (wcd 3 1 2 (kSpan C a1 a2 a3 a4) = 0 → kSpan C a1 a2 a3 a4 = 0 ∧ C 1 0 5 = spanR M a1 a2 a3 a4) ∧ Rel (n + 1) (if kSpan C a1 a2 a3 a4 = 0 then addTC (addLineC C a1 a2 a3) 0 (C 1 0 5) a4 else C) (spanM M a1 a2 a3 a4)
def zSt_add (Rel : Nat → zM → zM → Prop) : Prop := ∀ (n : Nat) (C M : zM), Rel n C M → n < 512 → ∀ a1 : Int, -2147483648 ≤ a1 ∧ a1 < 2147483648 → (wcd 3 2 0 (kAdd C a1) = (addM M a1) 0 0 0) ∧ (wcd 3 2 0 (kAdd C a1) = 0 → kAdd C a1 = 0 ∧ (addTC C 0 a1 1) 17 (12 * 0 + a1.toNat) 0 + (addTC C 0 a1 1) 17 (12 * 0 + a1.toNat) 1 = addR M a1) ∧ Rel (n + 1) (if kAdd C a1 = 0 then addTC C 0 a1 1 else C) (addM M a1)
def zSt_setWind (Rel : Nat → zM → zM → Prop) : Prop := ∀ (n : Nat) (C M : zM), Rel n C M → n < 512 → ∀ a1 a2 : Int, -2147483648 ≤ a1 ∧ a1 < 2147483648 → -2147483648 ≤ a2 ∧ a2 < 2147483648 → (wcd 3 1 0 (kWind a1 a2) = (windM M a1 a2) 0 0 0) ∧ (wcd 3 1 0 (kWind a1 a2) = 0 → kWind a1 a2 = 0 ∧ C 5 0 a1.toNat = windR M a1 a2) ∧ Rel (n + 1) (if kWind a1 a2 = 0 then zup C 5 0 a1.toNat a2 else C) (windM M a1 a2)
def zSt_platform (Rel : Nat → zM → zM → Prop) : Prop := ∀ (n : Nat) (C M : zM), Rel n C M → n < 512 → ∀ a1 a2 : Int, -2147483648 ≤ a1 ∧ a1 < 2147483648 → -2147483648 ≤ a2 ∧ a2 < 2147483648 → (wcd 3 0 0 (kPlat C a1 a2) = (platFM M a1 a2) 0 0 0) ∧ (wcd 3 0 0 (kPlat C a1 a2) = 0 → kPlat C a1 a2 = 0 ∧ platFactC C a1 a2 = platFR M a1 a2) ∧ Rel (n + 1) (if kPlat C a1 a2 = 0 then C else C) (platFM M a1 a2)
def zSt_line (Rel : Nat → zM → zM → Prop) : Prop := ∀ (n : Nat) (C M : zM), Rel n C M → n < 512 → ∀ a1 a2 : Int, -2147483648 ≤ a1 ∧ a1 < 2147483648 → -2147483648 ≤ a2 ∧ a2 < 2147483648 → (wcd 3 0 0 (kLine C a1 a2) = (lineFM M a1 a2) 0 0 0) ∧ (wcd 3 0 0 (kLine C a1 a2) = 0 → kLine C a1 a2 = 0 ∧ lineFactC C a1 a2 = lineFR M a1 a2) ∧ Rel (n + 1) (if kLine C a1 a2 = 0 then C else C) (lineFM M a1 a2)
def zSt_ride (Rel : Nat → zM → zM → Prop) : Prop := ∀ (n : Nat) (C M : zM), Rel n C M → n < 512 → ∀ a1 a2 : Int, -2147483648 ≤ a1 ∧ a1 < 2147483648 → -2147483648 ≤ a2 ∧ a2 < 2147483648 → (wcd 3 1 0 (kRide C a1 a2) = (rideFM M a1 a2) 0 0 0) ∧ (wcd 3 1 0 (kRide C a1 a2) = 0 → kRide C a1 a2 = 0 ∧ rideR C a1 a2 = rideFR M a1 a2) ∧ Rel (n + 1) (if kRide C a1 a2 = 0 then C else C) (rideFM M a1 a2)
def zSt_come (Rel : Nat → zM → zM → Prop) : Prop := ∀ (n : Nat) (C M : zM), Rel n C M → n < 512 → ∀ a1 a2 a3 a4 : Int, -2147483648 ≤ a1 ∧ a1 < 2147483648 → -2147483648 ≤ a2 ∧ a2 < 2147483648 → -2147483648 ≤ a3 ∧ a3 < 2147483648 → -2147483648 ≤ a4 ∧ a4 < 2147483648 → (M 0 0 10 < 12 → M 18 0 a1.toNat ≤ 11) ∧ (wcd 3 1 2 (kCome C a1 a2 a3 a4) = (comeFM M a1 a2 a3 a4) 0 0 0) ∧ (wcd 3 1 2 (kCome C a1 a2 a3 a4) = 0 → kCome C a1 a2 a3 a4 = 0 ∧ C 1 0 6 = comeFR M a1 a2 a3 a4) ∧ Rel (n + 1) (if kCome C a1 a2 a3 a4 = 0 then reachC (addRiderC C a2 a3 a4) 0 (C 1 0 6) a1 else C) (comeFM M a1 a2 a3 a4)
def zSt_rider (Rel : Nat → zM → zM → Prop) : Prop := ∀ (n : Nat) (C M : zM), Rel n C M → n < 512 → ∀ a1 a2 : Int, -2147483648 ≤ a1 ∧ a1 < 2147483648 → -2147483648 ≤ a2 ∧ a2 < 2147483648 → (∀ r : Nat, (r : Int) < M 0 0 10 → M 20 0 r = 0 → M 21 0 r ≤ 7) ∧ (wcd 3 0 0 (kRider C a1 a2) = (riderFM M a1 a2) 0 0 0) ∧ (wcd 3 0 0 (kRider C a1 a2) = 0 → kRider C a1 a2 = 0 ∧ riderFactC C a1 a2 = riderFR M a1 a2) ∧ Rel (n + 1) (if kRider C a1 a2 = 0 then C else C) (riderFM M a1 a2)
def zSt_queue (Rel : Nat → zM → zM → Prop) : Prop := ∀ (n : Nat) (C M : zM), Rel n C M → n < 512 → ∀ a1 a2 : Int, -2147483648 ≤ a1 ∧ a1 < 2147483648 → -2147483648 ≤ a2 ∧ a2 < 2147483648 → (wcd 3 0 0 (kQueue C a1 a2) = (queueFM M a1 a2) 0 0 0) ∧ (wcd 3 0 0 (kQueue C a1 a2) = 0 → kQueue C a1 a2 = 0 ∧ qAt C 0 a1 a2 = queueFR M a1 a2) ∧ Rel (n + 1) (if kQueue C a1 a2 = 0 then C else C) (queueFM M a1 a2)
def zSt_pass (Rel : Nat → zM → zM → Prop) : Prop := ∀ (n : Nat) (C M : zM), Rel n C M → n < 512 → ∀ a1 : Int, -2147483648 ≤ a1 ∧ a1 < 2147483648 → (∀ j : Nat, (j : Int) < a1 → a1 ≤ 100 → passOK (passMN (zup M 0 0 0 0) 0 j) 0) ∧ (wcd 1 0 0 (kPass a1) = (passFM M a1) 0 0 0) ∧ (wcd 1 0 0 (kPass a1) = 0 → kPass a1 = 0 ∧ ridersC (passN C 0 a1.toNat) 0 2 - ridersC C 0 2 = passFR M a1) ∧ Rel (n + 1) (if kPass a1 = 0 then passN C 0 a1.toNat else C) (passFM M a1)
def zSt_count (Rel : Nat → zM → zM → Prop) : Prop := ∀ (n : Nat) (C M : zM), Rel n C M → n < 512 → ∀ a1 : Int, -2147483648 ≤ a1 ∧ a1 < 2147483648 → (wcd 3 0 0 (kCount a1) = (countFM M a1) 0 0 0) ∧ (wcd 3 0 0 (kCount a1) = 0 → kCount a1 = 0 ∧ countFactC C a1 = countFR M a1) ∧ Rel (n + 1) (if kCount a1 = 0 then C else C) (countFM M a1)
def zSt_way (Rel : Nat → zM → zM → Prop) : Prop := ∀ (n : Nat) (C M : zM), Rel n C M → n < 512 → ∀ a1 a2 a3 : Int, -2147483648 ≤ a1 ∧ a1 < 2147483648 → -2147483648 ≤ a2 ∧ a2 < 2147483648 → -2147483648 ≤ a3 ∧ a3 < 2147483648 → (wcd 3 1 0 (kWay C a1 a2 a3) = (wayM M a1 a2 a3) 0 0 0) ∧ (wcd 3 1 0 (kWay C a1 a2 a3) = 0 → kWay C a1 a2 a3 = 0 ∧ linesFromC (planC C 12 a2 a3) 12 a1 = wayR M a1 a2 a3) ∧ Rel (n + 1) (if kWay C a1 a2 a3 = 0 then planC C 12 a2 a3 else C) (wayM M a1 a2 a3)
def zSt_arrives (Rel : Nat → zM → zM → Prop) : Prop := ∀ (n : Nat) (C M : zM), Rel n C M → n < 512 → ∀ a1 : Int, -2147483648 ≤ a1 ∧ a1 < 2147483648 → (0 ≤ a1 → a1 ≤ M 0 0 10 - 1 → ∀ j, j < 200 → arrMN (aheadM M) a1.toNat j 20 1 a1.toNat < 2 → passOK (arrMN (aheadM M) a1.toNat j) 1) ∧ (wcd 3 0 0 (kArr C a1) = (arrFM M a1) 0 0 0) ∧ (wcd 3 0 0 (kArr C a1) = 0 → kArr C a1 = 0 ∧ arrN C a1.toNat 200 16 (12 * 1 + a1.toNat) 5 = arrFR M a1) ∧ Rel (n + 1) (if kArr C a1 = 0 then arrN C a1.toNat 200 else C) (arrFM M a1)
def zSt_advise (Rel : Nat → zM → zM → Prop) : Prop := ∀ (n : Nat) (C M : zM), Rel n C M → n < 512 → ∀ a1 : Int, -2147483648 ≤ a1 ∧ a1 < 2147483648 → (1 ≤ a1 → a1 ≤ 30 → advOK (aheadM M) a1) ∧ (wcd 1 0 0 (kAdv a1) = (advFM M a1) 0 0 0) ∧ (wcd 1 0 0 (kAdv a1) = 0 → kAdv a1 = 0 ∧ (advN C a1 (C 1 0 5).toNat).2.2 = advFR M a1) ∧ Rel (n + 1) (if kAdv a1 = 0 then (advN C a1 (C 1 0 5).toNat).1 else C) (advFM M a1)
def zSteps (Rel : Nat → zM → zM → Prop) : Prop := zSt_wt Rel ∧ zSt_skip Rel ∧ zSt_mean Rel ∧ zSt_digest Rel ∧ zSt_build Rel ∧ zSt_span Rel ∧ zSt_add Rel ∧ zSt_setWind Rel ∧ zSt_platform Rel ∧ zSt_line Rel ∧ zSt_ride Rel ∧ zSt_come Rel ∧ zSt_rider Rel ∧ zSt_queue Rel ∧ zSt_pass Rel ∧ zSt_count Rel ∧ zSt_way Rel ∧ zSt_arrives Rel ∧ zSt_advise Rel
