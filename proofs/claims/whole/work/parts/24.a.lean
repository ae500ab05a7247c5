theorem comeM_wt {T U : Int} {M : zM} (h : WTM T U M) {u : Nat} {r q : Int} (hr : 0 ≤ r ∧ r ≤ 11) (hq : 0 ≤ q ∧ q ≤ 7) (hs : M 18 u q.toNat ≤ 11) : WTM T U (comeM M u r q) := by
  have h18 : 0 ≤ M 18 u q.toNat ∧ M 18 u q.toNat ≤ 12 := h.1 18 u _
  have hU := h.2.2.2
  have b := (h.up (f := 21) (i := u) (k := r.toNat) (v := q) (by decide) ⟨by omega, by omega⟩).up (f := 22) (i := u) (k := r.toNat) (v := 0) (by decide) ⟨by omega, by omega⟩
  unfold comeM
  split
  · exact (b.up (f := 20) (by decide) ⟨by omega, by omega⟩).up (f := 24) (by decide) trivial
  · exact ((b.up (f := 20) (by decide) ⟨by omega, by omega⟩).up (f := 19) (by decide) ⟨by omega, by omega⟩).up (f := 18) (by decide) ⟨by omega, by omega⟩
theorem seatM_wt {T U : Int} {M : zM} (h : WTM T U M) {u : Nat} {q r : Int} {w : Nat} (hr : 0 ≤ r ∧ r ≤ 11) (hq : 0 ≤ q ∧ q < M 0 0 5) (hs : 1 ≤ M 18 u (M 21 u r.toNat).toNat) (ho : M 13 u q.toNat ≤ 2) (hw : 20 ≤ M 8 0 r.toNat ∧ M 8 0 r.toNat ≤ 120) : WTM T U (seatM M u q r w) := by
  have hU := h.2.2.2
  have hlc : 0 ≤ M 0 0 5 ∧ M 0 0 5 ≤ 12 := h.1 0 0 5
  have h13 : 0 ≤ M 13 u q.toNat ∧ M 13 u q.toNat ≤ 3 := h.1 13 u _
  have hrb := rideM_bd h hq hw
  have hab : 0 ≤ absC (rideM M q (M 8 0 r.toNat)) ∧ absC (rideM M q (M 8 0 r.toNat)) ≤ 500 := by simp only [absC]; split <;> omega
  have b := ((((strikeM_wt (r := r) (w := w) h hs).up (f := 20) (i := u) (k := r.toNat) (v := 1) (by decide) ⟨by omega, by omega⟩).up (f := 21) (i := u) (k := r.toNat) (v := q) (by decide) ⟨by omega, by omega⟩).up (f := 23) (i := u) (k := r.toNat) (v := M 23 u r.toNat + 1) (by decide) trivial).up (f := 14) (i := u) (k := (3 * q + M 13 u q.toNat).toNat) (v := r) (by decide) ⟨by omega, by omega⟩
  exact (((b.up (f := 15) (by decide) ⟨by omega, by omega⟩).up (f := 13) (by decide) ⟨by omega, by omega⟩).up (f := 16) (by decide) trivial).up (f := 17) (by decide) trivial
