theorem comeM_wt {T U : Int} {M : zM} (h : WTM T U M) {u : Nat} {r q : Int} (hr : 0 ≤ r ∧ r ≤ 11) (hq : 0 ≤ q ∧ q ≤ 7) (hs : M 18 u q.toNat ≤ 11) : WTM T U (comeM M u r q) := by
  have h18 : 0 ≤ M 18 u q.toNat ∧ M 18 u q.toNat ≤ 12 := h.1 18 u _
  have hU := h.2.2.2
  have b := (h.up (f := 21) (i := u) (k := r.toNat) (v := q) (by decide) ⟨by omega, by omega⟩).up (f := 22) (i := u) (k := r.toNat) (v := 0) (by decide) ⟨by omega, by omega⟩
  unfold comeM
  split
  · exact (b.up (f := 20) (by decide) ⟨by omega, by omega⟩).up (f := 24) (by decide) trivial
  · exact ((b.up (f := 20) (by decide) ⟨by omega, by omega⟩).up (f := 19) (by decide) ⟨by omega, by omega⟩).up (f := 18) (by decide) ⟨by omega, by omega⟩
