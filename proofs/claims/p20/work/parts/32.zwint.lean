/-! rows of int -/
theorem zwint : Cond.arrayClass (newarray.typeOf .int) ∈ zbig := zin 484 (by decide +kernel) rfl
