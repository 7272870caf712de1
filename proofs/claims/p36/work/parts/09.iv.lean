noncomputable def inB (v a b : Int64) : Bool := decide (a ≤ v) && decide (v ≤ b)
/-- v lies from a to b -/
noncomputable abbrev Iv (v a b : Int64) : Prop := inB v a b = true
theorem Iv_iff {v a b : Int64} : Iv v a b ↔ a ≤ v ∧ v ≤ b := by
  unfold Iv inB
  rw [Bool.and_eq_true, decide_eq_true_eq, decide_eq_true_eq]
