/-- the place k of a page, on both sides -/
def RPl (cs : Nat → Int32) (k : Nat) (z : Int32 × Int32) (z' : Int32 × Int32 × Int32 × Int32 × (Nat → Int32)) : Prop :=
  z.2 = nI k ∧ z'.1 = nI k ∧ ((z.1 = -1 ∧ k ≤ 31 ∧ z'.2.1 = nI ((k + 1) / 4) ∧ z'.2.2.2.1 = nI (k % 4) ∧ RdS cs k z'.2.2.2.2 ∧ (∀ j, j < k → ¬ cs j = 59)) ∨ ∃ c, z.1 = nI c ∧ c % 4 = 3 ∧ 11 ≤ c ∧ c ≤ 31 ∧ cs c = 59 ∧ (∀ j, j < c → ¬ cs j = 59) ∧ z'.2.1 = nI ((c + 1) / 4) ∧ RdS cs c z'.2.2.2.2 ∧ ((k = c + 1 ∧ z'.2.2.2.1 = 4) ∨ (k = c + 2 ∧ z'.2.2.2.1 = 5 ∧ z'.2.2.1 = cs (c + 1) - 48 ∧ fX5_within (cs (c + 1)) 48 51 = some 1)))
theorem k59 : ∀ c, c < 127 → ¬ fX6_kindBy (nI c) = some (-1) → ¬ nI c = 59 := by decide +kernel
theorem w59 : ¬ fX5_within 59 49 57 = some 1 ∧ ¬ fX5_within 59 48 57 = some 1 := by decide +kernel
