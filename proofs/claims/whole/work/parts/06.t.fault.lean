/-! the letters of a hall's name -/
theorem kind_s : ∀ c, c < 127 → fX4_kindBy (nI c) = fX6_kindBy (nI c) := by decide +kernel
theorem kind_v : ∀ c, c < 127 → fX6_kindBy (nI c) = some ((fX6_kindBy (nI c)).getD 0) := by decide +kernel
theorem in_19 : ∀ c, c < 127 → fX6_in (Int32.toInt64 (nI c - 48)) (1 : Int64) (9 : Int64) = fX5_within (nI c) 49 57 := by decide +kernel
theorem in_09 : ∀ c, c < 127 → fX6_in (Int32.toInt64 (nI c - 48)) (0 : Int64) (9 : Int64) = fX5_within (nI c) 48 57 := by decide +kernel
theorem in_03 : ∀ c, c < 127 → fX6_in (Int32.toInt64 (nI c - 48)) (0 : Int64) (3 : Int64) = fX5_within (nI c) 48 51 := by decide +kernel
