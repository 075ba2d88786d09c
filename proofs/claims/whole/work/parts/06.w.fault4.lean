/-! the name of a hall, read on both sides -/
def RdS (cs : Nat → Int32) (k : Nat) (rd : Nat → Int32) : Prop := ∀ j, (4 * j < k → fX6_kindBy (cs (4 * j)) = some (rd (3 * j))) ∧ (4 * j + 1 < k → rd (3 * j + 1) = cs (4 * j + 1) - 48) ∧ (4 * j + 2 < k → rd (3 * j + 2) = cs (4 * j + 2) - 48)
theorem rd0 {cs rd : Nat → Int32} {k : Nat} {K : Int32} (h : RdS cs k rd) (h4 : k % 4 = 0) (e : fX6_kindBy (cs k) = some K) : RdS cs (k + 1) (upd rd (3 * (k / 4)) K) := fun j => by
  obtain ⟨a, b, c⟩ := h j
  unfold upd
  refine ⟨fun q => ?_, fun q => ?_, fun q => ?_⟩
  · by_cases g : j = k / 4
    · rw [if_pos (by omega), show 4 * j = k by omega]; exact e
    · rw [if_neg (by omega)]; exact a (by omega)
  · rw [if_neg (by omega)]; exact b (by omega)
  · rw [if_neg (by omega)]; exact c (by omega)
theorem rd1 {cs rd : Nat → Int32} {k : Nat} (h : RdS cs k rd) (h4 : k % 4 = 1) : RdS cs (k + 1) (upd rd (3 * (k / 4) + 1) (cs k - 48)) := fun j => by
  obtain ⟨a, b, c⟩ := h j
  unfold upd
  refine ⟨fun q => ?_, fun q => ?_, fun q => ?_⟩
  · rw [if_neg (by omega)]; exact a (by omega)
  · by_cases g : j = k / 4
    · rw [if_pos (by omega), show 4 * j + 1 = k by omega]
    · rw [if_neg (by omega)]; exact b (by omega)
  · rw [if_neg (by omega)]; exact c (by omega)
theorem rd2 {cs rd : Nat → Int32} {k : Nat} (h : RdS cs k rd) (h4 : k % 4 = 2) : RdS cs (k + 1) (upd rd (3 * (k / 4) + 2) (cs k - 48)) := fun j => by
  obtain ⟨a, b, c⟩ := h j
  unfold upd
  refine ⟨fun q => ?_, fun q => ?_, fun q => ?_⟩
  · rw [if_neg (by omega)]; exact a (by omega)
  · rw [if_neg (by omega)]; exact b (by omega)
  · by_cases g : j = k / 4
    · rw [if_pos (by omega), show 4 * j + 2 = k by omega]
    · rw [if_neg (by omega)]; exact c (by omega)
theorem rd3 {cs rd : Nat → Int32} {k : Nat} (h : RdS cs k rd) (h4 : k % 4 = 3) : RdS cs (k + 1) rd := fun j => by
  obtain ⟨a, b, c⟩ := h j
  exact ⟨fun q => a (by omega), fun q => b (by omega), fun q => c (by omega)⟩
