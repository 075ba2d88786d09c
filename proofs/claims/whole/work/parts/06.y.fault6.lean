theorem no59 {cs : Nat → Int32} {k : Nat} (hk : k < 36) (h4 : ¬ k % 4 = 3) (e : cs k = 59) : fX4_fits cs (nI k) (-1) = some 0 := by
  unfold fX4_fits
  rw [codeAt_s hk, kb, if_pos rfl, (at4 hk).1, e]
  rcases (show k % 4 = 0 ∨ k % 4 = 1 ∨ k % 4 = 2 by omega) with g | g | g <;> rw [g]
  · rw [if_pos (show nI 0 = (0 : Int32) from rfl)]; decide +kernel
  · rw [if_neg (show ¬ nI 1 = (0 : Int32) by decide), if_pos (show nI 1 = (1 : Int32) from rfl)]; decide +kernel
  · rw [if_neg (show ¬ nI 2 = (0 : Int32) by decide), if_neg (show ¬ nI 2 = (1 : Int32) by decide), if_pos (show nI 2 = (2 : Int32) from rfl)]; decide +kernel
theorem fits4 {cs : Nat → Int32} {k : Nat} (hk : k < 35) : fX4_fits cs (nI (k + 1)) (nI k) = fX5_within (cs (k + 1)) 48 51 := by
  have hz : ¬ nI k = -1 := fun g => nI_pos (n := k) (by omega) (by rw [g]; decide)
  obtain ⟨v, h1, h2, h3⟩ := kz_w (cs (k + 1)) 48 51
  unfold fX4_fits
  rw [codeAt_s (by omega), kb, if_neg hz, if_pos (nI_1 k).symm, h2, kb]
  rcases h1 with rfl | rfl
  · rfl
  · rfl
