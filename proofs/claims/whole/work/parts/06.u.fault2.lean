/-! one letter, held against the name so far -/
theorem at4 {k : Nat} (hk : k < 36) : nI k - nI k / 4 * 4 = nI (k % 4) ∧ nI k / 4 + 1 = nI (k / 4 + 1) := by
  refine ⟨pk_rem (d := 4) (by omega) (by decide) (by decide), ?_⟩
  rw [show nI k / 4 = nI (k / 4) from pk_div (d := 4) (by omega) (by decide) (by decide), nI_1]
theorem kz_w (x lo hi : Int32) : ∃ v, (v = 0 ∨ v = 1) ∧ fX5_within x lo hi = some v ∧ kz v = some v := by
  rcases wi_cases x lo hi with ⟨h, -⟩ | ⟨h, -⟩
  · exact ⟨0, Or.inl rfl, h, rfl⟩
  · exact ⟨1, Or.inr rfl, h, rfl⟩
theorem go0 {cs rd : Nat → Int32} {k c : Nat} {rl : Int32} (hk : k ≤ 31) (h4 : k % 4 = 0) (hc : c < 127) (e : cs k = nI c) : ∃ v K, (v = 0 ∨ v = 1) ∧ fX6_kindBy (nI c) = some K ∧ fX4_fits cs (nI k) (-1) = some v ∧ fX6_go rd (nI (k / 4)) rl 0 (nI c) = some (v, nI (k / 4), rl, 1, upd rd (3 * (k / 4)) K) := by
  have hK := kind_v c hc
  unfold fX4_fits fX6_go
  rw [codeAt_s (by omega), kb, if_pos rfl, (at4 (show k < 36 by omega)).1, h4, if_pos (show nI 0 = (0 : Int32) from rfl), e, kind_s c hc, if_pos rfl, hK, kb, kb, tri0, kst_nI (show 3 * (k / 4) < 24 by omega) (by omega), kb, kb]
  by_cases q : (fX6_kindBy (nI c)).getD 0 = -1
  · rw [if_pos q, if_pos q]; exact ⟨0, _, Or.inl rfl, rfl, rfl, rfl⟩
  · rw [if_neg q, if_neg q]; exact ⟨1, _, Or.inr rfl, rfl, rfl, rfl⟩
theorem go1 {cs rd : Nat → Int32} {k c : Nat} {rl : Int32} (hk : k ≤ 31) (h4 : k % 4 = 1) (hc : c < 127) (e : cs k = nI c) : ∃ v, (v = 0 ∨ v = 1) ∧ fX4_fits cs (nI k) (-1) = some v ∧ fX6_go rd (nI (k / 4)) rl 1 (nI c) = some (v, nI (k / 4), rl, 2, upd rd (3 * (k / 4) + 1) (nI c - 48)) := by
  obtain ⟨v, h1, h2, h3⟩ := kz_w (nI c) 49 57
  unfold fX4_fits fX6_go
  rw [codeAt_s (by omega), kb, if_pos rfl, (at4 (show k < 36 by omega)).1, h4, if_neg (show ¬ nI 1 = (0 : Int32) by decide), if_pos (show nI 1 = (1 : Int32) from rfl), e, h2, kb, h3, kb, if_neg i10, if_pos rfl, tri1, kst_nI (show 3 * (k / 4) + 1 < 24 by omega) (by omega), kb, in_19 c hc, h2, kb, h3, kb]
  exact ⟨v, h1, rfl, rfl⟩
theorem go2 {cs rd : Nat → Int32} {k c : Nat} {rl : Int32} (hk : k ≤ 31) (h4 : k % 4 = 2) (hc : c < 127) (e : cs k = nI c) : ∃ v, (v = 0 ∨ v = 1) ∧ fX4_fits cs (nI k) (-1) = some v ∧ fX6_go rd (nI (k / 4)) rl 2 (nI c) = some (v, nI (k / 4 + 1), rl, 3, upd rd (3 * (k / 4) + 2) (nI c - 48)) := by
  obtain ⟨v, h1, h2, h3⟩ := kz_w (nI c) 48 57
  unfold fX4_fits fX6_go
  rw [codeAt_s (by omega), kb, if_pos rfl, (at4 (show k < 36 by omega)).1, h4, if_neg (show ¬ nI 2 = (0 : Int32) by decide), if_neg (show ¬ nI 2 = (1 : Int32) by decide), if_pos (show nI 2 = (2 : Int32) from rfl), e, h2, kb, h3, kb, if_neg (show ¬ (2 : Int32) = 0 by decide), if_neg (show ¬ (2 : Int32) = 1 by decide), if_pos rfl, tri2, kst_nI (show 3 * (k / 4) + 2 < 24 by omega) (by omega), kb, in_09 c hc, h2, kb, h3, kb, nI_1]
  exact ⟨v, h1, rfl, rfl⟩
theorem go4 {cs rd : Nat → Int32} {k c : Nat} {m rl : Int32} (hk : k < 35) (hc : c < 127) (e : cs (k + 1) = nI c) : ∃ v, (v = 0 ∨ v = 1) ∧ fX4_fits cs (nI (k + 1)) (nI k) = some v ∧ fX6_go rd m rl 4 (nI c) = some (v, m, nI c - 48, 5, rd) := by
  obtain ⟨v, h1, h2, h3⟩ := kz_w (nI c) 48 51
  have hz : ¬ nI k = -1 := fun g => nI_pos (n := k) (by omega) (by rw [g]; decide)
  unfold fX4_fits fX6_go
  rw [codeAt_s (by omega), kb, if_neg hz, if_pos (nI_1 k).symm, e, h2, kb, if_neg (show ¬ (4 : Int32) = 0 by decide), if_neg (show ¬ (4 : Int32) = 1 by decide), if_neg (show ¬ (4 : Int32) = 2 by decide), if_neg (show ¬ (4 : Int32) = 3 by decide), if_pos rfl, in_03 c hc, h2, kb]
  rcases h1 with rfl | rfl
  · exact ⟨0, Or.inl rfl, rfl, rfl⟩
  · exact ⟨1, Or.inr rfl, rfl, rfl⟩
