/-! the sign behind a row, and what lies behind the end -/
theorem go3 {cs rd : Nat → Int32} {k c : Nat} {rl : Int32} (hk : k ≤ 31) (h4 : k % 4 = 3) (e : cs k = nI c) : (fX4_fits cs (nI k) (-1) = some 0 ∧ ∃ s, fX6_go rd (nI (k / 4 + 1)) rl 3 (nI c) = some (0, nI (k / 4 + 1), rl, s, rd)) ∨ (nI c = 44 ∧ k < 31 ∧ fX4_fits cs (nI k) (-1) = some 1 ∧ fX6_go rd (nI (k / 4 + 1)) rl 3 (nI c) = some (1, nI (k / 4 + 1), rl, 0, rd)) ∨ (nI c = 59 ∧ 11 ≤ k ∧ fX4_fits cs (nI k) (-1) = some 1 ∧ fX6_go rd (nI (k / 4 + 1)) rl 3 (nI c) = some (1, nI (k / 4 + 1), rl, 4, rd)) := by
  unfold fX4_fits fX6_go fX4_followsRow
  rw [codeAt_s (by omega), kb, if_pos rfl, (at4 (show k < 36 by omega)).1, (at4 (show k < 36 by omega)).2, h4, if_neg (show ¬ nI 3 = (0 : Int32) by decide), if_neg (show ¬ nI 3 = (1 : Int32) by decide), if_neg (show ¬ nI 3 = (2 : Int32) by decide), e, if_neg (show ¬ (3 : Int32) = 0 by decide), if_neg (show ¬ (3 : Int32) = 1 by decide), if_neg (show ¬ (3 : Int32) = 2 by decide), if_pos rfl]
  by_cases q : nI c = (44 : Int32)
  · rw [if_pos q, if_pos q, kb, if_pos q]
    by_cases g : 8 ≤ k / 4 + 1
    · have g1 : (8 : Int32) ≤ nI (k / 4 + 1) := nI_le (a := 8) g (by omega)
      rw [if_pos g1, if_pos g1]
      exact Or.inl ⟨rfl, _, rfl⟩
    · have g1 : ¬ (8 : Int32) ≤ nI (k / 4 + 1) := n8 (by omega)
      rw [if_neg g1, if_neg g1]
      exact Or.inr (Or.inl ⟨q, by omega, rfl, rfl⟩)
  · rw [if_neg q, if_neg q, kb, if_neg q]
    by_cases y : nI c = (59 : Int32)
    · rw [if_pos y, if_pos y]
      by_cases g : k / 4 + 1 < 3
      · have g1 : nI (k / 4 + 1) < (3 : Int32) := nI_lt (a := k / 4 + 1) (b := 3) g (by omega)
        have g2 : nI (k / 4 + 1) ≤ (2 : Int32) := nI_le (a := k / 4 + 1) (b := 2) (by omega) (by omega)
        rw [if_pos g1, if_pos g2]
        exact Or.inl ⟨rfl, _, rfl⟩
      · have g1 : ¬ nI (k / 4 + 1) < (3 : Int32) := nI_nlt (a := k / 4 + 1) (b := 3) (by omega) (by omega)
        have g2 : ¬ nI (k / 4 + 1) ≤ (2 : Int32) := nI_ge (a := 2) (b := k / 4 + 1) (by omega) (by omega)
        rw [if_neg g1, if_neg g2]
        exact Or.inr (Or.inr ⟨y, by omega, rfl, rfl⟩)
    · rw [if_neg y, if_neg y]
      exact Or.inl ⟨rfl, _, rfl⟩
theorem go5 {cs rd : Nat → Int32} {k : Nat} {m rl x : Int32} (hk : k < 34) : fX4_fits cs (nI (k + 2)) (nI k) = some 0 ∧ fX6_go rd m rl 5 x = some (0, m, x - 48, 6, rd) := by
  have hz : ¬ nI k = -1 := fun g => nI_pos (n := k) (by omega) (by rw [g]; decide)
  have hne : ¬ nI (k + 2) = nI k + 1 := by
    rw [nI_1]
    exact fun g => absurd (nI_le (a := k + 2) (b := k + 2) (Nat.le_refl _) (by omega)) (by rw [g]; exact g ▸ nI_ge (a := k + 1) (b := k + 2) (by omega) (by omega))
  unfold fX4_fits fX6_go
  rw [codeAt_s (by omega), kb, if_neg hz, if_neg hne, if_neg (show ¬ (5 : Int32) = 0 by decide), if_neg (show ¬ (5 : Int32) = 1 by decide), if_neg (show ¬ (5 : Int32) = 2 by decide), if_neg (show ¬ (5 : Int32) = 3 by decide), if_neg (show ¬ (5 : Int32) = 4 by decide)]
  exact ⟨rfl, rfl⟩
