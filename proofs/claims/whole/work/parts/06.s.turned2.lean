/-! the fewest rows turned -/
theorem bits_eq : ∀ m, m < 256 → fX6_ones (nI m) = fJ6_bitCount_0f7a4 (nI m) := by decide +kernel
theorem bits_le : ∀ w, w < 9 → ∀ m, m < 2 ^ w → ∃ v, fJ6_bitCount_0f7a4 (nI m) = some v ∧ ¬ nI (w + 1) ≤ v := by
  have h : ∀ w, w < 9 → ∀ m, m < 2 ^ w → ¬ nI (w + 1) ≤ (fJ6_bitCount_0f7a4 (nI m)).getD 0 := by decide +kernel
  intro w hw m hm
  exact ⟨_, rfl, h w hw m hm⟩
theorem pow_s : ∀ w, w < 9 → (1 : Int32) <<< (nI w &&& 31) = nI (2 ^ w) := by decide +kernel
theorem pow_le : ∀ w, w < 9 → 2 ^ w ≤ 256 := by decide
theorem few_sim {kd pl st rw_ sn cl sn' cl' : Nat → Int32} {w n : Nat} (hw : w ≤ 8) (hn : n < 100) (arm : Int32) (hH : HR w kd pl st rw_) (h : SR w sn cl sn' cl') (ts tc tx : Nat → Int32) (ta : Int32) (now nl ah : Nat → Int32) (na : Int32) :
    ∃ r r', fX5_fewestTurned kd pl st (nI w) sn cl arm ts tc tx ta (nI n) = some r ∧ kIter (fX6_turned_L1 (nI w) arm rw_ sn' cl' (nI n)) 300 ((-1), 0, na, now, nl, ah) = some r' ∧ r.1 = r'.1 ∧ (r.1 = -1 ∨ ∃ b, b < 256 ∧ r.1 = nI b) := by
  have hp := pow_le w (by omega)
  obtain ⟨r, r', h1, h2, h3, h4⟩ := kIter_sim (step := fX5_fewestTurned_L1 kd pl st (nI w) sn cl arm (nI n)) (step' := fX6_turned_L1 (nI w) arm rw_ sn' cl' (nI n))
    (fun k z z' => z.2.2.1 = nI k ∧ z'.2.1 = nI k ∧ z.1 = z'.1 ∧ ((z.1 = -1 ∧ z.2.1 = nI (w + 1)) ∨ ∃ b, b < 256 ∧ z.1 = nI b ∧ fJ6_bitCount_0f7a4 (nI b) = some z.2.1))
    (fun r r' => r.1 = r'.1 ∧ (r.1 = -1 ∨ ∃ b, b < 256 ∧ r.1 = nI b)) (2 ^ w) (fun k z z' hk q => by
      obtain ⟨q1, q2, q3, q4⟩ := q
      obtain ⟨c, hc, hcw⟩ := bits_le w (by omega) k hk
      obtain ⟨v, r1, r2, hv, k1, k2⟩ := win_sim hw hn arm hH h (nI k) z.2.2.2.2 z'.2.2.2
      have ho : fX6_ones (nI k) = some c := by rw [bits_eq k (by omega), hc]
      have hg : ¬ nI (2 ^ w) ≤ nI k := nI_ge hk (by omega)
      left
      rcases q4 with ⟨y1, y2⟩ | ⟨b, hb, y1, y2⟩
      · rcases hv with rfl | rfl
        · refine ⟨(z.1, z.2.1, nI (k + 1), r1.1, r1.2.1, r1.2.2.1, r1.2.2.2), (z'.1, nI (k + 1), r2.1, r2.2.1, r2.2.2.1, r2.2.2.2), fun rc => ?_, fun rc => ?_, rfl, rfl, q3, Or.inl ⟨y1, y2⟩⟩
          · unfold fX5_fewestTurned_L1
            rw [pow_s w (by omega), q1, if_neg hg, hc, kb, y2, if_neg hcw, k1, kb, if_pos rfl, nI_1]
          · unfold fX6_turned_L1
            rw [pow_s w (by omega), q2, if_neg hg, ← q3, if_pos y1, k2, kb, if_pos rfl, nI_1]
        · refine ⟨(nI k, c, nI (k + 1), r1.1, r1.2.1, r1.2.2.1, r1.2.2.2), (nI k, nI (k + 1), r2.1, r2.2.1, r2.2.2.1, r2.2.2.2), fun rc => ?_, fun rc => ?_, rfl, rfl, rfl, Or.inr ⟨k, by omega, rfl, hc⟩⟩
          · unfold fX5_fewestTurned_L1
            rw [pow_s w (by omega), q1, if_neg hg, hc, kb, y2, if_neg hcw, k1, kb, if_neg i10, nI_1]
          · unfold fX6_turned_L1
            rw [pow_s w (by omega), q2, if_neg hg, ← q3, if_pos y1, k2, kb, if_neg i10, nI_1]
      · have hz : ¬ z.1 = -1 := by
          rw [y1]; exact fun g => nI_pos (n := b) (by omega) (by rw [g]; decide)
        have hb' : fX6_ones z'.1 = some z.2.1 := by rw [← q3, y1, bits_eq b hb, y2]
        by_cases g : z.2.1 ≤ c
        · refine ⟨(z.1, z.2.1, nI (k + 1), z.2.2.2.1, z.2.2.2.2.1, z.2.2.2.2.2.1, z.2.2.2.2.2.2), (z'.1, nI (k + 1), z'.2.2.1, z'.2.2.2.1, z'.2.2.2.2.1, z'.2.2.2.2.2), fun rc => ?_, fun rc => ?_, rfl, rfl, q3, Or.inr ⟨b, hb, y1, y2⟩⟩
          · unfold fX5_fewestTurned_L1
            rw [pow_s w (by omega), q1, if_neg hg, hc, kb, if_pos g, nI_1]
          · unfold fX6_turned_L1
            rw [pow_s w (by omega), q2, if_neg hg, if_neg (by rw [← q3]; exact hz), ho, kb, hb', kb, if_pos g, nI_1]
        · rcases hv with rfl | rfl
          · refine ⟨(z.1, z.2.1, nI (k + 1), r1.1, r1.2.1, r1.2.2.1, r1.2.2.2), (z'.1, nI (k + 1), r2.1, r2.2.1, r2.2.2.1, r2.2.2.2), fun rc => ?_, fun rc => ?_, rfl, rfl, q3, Or.inr ⟨b, hb, y1, y2⟩⟩
            · unfold fX5_fewestTurned_L1
              rw [pow_s w (by omega), q1, if_neg hg, hc, kb, if_neg g, k1, kb, if_pos rfl, nI_1]
            · unfold fX6_turned_L1
              rw [pow_s w (by omega), q2, if_neg hg, if_neg (by rw [← q3]; exact hz), ho, kb, hb', kb, if_neg g, k2, kb, if_pos rfl, nI_1]
          · refine ⟨(nI k, c, nI (k + 1), r1.1, r1.2.1, r1.2.2.1, r1.2.2.2), (nI k, nI (k + 1), r2.1, r2.2.1, r2.2.2.1, r2.2.2.2), fun rc => ?_, fun rc => ?_, rfl, rfl, rfl, Or.inr ⟨k, by omega, rfl, hc⟩⟩
            · unfold fX5_fewestTurned_L1
              rw [pow_s w (by omega), q1, if_neg hg, hc, kb, if_neg g, k1, kb, if_neg i10, nI_1]
            · unfold fX6_turned_L1
              rw [pow_s w (by omega), q2, if_neg hg, if_neg (by rw [← q3]; exact hz), ho, kb, hb', kb, if_neg g, k2, kb, if_neg i10, nI_1]) (fun z z' q => by
      obtain ⟨q1, q2, q3, q4⟩ := q
      refine ⟨(z.1, z.2.1, z.2.2.1, z.2.2.2.1, z.2.2.2.2.1, z.2.2.2.2.2.1, z.2.2.2.2.2.2), (z'.1, z'.2.1, z'.2.2.1, z'.2.2.2.1, z'.2.2.2.2.1, z'.2.2.2.2.2), fun rc => ?_, fun rc => ?_, q3, ?_⟩
      · unfold fX5_fewestTurned_L1
        rw [pow_s w (by omega), if_pos (by rw [q1]; exact nI_le (Nat.le_refl _) (by omega))]
      · unfold fX6_turned_L1
        rw [pow_s w (by omega), if_pos (by rw [q2]; exact nI_le (Nat.le_refl _) (by omega))]
      · rcases q4 with ⟨y1, -⟩ | ⟨b, hb, y1, -⟩
        · exact Or.inl y1
        · exact Or.inr ⟨b, hb, y1⟩) (2 ^ w) 0 (by omega) 300 (by omega) ((-1), (nI w + 1), 0, ta, ts, tc, tx) ((-1), 0, na, now, nl, ah) ⟨rfl, rfl, rfl, Or.inl ⟨rfl, nI_1 w⟩⟩
  unfold fX5_fewestTurned
  rw [h1, kb]
  exact ⟨_, _, rfl, h2, h3, h4⟩
