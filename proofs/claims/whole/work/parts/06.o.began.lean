/-! who began -/
def itC (kd pl st : Nat → Int32) (w : Nat) (arm : Int32) (z : Tri) : Nat → Tri
  | 0 => z
  | n + 1 => stC kd pl st w arm (itC kd pl st w arm z n)
theorem it_sim {kd pl st rw_ : Nat → Int32} {w : Nat} (hw : w ≤ 8) (arm : Int32) (hH : HR w kd pl st rw_) {z z' : Tri} (h : SRt w z z') : ∀ n, SRt w (itC kd pl st w arm z n) (itM rw_ w arm z' n)
  | 0 => h
  | n + 1 => st_sim hw arm hH (it_sim hw arm hH h n)
theorem recAt_s {rs : Nat → Int32} {k : Nat} (hk : k < 8) : fX3_recordedAt rs (nI k) = some (rs k) := by
  unfold fX3_recordedAt
  rw [wi_in (x := nI k) (lo := 0) (hi := 7) (nI_pos (by omega)) (nI_nlt (a := 7) (b := k) (by omega) (by omega)), kb, if_neg i10, kld_nI hk (by omega), kb]
/-- the record, held against the bars of a night -/
theorem rec_sim {kd pl st rw_ rs rs' : Nat → Int32} {w n : Nat} (hw : w ≤ 8) (hn : n ≤ 8) (arm : Int32) (hH : HR w kd pl st rw_) (hr : ∀ k, k < n → rs k = rs' k) {z z' : Tri} (h : SRt w z z') (u2 : Int32 × (Nat → Int32) × (Nat → Int32)) (hu : u2.1 = arm) :
    ∃ (v : Int32) (r1 r2 : Tri) (i : Int32), (v = 0 ∨ v = 1) ∧ kIter (fX5_beganSo_L1 kd pl st (nI w) rs (nI n) u2) 300 (0, z) = some (v, arm, r1) ∧ kIter (fX6_isRecordedBy_L2 (nI w) arm rw_ (nI n) rs') 300 (1, 0, z') = some (v, i, r2) := by
  have hR : ∀ k, ∃ x, fX0_palmsRight (itC kd pl st w arm z (k + 1)).1 pl (nI w) = some x ∧ fX6_rightNow (nI w) rw_ (itM rw_ w arm z' (k + 1)).1 = some x := fun k => right_sim hw hH (it_sim hw arm hH h (k + 1))
  obtain ⟨X, hX⟩ := Classical.axiomOfChoice hR
  have stepC : ∀ k, k < n → ∀ rc, fX5_beganSo_L1 kd pl st (nI w) rs (nI n) u2 rc (nI k, itC kd pl st w arm z k) = if X k = rs k then rc (nI (k + 1), itC kd pl st w arm z (k + 1)) else some (0, arm, itC kd pl st w arm z (k + 1)) := fun k hk rc => by
    unfold fX5_beganSo_L1
    rw [if_neg (nI_ge hk (by omega)), hu]
    dsimp only
    rw [stC_eq hw arm (itC kd pl st w arm z k), kb]
    dsimp only
    have e := (hX k).1
    have e' : fX0_palmsRight (stC kd pl st w arm (itC kd pl st w arm z k)).1 pl (nI w) = some (X k) := e
    rw [e', kb, recAt_s (by omega), kb, nI_1]; rfl
  have stepM : ∀ k, k < n → ∀ rc, fX6_isRecordedBy_L2 (nI w) arm rw_ (nI n) rs' rc (1, nI k, itM rw_ w arm z' k) = if X k = rs k then rc (1, nI (k + 1), itM rw_ w arm z' (k + 1)) else rc (0, nI (k + 1), itM rw_ w arm z' (k + 1)) := fun k hk rc => by
    unfold fX6_isRecordedBy_L2
    rw [if_neg (nI_ge hk (by omega)), if_neg i10]
    dsimp only
    rw [stM_eq hw arm (itM rw_ w arm z' k), kb]
    have e := (hX k).2
    have e' : fX6_rightNow (nI w) rw_ (stM rw_ w arm (itM rw_ w arm z' k)).1 = some (X k) := e
    rw [e', kb, kld_nI (by omega) (by omega), kb, ← hr k hk, nI_1]; rfl
  by_cases hall : ∃ k, k < n ∧ ¬ X k = rs k
  · obtain ⟨f, ⟨hf, hfx⟩, hmin⟩ := pk_least (fun k => k < n ∧ ¬ X k = rs k) hall
    have hok : ∀ k, k < f → X k = rs k := fun k hk => Decidable.byContradiction fun q => hmin k hk ⟨by omega, q⟩
    refine ⟨0, itC kd pl st w arm z (f + 1), itM rw_ w arm z' (f + 1), nI (f + 1), Or.inl rfl, ?_, ?_⟩
    · exact kIter_up (fun k => (nI k, itC kd pl st w arm z k)) f (by omega) (fun k hk rc => by rw [stepC k (by omega) rc, if_pos (hok k hk)]) (fun rc => by rw [stepC f hf rc, if_neg hfx])
    · have := kIter_up (step := fX6_isRecordedBy_L2 (nI w) arm rw_ (nI n) rs') (fun k => if k ≤ f then ((1 : Int32), nI k, itM rw_ w arm z' k) else ((0 : Int32), nI (f + 1), itM rw_ w arm z' (f + 1))) (f + 1) (r := ((0 : Int32), nI (f + 1), itM rw_ w arm z' (f + 1))) (by omega) (fun k hk rc => by
        rw [if_pos (by omega), stepM k (by omega) rc]
        by_cases q : k = f
        · subst q
          rw [if_neg hfx, if_neg (by omega)]
        · rw [if_pos (hok k (by omega)), if_pos (by omega)]) (fun rc => by
        rw [if_neg (by omega)]
        unfold fX6_isRecordedBy_L2
        dsimp only
        by_cases q : nI n ≤ nI (f + 1)
        · rw [if_pos q]
        · rw [if_neg q, if_pos rfl])
      rw [if_pos (Nat.zero_le f)] at this
      exact this
  · have hok : ∀ k, k < n → X k = rs k := fun k hk => Decidable.byContradiction fun q => hall ⟨k, hk, q⟩
    refine ⟨1, itC kd pl st w arm z n, itM rw_ w arm z' n, nI n, Or.inr rfl, ?_, ?_⟩
    · exact kIter_up (fun k => (nI k, itC kd pl st w arm z k)) n (by omega) (fun k hk rc => by rw [stepC k hk rc, if_pos (hok k hk)]) (fun rc => by
        unfold fX5_beganSo_L1
        rw [if_pos (nI_le (Nat.le_refl n) (by omega)), hu])
    · exact kIter_up (fun k => ((1 : Int32), nI k, itM rw_ w arm z' k)) n (by omega) (fun k hk rc => by rw [stepM k hk rc, if_pos (hok k hk)]) (fun rc => by
        unfold fX6_isRecordedBy_L2
        rw [if_pos (nI_le (Nat.le_refl n) (by omega))])
theorem nums {m : Nat} (hm : m < 256) : nI m / 32 = nI (m / 32) ∧ (nI m / 4) - (nI m / 4) / 8 * 8 = nI (m / 4 % 8) ∧ (nI m / 2) - (nI m / 2) / 2 * 2 = nI (m / 2 % 2) ∧ nI m - nI m / 2 * 2 = nI (m % 2) ∧ nI m - nI m / 4 * 4 = nI (m % 4) := by
  refine ⟨pk_div (d := 32) (by omega) (by decide) (by decide), ?_, ?_, pk_rem (d := 2) (by omega) (by decide) (by decide), pk_rem (d := 4) (by omega) (by decide) (by decide)⟩
  · rw [show nI m / 4 = nI (m / 4) from pk_div (d := 4) (by omega) (by decide) (by decide)]
    exact pk_rem (d := 8) (by omega) (by decide) (by decide)
  · rw [show nI m / 2 = nI (m / 2) from pk_div (d := 2) (by omega) (by decide) (by decide)]
    exact pk_rem (d := 2) (by omega) (by decide) (by decide)
