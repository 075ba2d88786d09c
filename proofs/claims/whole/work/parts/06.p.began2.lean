/-! one way to begin -/
theorem recL1 (now nl : Nat → Int32) : kIter fX6_isRecordedBy_L1 300 (0, now, nl) = some (nI 8, fill 8 (fun _ => 3) now, fill 8 (fun _ => 0) nl) := by
  have := kIter_up (step := fX6_isRecordedBy_L1) (fun k => (nI k, fill k (fun _ => (3 : Int32)) now, fill k (fun _ => (0 : Int32)) nl)) 8 (r := (nI 8, fill 8 (fun _ => (3 : Int32)) now, fill 8 (fun _ => (0 : Int32)) nl)) (by omega) (fun k hk rc => by
    unfold fX6_isRecordedBy_L1
    rw [if_neg (n8 hk)]
    dsimp only
    have ec : upd (fill k (fun _ => (0 : Int32)) nl) k 0 = fill (k + 1) (fun _ => 0) nl := fill_succ k (fun _ => 0) nl
    have es : upd (fill k (fun _ => (3 : Int32)) now) k 3 = fill (k + 1) (fun _ => 3) now := fill_succ k (fun _ => 3) now
    rw [kst_nI hk (by omega), kb, kst_nI hk (by omega), kb, ec, es, nI_1]) (fun rc => by
    unfold fX6_isRecordedBy_L1
    rw [if_pos (show (8 : Int32) ≤ nI 8 by decide)])
  rw [fill_0, fill_0] at this
  exact this
theorem bit12 {c : Nat} (h : c < 2) : (if nI c = (1 : Int32) then some (2 : Int32) else some 1) = some (nI c + 1) := by
  rcases (show c = 0 ∨ c = 1 by omega) with rfl | rfl <;> rfl
theorem bit0 {c : Nat} (h : c < 2) : ¬ nI c + 1 = (0 : Int32) := by
  rcases (show c = 0 ∨ c = 1 by omega) with rfl | rfl <;> decide
def tryM (many arm : Int32) (rows : Nat → Int32) (rm : Int32) (rcs : Nat → Int32) (p na : Int32) (z : Tri) : Option (Int32 × Int32 × Tri) :=
  if ((p / 4) - (p / 4) / 8 * 8) ≤ (p / 32) then
    some (0, na, z)
  else
    if many ≤ ((p / 4) - (p / 4) / 8 * 8) then
      some (0, na, z)
    else
      (fX6_isRecordedBy many arm rows z.1 z.2.1 z.2.2 rm rcs (p / 32) ((p / 4) - (p / 4) / 8 * 8) (p - p / 4 * 4)).bind fun u6 =>
        if u6.1 = (0 : Int32) then
          some (0, u6.2.1, u6.2.2.1, u6.2.2.2.1, u6.2.2.2.2)
        else
          some (1, u6.2.1, u6.2.2.1, u6.2.2.2.1, u6.2.2.2.2)
theorem try_sim {kd pl st rw_ rs rs' : Nat → Int32} {w n m : Nat} (hw : w ≤ 8) (hn : n ≤ 8) (hm : m < 256) (arm : Int32) (hH : HR w kd pl st rw_) (hr : ∀ k, k < n → rs k = rs' k) (z z' : Tri) (ar na : Int32) :
    ∃ (v : Int32) (r1 r2 : Int32 × Tri), (v = 0 ∨ v = 1) ∧ fX5_beganSo kd pl st (nI w) arm rs (nI n) z.1 z.2.1 z.2.2 ar (nI m) = some (v, r1) ∧ tryM (nI w) arm rw_ (nI n) rs' (nI m) na z' = some (v, r2) := by
  obtain ⟨e1, e2, e3, e4, e5⟩ := nums hm
  unfold fX5_beganSo tryM
  rw [e1, e2, e3, e4, e5]
  by_cases q : m / 4 % 8 ≤ m / 32
  · rw [if_pos (nI_le q (by omega)), if_pos (nI_le q (by omega))]
    exact ⟨0, _, _, Or.inl rfl, rfl, rfl⟩
  · have q' : ¬ nI (m / 4 % 8) ≤ nI (m / 32) := nI_ge (by omega) (by omega)
    rw [if_neg q', if_neg q', has_C hw, kb, if_neg (nI_pos (by omega))]
    by_cases g : w ≤ m / 4 % 8
    · rw [if_neg (nI_nlt g (by omega)), if_pos rfl, if_pos (nI_le g (by omega))]
      exact ⟨0, _, _, Or.inl rfl, rfl, rfl⟩
    · rw [if_pos (nI_lt (by omega) (by omega)), if_neg i10, if_neg (nI_ge (by omega) (by omega))]
      rw [begin_C, kb, bit12 (by omega), kb]
      dsimp only
      rw [let_C _ _ (show m / 32 < 8 by omega), kb, bit12 (by omega), kb]
      dsimp only
      rw [let_C _ _ (show m / 4 % 8 < 8 by omega), kb, if_neg (bit0 (by omega)), if_neg (bit0 (by omega))]
      unfold fX6_isRecordedBy
      rw [recL1, kb]
      dsimp only
      have d1 : nI (m % 4) / 2 = nI (m / 2 % 2) := by
        rw [show nI (m % 4) / 2 = nI (m % 4 / 2) from pk_div (d := 2) (by omega) (by decide) (by decide), show m % 4 / 2 = m / 2 % 2 by omega]
      have d2 : nI (m % 4) - nI (m % 4) / 2 * 2 = nI (m % 2) := by
        rw [show nI (m % 4) - nI (m % 4) / 2 * 2 = nI (m % 4 % 2) from pk_rem (d := 2) (by omega) (by decide) (by decide), show m % 4 % 2 = m % 2 by omega]
      rw [d2, d1, kst_nI (show m / 32 < 8 by omega) (by omega), kb, kst_nI (show m / 4 % 8 < 8 by omega) (by omega), kb]
      obtain ⟨v, r1, r2, i, hv, k1, k2⟩ := rec_sim (rs := rs) (rs' := rs') hw hn arm hH hr (z := (upd (upd (fill 8 (fun _ => (3 : Int32)) z.1) (m / 32) (nI (m / 2 % 2) + 1)) (m / 4 % 8) (nI (m % 2) + 1), fill 8 (fun _ => (0 : Int32)) z.2.1, z.2.2)) (z' := (upd (upd (fill 8 (fun _ => (3 : Int32)) z'.1) (m / 32) (nI (m / 2 % 2) + 1)) (m / 4 % 8) (nI (m % 2) + 1), fill 8 (fun _ => (0 : Int32)) z'.2.1, z'.2.2)) (fun k hk => ⟨by
        dsimp only
        unfold upd
        rw [fill_in (show k < 8 by omega), fill_in (show k < 8 by omega)], by
        dsimp only
        rw [fill_in (show k < 8 by omega), fill_in (show k < 8 by omega)]⟩) (arm, fill 8 (fun _ => (3 : Int32)) z.1, fill 8 (fun _ => (0 : Int32)) z.2.1) rfl
      rw [k1, k2, kb]
      dsimp only
      rcases hv with rfl | rfl
      · exact ⟨0, _, _, Or.inl rfl, rfl, rfl⟩
      · exact ⟨1, _, _, Or.inr rfl, rfl, rfl⟩
/-- a way's answer hangs on the way alone -/
theorem try_all {kd pl st rw_ rs rs' : Nat → Int32} {w n : Nat} (hw : w ≤ 8) (hn : n ≤ 8) (arm : Int32) (hH : HR w kd pl st rw_) (hr : ∀ k, k < n → rs k = rs' k) :
    ∃ B : Nat → Int32, ∀ m, m < 256 → (B m = 0 ∨ B m = 1) ∧ (∀ (z : Tri) (ar : Int32), ∃ r, fX5_beganSo kd pl st (nI w) arm rs (nI n) z.1 z.2.1 z.2.2 ar (nI m) = some (B m, r)) ∧ (∀ (z : Tri) (na : Int32), ∃ r, tryM (nI w) arm rw_ (nI n) rs' (nI m) na z = some (B m, r)) := by
  have key : ∀ m, ∃ b : Int32, m < 256 → (b = 0 ∨ b = 1) ∧ (∀ (z : Tri) (ar : Int32), ∃ r, fX5_beganSo kd pl st (nI w) arm rs (nI n) z.1 z.2.1 z.2.2 ar (nI m) = some (b, r)) ∧ (∀ (z : Tri) (na : Int32), ∃ r, tryM (nI w) arm rw_ (nI n) rs' (nI m) na z = some (b, r)) := fun m => by
    by_cases hm : m < 256
    · obtain ⟨v, r1, r2, hv, k1, k2⟩ := try_sim hw hn hm arm hH hr (kd, kd, kd) (kd, kd, kd) 0 0
      refine ⟨v, fun _ => ⟨hv, fun z ar => ?_, fun z na => ?_⟩⟩
      · obtain ⟨v', s1, s2, -, g1, g2⟩ := try_sim hw hn hm arm hH hr z (kd, kd, kd) ar 0
        rw [k2] at g2
        have e : v = v' := congrArg (fun x => x.1) (Option.some.inj g2)
        exact ⟨s1, by rw [g1, e]⟩
      · obtain ⟨v', s1, s2, -, g1, g2⟩ := try_sim hw hn hm arm hH hr (kd, kd, kd) z 0 na
        rw [k1] at g1
        have e : v = v' := congrArg (fun x => x.1) (Option.some.inj g1)
        exact ⟨s2, by rw [g2, e]⟩
    · exact ⟨0, fun q => absurd q hm⟩
  obtain ⟨B, hB⟩ := Classical.axiomOfChoice key
  exact ⟨B, hB⟩
