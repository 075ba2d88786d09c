/-! bars in step on both sides -/
def SR (w : Nat) (sn cl sn' cl' : Nat → Int32) : Prop := ∀ k, k < w → sn k = sn' k ∧ cl k = cl' k
def HR (w : Nat) (kd pl st rw_ : Nat → Int32) : Prop := ∀ k, k < w → kd k = rw_ (3 * k) ∧ pl k = rw_ (3 * k + 1) ∧ st k = rw_ (3 * k + 2)
theorem chS_0 {nx sn : Nat → Int32} : ∀ {w : Nat}, chS nx sn w = 0 ↔ ∀ k, k < w → nx k = sn k
  | 0 => ⟨fun _ k h => absurd h (Nat.not_lt_zero k), fun _ => rfl⟩
  | w + 1 => by
    have ih := chS_0 (nx := nx) (sn := sn) (w := w)
    have e : chS nx sn (w + 1) = if chS nx sn w = 0 then (if nx w = sn w then (0 : Int32) else 1) else 1 := rfl
    constructor
    · intro h k hk
      rw [e] at h
      by_cases q : chS nx sn w = 0
      · rw [if_pos q] at h
        by_cases q1 : nx w = sn w
        · by_cases hkw : k = w
          · subst hkw; exact q1
          · exact ih.mp q k (by omega)
        · rw [if_neg q1] at h; exact absurd h i10
      · rw [if_neg q] at h; exact absurd h i10
    · intro h
      rw [e, if_pos (ih.mpr (fun k hk => h k (by omega))), if_pos (h w (by omega))]
theorem go_pass {w : Nat} (hw : w ≤ 8) {kd pl st rw_ sn cl nt now nl ah : Nat → Int32} (arm : Int32) (hH : HR w kd pl st rw_) (hS : SR w sn cl now nl) :
    ∃ (ch : Int32) (sn1 cl1 nt1 now1 nl1 ah1 : Nat → Int32), fX0_goOn sn cl nt arm kd pl st (nI w) = some (ch, sn1, cl1, nt1) ∧ fX6_pass (nI w) rw_ now nl ah arm = some (now1, nl1, ah1) ∧ SR w sn1 cl1 now1 nl1 ∧ (ch = 0 ↔ ∀ k, k < w → now1 k = ah1 k) := by
  have hn : ∀ k, k < w → nxS (fun j => rw_ (3 * j)) (fun j => rw_ (3 * j + 1)) (fun j => rw_ (3 * j + 2)) w arm now nl k = nxS kd pl st w arm sn cl k := fun k hk => (nxS_cong hw hk (fun j hj => hH j hj) (fun j hj => hS j hj)).symm
  refine ⟨_, _, _, _, _, _, _, go_C hw (nxS kd pl st w arm sn cl) (fun k _ => rfl), pass_M hw (nxS kd pl st w arm sn cl) hn, fun k hk => ?_, ?_⟩
  · rw [fill_in hk, fill_in hk, fill_in hk, fill_in hk]
    unfold clS
    rw [(hS k hk).2]
    exact ⟨rfl, rfl⟩
  · rw [chS_0]
    constructor
    · intro h k hk
      rw [fill_in hk, fill_in (by omega), ← (hS k hk).1]
      exact h k hk
    · intro h k hk
      have := h k hk
      rw [fill_in hk, fill_in (by omega), ← (hS k hk).1] at this
      exact this
theorem leave_sim {w : Nat} (hw : w ≤ 8) {kd pl st rw_ sn cl now nl : Nat → Int32} (hH : HR w kd pl st rw_) (hS : SR w sn cl now nl) : ∃ sn1 now1, fX0_leaveBeatOut sn kd (nI w) = some sn1 ∧ fX6_leaveOut (nI w) rw_ now = some now1 ∧ SR w sn1 cl now1 nl := by
  refine ⟨_, _, leave_C hw, leave_M hw, fun k hk => ?_⟩
  rw [fill_in hk, fill_in hk]
  unfold lvS
  rw [(hH k hk).1, (hS k hk).1]
  exact ⟨rfl, (hS k hk).2⟩
theorem right_sim {w : Nat} (hw : w ≤ 8) {kd pl st rw_ sn cl now nl : Nat → Int32} (hH : HR w kd pl st rw_) (hS : SR w sn cl now nl) : ∃ v, fX0_palmsRight sn pl (nI w) = some v ∧ fX6_rightNow (nI w) rw_ now = some v := by
  refine ⟨_, right_C hw, ?_⟩
  rw [right_M hw]
  refine congrArg some (sumS_cong fun k hk => ?_)
  unfold rgS
  rw [(hH k hk).2.1, (hS k hk).1]
theorem SR_fill {w : Nat} (hw : w ≤ 8) {sn cl sn' cl' a b c d : Nat → Int32} (h : SR w sn cl sn' cl') : SR w (fill 8 sn a) (fill 8 cl b) (fill 8 sn' c) (fill 8 cl' d) := fun k hk => by
  rw [fill_in (by omega), fill_in (by omega), fill_in (by omega), fill_in (by omega)]
  exact h k hk
theorem SR_fillR {w : Nat} (hw : w ≤ 8) {sn cl sn' cl' c d : Nat → Int32} (h : SR w sn cl sn' cl') : SR w sn cl (fill 8 sn' c) (fill 8 cl' d) := fun k hk => by
  rw [fill_in (by omega), fill_in (by omega)]
  exact h k hk
theorem all_sim {w : Nat} (hw : w ≤ 8) {kd pl st rw_ : Nat → Int32} (hH : HR w kd pl st rw_) : ∃ v, fX2_allPalms pl (nI w) = some v ∧ fX6_palmsAll (nI w) rw_ = some v := by
  refine ⟨_, all_C hw, ?_⟩
  rw [all_M hw]
  exact congrArg some (sumS_cong fun k hk => ((hH k hk).2.1).symm)
/-- two loops in step -/
theorem kIter_sim {σ τ σ' τ' : Type} {step : (σ → Option τ) → σ → Option τ} {step' : (σ' → Option τ') → σ' → Option τ'} (R : Nat → σ → σ' → Prop) (Q : τ → τ' → Prop) (b : Nat)
    (hs : ∀ k z z', k < b → R k z z' → (∃ z1 z1', (∀ rc, step rc z = rc z1) ∧ (∀ rc, step' rc z' = rc z1') ∧ R (k + 1) z1 z1') ∨ ∃ r r', (∀ rc, step rc z = some r) ∧ (∀ rc, step' rc z' = some r') ∧ Q r r')
    (he : ∀ z z', R b z z' → ∃ r r', (∀ rc, step rc z = some r) ∧ (∀ rc, step' rc z' = some r') ∧ Q r r') :
    ∀ (d k : Nat), k + d = b → ∀ n, d < n → ∀ z z', R k z z' → ∃ r r', kIter step n z = some r ∧ kIter step' n z' = some r' ∧ Q r r'
  | 0, k, hk, n, hn, z, z', h => by
    obtain ⟨m, rfl⟩ : ∃ m, n = m + 1 := ⟨n - 1, by omega⟩
    have e : k = b := by omega
    subst e
    obtain ⟨r, r', h1, h2, h3⟩ := he z z' h
    exact ⟨r, r', h1 _, h2 _, h3⟩
  | d + 1, k, hk, n, hn, z, z', h => by
    obtain ⟨m, rfl⟩ : ∃ m, n = m + 1 := ⟨n - 1, by omega⟩
    rcases hs k z z' (by omega) h with ⟨z1, z1', h1, h2, h3⟩ | ⟨r, r', h1, h2, h3⟩
    · obtain ⟨r, r', a, b', c⟩ := kIter_sim R Q b hs he d (k + 1) (by omega) m (by omega) z1 z1' h3
      refine ⟨r, r', ?_, ?_, c⟩
      · show step (kIter step m) z = some r
        rw [h1]; exact a
      · show step' (kIter step' m) z' = some r'
        rw [h2]; exact b'
    · exact ⟨r, r', h1 _, h2 _, h3⟩
