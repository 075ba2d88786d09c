/-! the page, read on both sides -/
theorem page_sim {cs cs' rd : Nat → Int32} {n : Nat} {rl : Int32} (hn : n ≤ 36) (hc : ∀ k, k < n → cs k = cs' k ∧ 1 ≤ (cs k).toInt ∧ (cs k).toInt ≤ 126) :
    ∃ r r', fX4_firstFault cs (nI n) = some r ∧ kIter (fX6_faultOf_L1 cs' (nI n)) 300 (0, 0, rl, 0, rd) = some r' ∧ r = r'.1 ∧ ((∃ f, f < n ∧ r = nI f) ∨ (r = nI n ∧ ∃ z, RPl cs n z r')) := by
  have hv : ∀ k, k < n → ∃ c, c < 127 ∧ cs k = nI c := fun k hk => by
    obtain ⟨-, h1, h2⟩ := hc k hk
    obtain ⟨c, h3, h4⟩ := nI_of2 (x := cs k) (M := 126) (n := 126) (by decide) (by rw [Int32.lt_iff_toInt_lt]; exact fun g => absurd (show (cs k).toInt < 0 from g) (by omega)) (by rw [Int32.le_iff_toInt_le]; exact h2)
    exact ⟨c, by omega, h4⟩
  unfold fX4_firstFault
  obtain ⟨r, r', h1, h2, h3, h4⟩ := kIter_sim (step := fX4_firstFault_L1 cs (nI n)) (step' := fX6_faultOf_L1 cs' (nI n)) (RPl cs) (fun r r' => r = r'.1 ∧ ((∃ f, f < n ∧ r = nI f) ∨ (r = nI n ∧ ∃ z, RPl cs n z r'))) n (fun k z z' hk q => by
    obtain ⟨c, hc1, hc2⟩ := hv k hk
    have hcd : fX4_codeAt cs (nI k) = some (nI c) := by rw [codeAt_s (by omega), hc2]
    have hld : kld 36 cs' (nI k) = some (nI c) := by rw [kld_nI (by omega) (by omega), ← (hc k hk).1, hc2]
    have hg : ¬ nI n ≤ nI k := nI_ge hk (by omega)
    have fin : ∀ u, fX4_fits cs (nI k) z.1 = some 0 → fX6_go z'.2.2.2.2 z'.2.1 z'.2.2.1 z'.2.2.2.1 (nI c) = some (0, u) → z.2 = nI k → z'.1 = nI k → ∃ r r', (∀ rc, fX4_firstFault_L1 cs (nI n) rc z = some r) ∧ (∀ rc, fX6_faultOf_L1 cs' (nI n) rc z' = some r') ∧ (r = r'.1 ∧ ((∃ f, f < n ∧ r = nI f) ∨ (r = nI n ∧ ∃ z, RPl cs n z r'))) := fun u a1 a2 a3 a4 => by
      refine ⟨nI k, (nI k, u.1, u.2.1, u.2.2.1, u.2.2.2), fun rc => ?_, fun rc => ?_, rfl, Or.inl ⟨k, hk, rfl⟩⟩
      · unfold fX4_firstFault_L1
        rw [a3, if_neg hg, a1, kb, if_pos rfl]
      · unfold fX6_faultOf_L1
        rw [a4, if_neg hg, hld, kb, a2, kb, if_pos rfl]
    have on : ∀ u, fX4_fits cs (nI k) z.1 = some 1 → fX6_go z'.2.2.2.2 z'.2.1 z'.2.2.1 z'.2.2.2.1 (nI c) = some (1, u) → z.2 = nI k → z'.1 = nI k → RPl cs (k + 1) ((if nI c = 59 then nI k else z.1), nI (k + 1)) (nI (k + 1), u) → ∃ z1 z1', (∀ rc, fX4_firstFault_L1 cs (nI n) rc z = rc z1) ∧ (∀ rc, fX6_faultOf_L1 cs' (nI n) rc z' = rc z1') ∧ RPl cs (k + 1) z1 z1' := fun u a1 a2 a3 a4 a5 => by
      refine ⟨_, _, fun rc => ?_, fun rc => ?_, a5⟩
      · unfold fX4_firstFault_L1
        rw [a3, if_neg hg, a1, kb, if_neg i10, hcd, kb, nI_1]
        by_cases g : nI c = 59
        · rw [if_pos g, if_pos g]
        · rw [if_neg g, if_neg g]
      · unfold fX6_faultOf_L1
        rw [a4, if_neg hg, hld, kb, a2, kb, if_neg i10, nI_1]
    sorry) (fun z z' q => by
    refine ⟨nI n, (z'.1, z'.2.1, z'.2.2.1, z'.2.2.2.1, z'.2.2.2.2), fun rc => ?_, fun rc => ?_, q.2.1.symm, Or.inr ⟨rfl, z, q⟩⟩
    · unfold fX4_firstFault_L1
      rw [if_pos (by rw [q.1]; exact nI_le (Nat.le_refl n) (by omega))]
    · unfold fX6_faultOf_L1
      rw [if_pos (by rw [q.2.1]; exact nI_le (Nat.le_refl n) (by omega))]) n 0 (by omega) 300 (by omega) ((-1), 0) (0, 0, rl, 0, rd) ⟨rfl, rfl, Or.inl ⟨rfl, by omega, rfl, rfl, fun j => ⟨fun q => absurd q (by omega), fun q => absurd q (by omega), fun q => absurd q (by omega)⟩, fun j q => absurd q (by omega)⟩⟩
  exact ⟨r, r', h1, h2, h3, h4⟩
