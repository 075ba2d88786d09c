/-! the page, read on both sides -/
theorem page_sim {cs cs' rd : Nat → Int32} {n : Nat} {rl : Int32} (hn : n ≤ 36) (hc : ∀ k, k < n → cs k = cs' k ∧ 1 ≤ (cs k).toInt ∧ (cs k).toInt ≤ 126) :
    ∃ r r', fX4_firstFault cs (nI n) = some r ∧ kIter (fX6_faultOf_L1 cs' (nI n)) 300 (0, 0, rl, 0, rd) = some r' ∧ r = r'.1 ∧ ((∃ f, f < n ∧ r = nI f) ∨ (r = nI n ∧ ∃ z, RPl cs n z r')) := by
  have hv : ∀ k, k < n → ∃ c, c < 127 ∧ cs k = nI c := fun k hk => by
    obtain ⟨-, h1, h2⟩ := hc k hk
    obtain ⟨c, h3, h4⟩ := nI_of2 (x := cs k) (M := 126) (n := 126) (by decide) (by rw [Int32.lt_iff_toInt_lt]; exact fun g => absurd (show (cs k).toInt < 0 from g) (by omega)) (by rw [Int32.le_iff_toInt_le]; exact h2)
    exact ⟨c, by omega, h4⟩
  unfold fX4_firstFault
  obtain ⟨r, r', h1, h2, h3, h4⟩ := kIter_sim (step := fX4_firstFault_L1 cs (nI n)) (step' := fX6_faultOf_L1 cs' (nI n)) (RPl cs) (fun r r' => r = r'.1 ∧ ((∃ f, f < n ∧ r = nI f) ∨ (r = nI n ∧ ∃ z, RPl cs n z r'))) n (fun k z z' hk q => by
    obtain ⟨c, hc1, hc2⟩ := hv k hk
    have hcd : fX4_codeAt cs (nI k) = some (nI c) := by rw [codeAt_s (by omega), hc2]
    have hld : kld 36 cs' (nI k) = some (nI c) := by rw [kld_nI (by omega) (by omega), ← (hc k hk).1, hc2]
    have hg : ¬ nI n ≤ nI k := nI_ge hk (by omega)
    have fin : ∀ u, fX4_fits cs (nI k) z.1 = some 0 → fX6_go z'.2.2.2.2 z'.2.1 z'.2.2.1 z'.2.2.2.1 (nI c) = some (0, u) → z.2 = nI k → z'.1 = nI k → ∃ r r', (∀ rc, fX4_firstFault_L1 cs (nI n) rc z = some r) ∧ (∀ rc, fX6_faultOf_L1 cs' (nI n) rc z' = some r') ∧ (r = r'.1 ∧ ((∃ f, f < n ∧ r = nI f) ∨ (r = nI n ∧ ∃ z, RPl cs n z r'))) := fun u a1 a2 a3 a4 => by
      refine ⟨nI k, (nI k, u.1, u.2.1, u.2.2.1, u.2.2.2), fun rc => ?_, fun rc => ?_, rfl, Or.inl ⟨k, hk, rfl⟩⟩
      · unfold fX4_firstFault_L1
        rw [a3, if_neg hg, a1, kb, if_pos rfl]
      · unfold fX6_faultOf_L1
        rw [a4, if_neg hg, hld, kb, a2, kb, if_pos rfl]
    have on : ∀ u, fX4_fits cs (nI k) z.1 = some 1 → fX6_go z'.2.2.2.2 z'.2.1 z'.2.2.1 z'.2.2.2.1 (nI c) = some (1, u) → z.2 = nI k → z'.1 = nI k → RPl cs (k + 1) ((if nI c = 59 then nI k else z.1), nI (k + 1)) (nI (k + 1), u) → ∃ z1 z1', (∀ rc, fX4_firstFault_L1 cs (nI n) rc z = rc z1) ∧ (∀ rc, fX6_faultOf_L1 cs' (nI n) rc z' = rc z1') ∧ RPl cs (k + 1) z1 z1' := fun u a1 a2 a3 a4 a5 => by
      refine ⟨_, _, fun rc => ?_, fun rc => ?_, a5⟩
      · unfold fX4_firstFault_L1
        rw [a3, if_neg hg, a1, kb, if_neg i10, hcd, kb, nI_1]
        by_cases g : nI c = 59
        · rw [if_pos g, if_pos g]
        · rw [if_neg g, if_neg g]
      · unfold fX6_faultOf_L1
        rw [a4, if_neg hg, hld, kb, a2, kb, if_neg i10, nI_1]
    obtain ⟨q1, q2, q3⟩ := q
    rcases q3 with ⟨o1, o2, o3, o4, o5, o6⟩ | ⟨d, d1, d2, d3, d4, d5, d6, d7, d8, d9⟩
    · rw [o1, o3, o4] at fin on
      have ne : ¬ k % 4 = 3 → fX4_fits cs (nI k) (-1) = some 1 → ¬ nI c = 59 := fun a b g => by
        rw [no59 (by omega) a (by rw [hc2, g])] at b
        exact absurd (Option.some.inj b) (by decide)
      have o7 : ¬ nI c = 59 → ∀ j, j < k + 1 → ¬ cs j = 59 := fun a j hj => by
        rcases (show j < k ∨ j = k by omega) with g | g
        · exact o6 j g
        · rw [g, hc2]; exact a
      rcases (show k % 4 = 0 ∨ k % 4 = 1 ∨ k % 4 = 2 ∨ k % 4 = 3 by omega) with g | g | g | g
      · rw [g, show (k + 1) / 4 = k / 4 by omega] at fin on
        obtain ⟨v, K, hv1, hv2, hv3, hv4⟩ := go0 (rd := z'.2.2.2.2) (rl := z'.2.2.1) o2 g hc1 hc2
        rcases hv1 with rfl | rfl
        · exact Or.inr (fin _ hv3 hv4 q1 q2)
        · have n9 := ne (by omega) hv3
          exact Or.inl (on _ hv3 hv4 q1 q2 ⟨rfl, rfl, Or.inl ⟨if_neg n9, by omega, by rw [show (k + 1 + 1) / 4 = k / 4 by omega], by rw [show (k + 1) % 4 = 1 by omega]; rfl, rd0 o5 g (by rw [hc2]; exact hv2), o7 n9⟩⟩)
      · rw [g, show (k + 1) / 4 = k / 4 by omega] at fin on
        obtain ⟨v, hv1, hv3, hv4⟩ := go1 (rd := z'.2.2.2.2) (rl := z'.2.2.1) o2 g hc1 hc2
        rcases hv1 with rfl | rfl
        · exact Or.inr (fin _ hv3 hv4 q1 q2)
        · have n9 := ne (by omega) hv3
          exact Or.inl (on _ hv3 hv4 q1 q2 ⟨rfl, rfl, Or.inl ⟨if_neg n9, by omega, by rw [show (k + 1 + 1) / 4 = k / 4 by omega], by rw [show (k + 1) % 4 = 2 by omega]; rfl, by rw [← hc2]; exact rd1 o5 g, o7 n9⟩⟩)
      · rw [g, show (k + 1) / 4 = k / 4 by omega] at fin on
        obtain ⟨v, hv1, hv3, hv4⟩ := go2 (rd := z'.2.2.2.2) (rl := z'.2.2.1) o2 g hc1 hc2
        rcases hv1 with rfl | rfl
        · exact Or.inr (fin _ hv3 hv4 q1 q2)
        · have n9 := ne (by omega) hv3
          exact Or.inl (on _ hv3 hv4 q1 q2 ⟨rfl, rfl, Or.inl ⟨if_neg n9, by omega, by rw [show (k + 1 + 1) / 4 = k / 4 + 1 by omega], by rw [show (k + 1) % 4 = 3 by omega]; rfl, by rw [← hc2]; exact rd2 o5 g, o7 n9⟩⟩)
      · rw [g, show (k + 1) / 4 = k / 4 + 1 by omega] at fin on
        rcases go3 (rd := z'.2.2.2.2) (rl := z'.2.2.1) o2 g hc2 with ⟨a1, s, a2⟩ | ⟨a0, ak, a1, a2⟩ | ⟨a0, ak, a1, a2⟩
        · exact Or.inr (fin _ a1 a2 q1 q2)
        · have n9 : ¬ nI c = 59 := by rw [a0]; decide
          exact Or.inl (on _ a1 a2 q1 q2 ⟨rfl, rfl, Or.inl ⟨if_neg n9, by omega, by rw [show (k + 1 + 1) / 4 = k / 4 + 1 by omega], by rw [show (k + 1) % 4 = 0 by omega]; rfl, rd3 o5 g, o7 n9⟩⟩)
        · exact Or.inl (on _ a1 a2 q1 q2 ⟨rfl, rfl, Or.inr ⟨k, if_pos a0, g, ak, o2, by rw [hc2, a0], o6, by rw [show (k + 1) / 4 = k / 4 + 1 by omega], o5, Or.inl ⟨rfl, rfl⟩⟩⟩)
    · rw [d1] at fin on
      rcases d9 with ⟨rfl, e4⟩ | ⟨rfl, e5, e6, e7⟩
      · rw [e4] at fin on
        obtain ⟨v, hv1, hv3, hv4⟩ := go4 (rd := z'.2.2.2.2) (m := z'.2.1) (rl := z'.2.2.1) (show d < 35 by omega) hc1 hc2
        rcases hv1 with rfl | rfl
        · exact Or.inr (fin _ hv3 hv4 q1 q2)
        · have w1 := hv3
          rw [fits4 (by omega)] at w1
          have n9 : ¬ nI c = 59 := fun y => by
            rw [hc2, y] at w1; exact absurd w1 (by decide +kernel)
          exact Or.inl (on _ hv3 hv4 q1 q2 ⟨rfl, rfl, Or.inr ⟨d, if_neg n9, d2, d3, d4, d5, d6, d7, d8, Or.inr ⟨rfl, rfl, by rw [hc2], w1⟩⟩⟩)
      · rw [e5] at fin on
        obtain ⟨a1, a2⟩ := go5 (cs := cs) (rd := z'.2.2.2.2) (m := z'.2.1) (rl := z'.2.2.1) (x := nI c) (show d < 34 by omega)
        exact Or.inr (fin _ a1 a2 q1 q2)) (fun z z' q => by
    refine ⟨nI n, (z'.1, z'.2.1, z'.2.2.1, z'.2.2.2.1, z'.2.2.2.2), fun rc => ?_, fun rc => ?_, q.2.1.symm, Or.inr ⟨rfl, z, q⟩⟩
    · unfold fX4_firstFault_L1
      rw [if_pos (by rw [q.1]; exact nI_le (Nat.le_refl n) (by omega))]
    · unfold fX6_faultOf_L1
      rw [if_pos (by rw [q.2.1]; exact nI_le (Nat.le_refl n) (by omega))]) n 0 (by omega) 300 (by omega) ((-1), 0) (0, 0, rl, 0, rd) ⟨rfl, rfl, Or.inl ⟨rfl, by omega, rfl, rfl, fun j => ⟨fun q => absurd q (by omega), fun q => absurd q (by omega), fun q => absurd q (by omega)⟩, fun j q => absurd q (by omega)⟩⟩
  exact ⟨r, r', h1, h2, h3, h4⟩
