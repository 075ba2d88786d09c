theorem nights_sim {kd pl st rw_ sn cl sn' cl' : Nat → Int32} {w : Nat} (hw : w ≤ 8) (hw0 : 0 < w) (arm : Int32) (hH : HR w kd pl st rw_) (hS : SR w sn cl sn' cl') (tsn tcl tnt now nl ah : Nat → Int32) {n a : Nat} (hn : n ≤ 60) (ha : a < 2 ^ 31) :
    ∃ (r : Int32 × Int32 × Int32 × (Nat → Int32) × (Nat → Int32) × (Nat → Int32) × Int32) (r' : Int32 × Int32 × Int32 × Int32 × (Nat → Int32) × (Nat → Int32) × (Nat → Int32)),
      kIter (fX5_nightsTold_L1 kd pl st (nI w) (nI n)) 300 (0, 0, arm, fill 8 sn tsn, fill 8 cl tcl, tnt, nI a) = some r ∧ kIter (fX6_nights_L1 (nI w) rw_ (nI n)) 300 (0, 0, arm, nI a, fill 8 sn' now, fill 8 cl' nl, ah) = some r' ∧
      r.1 = r'.1 ∧ r.2.2.2.2.2.2 = r'.2.2.2.1 ∧ SR w r.2.2.2.1 r.2.2.2.2.1 r'.2.2.2.2.1 r'.2.2.2.2.2.1 := by
  refine kIter_sim (fun k (z : Int32 × Int32 × Int32 × (Nat → Int32) × (Nat → Int32) × (Nat → Int32) × Int32) (z' : Int32 × Int32 × Int32 × Int32 × (Nat → Int32) × (Nat → Int32) × (Nat → Int32)) => z.1 = z'.1 ∧ z.2.1 = nI k ∧ z'.2.1 = nI k ∧ z.2.2.1 = z'.2.2.1 ∧ (∃ b : Nat, b < 2 ^ 31 ∧ z.2.2.2.2.2.2 = nI b ∧ z'.2.2.2.1 = nI b) ∧ SR w z.2.2.2.1 z.2.2.2.2.1 z'.2.2.2.2.1 z'.2.2.2.2.2.1)
    (fun (r : Int32 × Int32 × Int32 × (Nat → Int32) × (Nat → Int32) × (Nat → Int32) × Int32) (r' : Int32 × Int32 × Int32 × Int32 × (Nat → Int32) × (Nat → Int32) × (Nat → Int32)) => r.1 = r'.1 ∧ r.2.2.2.2.2.2 = r'.2.2.2.1 ∧ SR w r.2.2.2.1 r.2.2.2.2.1 r'.2.2.2.2.1 r'.2.2.2.2.2.1) n (fun k z z' hk hR => ?_) (fun z z' hR => ?_) n 0 (by omega) 300 (by omega) _ _ ⟨rfl, rfl, rfl, rfl, ⟨a, ha, rfl, rfl⟩, SR_fill hw hS⟩
  · obtain ⟨won, gone, am, zs, zc, zn, sd⟩ := z
    obtain ⟨won', gone', am', sd', ys, yc, ya⟩ := z'
    obtain ⟨e1, e2, e3, e4, ⟨b, hb, e5, e6⟩, hSR⟩ := hR
    dsimp only at e1 e2 e3 e4 e5 e6 hSR
    subst e1; subst e2; subst e3; subst e4; subst e5; subst e6
    obtain ⟨arm1, sn1, cl1, now1, nl1, a1, h1, h2, h3, u7, h4, h5⟩ := happen_sim hw hw0 hH hSR am hb
    obtain ⟨ch, sn2, cl2, nt2, now2, nl2, ah2, g1, g2, g3, -⟩ := go_pass (nt := zn) (ah := ya) hw arm1 hH h2
    obtain ⟨v, v1, v2⟩ := right_sim hw hH g3
    obtain ⟨x, x1, x2⟩ := all_sim hw hH
    by_cases c : 2 * v ≤ x
    · refine Or.inl ⟨(won + 0, nI k + 1, arm1, sn2, cl2, nt2, nI a1), (won + 0, nI k + 1, arm1, nI a1, now2, nl2, ah2), fun rc => ?_, fun rc => ?_, rfl, by rw [nI_1], by rw [nI_1], rfl, ⟨a1, h1, rfl, rfl⟩, g3⟩
      · unfold fX5_nightsTold_L1
        rw [if_neg (nI_ge hk (by omega))]
        dsimp only
        rw [h3, kb]
        dsimp only
        rw [g1, kb]
        dsimp only
        rw [v1, kb, x1, kb, if_pos c, oneIf_s, kb, if_pos rfl]
      · unfold fX6_nights_L1
        rw [if_neg (nI_ge hk (by omega))]
        dsimp only
        rw [h4, kb, h5, kb]
        dsimp only
        rw [g2, kb]
        dsimp only
        rw [v2, kb, x2, kb, if_pos c]
    · refine Or.inl ⟨(won + 1, nI k + 1, arm1, sn2, cl2, nt2, nI a1), (won + 1, nI k + 1, arm1, nI a1, now2, nl2, ah2), fun rc => ?_, fun rc => ?_, rfl, by rw [nI_1], by rw [nI_1], rfl, ⟨a1, h1, rfl, rfl⟩, g3⟩
      · unfold fX5_nightsTold_L1
        rw [if_neg (nI_ge hk (by omega))]
        dsimp only
        rw [h3, kb]
        dsimp only
        rw [g1, kb]
        dsimp only
        rw [v1, kb, x1, kb, if_neg c, oneIf_s, kb, if_neg i10]
      · unfold fX6_nights_L1
        rw [if_neg (nI_ge hk (by omega))]
        dsimp only
        rw [h4, kb, h5, kb]
        dsimp only
        rw [g2, kb]
        dsimp only
        rw [v2, kb, x2, kb, if_neg c]
  · obtain ⟨e1, e2, e3, e4, ⟨b, hb, e5, e6⟩, hSR⟩ := hR
    refine ⟨z, z', fun rc => ?_, fun rc => ?_, e1, e5.trans e6.symm, hSR⟩
    · unfold fX5_nightsTold_L1
      rw [e2, if_pos (nI_le (Nat.le_refl n) (by omega)), ← e2]
    · unfold fX6_nights_L1
      rw [e3, if_pos (nI_le (Nat.le_refl n) (by omega)), ← e3]
