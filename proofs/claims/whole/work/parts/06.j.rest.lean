/-! outcome, rest -/
theorem never {n k : Nat} (hn : n ≤ 100) (hk : k < n) : nI k = (-1 : Int32) ↔ k = 1000 := by
  constructor
  · intro h
    have := congrArg Int32.toInt h
    rw [nI_toInt (by omega)] at this
    have e : (-1 : Int32).toInt = -1 := by decide
    omega
  · intro h; omega
theorem outcome_sim {kd pl st rw_ sn cl sn' cl' : Nat → Int32} {w : Nat} (hw : w ≤ 8) (arm : Int32) (hH : HR w kd pl st rw_) (hS : SR w sn cl sn' cl') (tsn tcl tnt now nl ah : Nat → Int32) {n : Nat} (hn : n ≤ 30) :
    ∃ (v : Int32) (zC zM : Tri), fX5_rightBehind kd pl st (nI w) sn cl arm tsn tcl tnt (nI n) (-1) = some (v, arm, zC) ∧ fX6_outcomeOf (nI w) arm rw_ sn' cl' now nl ah (nI n) = some (v, arm, zM) := by
  have h0 : SRt w (fill 8 sn tsn, fill 8 cl tcl, tnt) (fill 8 sn' now, fill 8 cl' nl, ah) := SR_fill hw hS
  have h1 := tr_sim0 hw arm hH h0 (b := 1000) n (by omega)
  obtain ⟨v, v1, v2⟩ := right_sim hw hH h1
  refine ⟨v, trC kd pl st w arm 1000 (fill 8 sn tsn, fill 8 cl tcl, tnt) n, itM rw_ w arm (fill 8 sn' now, fill 8 cl' nl, ah) n, ?_, ?_⟩
  · rw [behind_C hw arm (b := 1000) (by omega) (-1) (fun k hk => never (by omega) hk), v1, kb]
  · unfold fX6_outcomeOf
    rw [asIs_M, kb]
    have hp := passAll_M (rw_ := rw_) hw arm (fill 8 sn' now, fill 8 cl' nl, ah) (n := n) (by omega)
    dsimp only at hp ⊢
    rw [hp, kb, v2, kb]
theorem st_ch {kd pl st rw_ : Nat → Int32} {w : Nat} (hw : w ≤ 8) (arm : Int32) (hH : HR w kd pl st rw_) {z z' : Tri} (h : SRt w z z') : chS (nxS kd pl st w arm z.1 z.2.1) z.1 w = 0 ↔ ∀ k, k < w → (stM rw_ w arm z').1 k = (stM rw_ w arm z').2.2 k := by
  obtain ⟨ch, sn1, cl1, nt1, now1, nl1, ah1, g1, g2, g3, g4⟩ := go_pass (nt := z.2.2) (ah := z'.2.2) hw arm hH h
  rw [stC_eq hw arm z] at g1
  rw [stM_eq hw arm z'] at g2
  have e1 := Option.some.inj g1
  have e2 := Option.some.inj g2
  have e3 : chS (nxS kd pl st w arm z.1 z.2.1) z.1 w = ch := congrArg Prod.fst e1
  rw [e3, e2]
  exact g4
def smS (a b : Nat → Int32) : Nat → Int32
  | 0 => 1
  | k + 1 => if smS a b k = 0 then 0 else if a k = b k then 1 else 0
theorem smS_b (a b : Nat → Int32) (k : Nat) : smS a b k = 0 ∨ smS a b k = 1 := by
  cases k with
  | zero => exact Or.inr rfl
  | succ k =>
    show (if smS a b k = 0 then (0 : Int32) else if a k = b k then 1 else 0) = 0 ∨ (if smS a b k = 0 then (0 : Int32) else if a k = b k then 1 else 0) = 1
    by_cases h : smS a b k = 0
    · rw [if_pos h]; exact Or.inl rfl
    · rw [if_neg h]
      by_cases h2 : a k = b k
      · rw [if_pos h2]; exact Or.inr rfl
      · rw [if_neg h2]; exact Or.inl rfl
theorem smS_0 {a b : Nat → Int32} : ∀ {w : Nat}, ¬ smS a b w = 0 ↔ ∀ k, k < w → a k = b k
  | 0 => ⟨fun _ k h => absurd h (Nat.not_lt_zero k), fun _ => i10⟩
  | w + 1 => by
    have ih := smS_0 (a := a) (b := b) (w := w)
    have e : smS a b (w + 1) = if smS a b w = 0 then (0 : Int32) else if a w = b w then 1 else 0 := rfl
    constructor
    · intro h k hk
      rw [e] at h
      by_cases q : smS a b w = 0
      · rw [if_pos q] at h; exact absurd rfl h
      · rw [if_neg q] at h
        by_cases q1 : a w = b w
        · by_cases hkw : k = w
          · subst hkw; exact q1
          · exact ih.mp q k (by omega)
        · rw [if_neg q1] at h; exact absurd rfl h
    · intro h
      rw [e, if_neg (ih.mpr (fun k hk => h k (by omega))), if_pos (h w (by omega))]
      exact i10
theorem same_M {w : Nat} (hw : w ≤ 8) (u : Tri) : kIter (fX6_restOf_L2 (nI w) u) 300 (1, 0) = some (smS u.1 u.2.2 w, nI w) := kIter_up (step := fX6_restOf_L2 (nI w) u) (fun k => (smS u.1 u.2.2 k, nI k)) w (r := (smS u.1 u.2.2 w, nI w)) (by omega) (fun k hk rc => by
      have hk8 : k < 8 := by omega
      unfold fX6_restOf_L2
      rw [if_neg (nI_ge hk (by omega))]
      dsimp only
      have e : smS u.1 u.2.2 (k + 1) = if smS u.1 u.2.2 k = 0 then (0 : Int32) else if u.1 k = u.2.2 k then 1 else 0 := rfl
      rw [kld_nI hk8 (by omega), kld_nI hk8 (by omega), kb, kb, e, nI_1]
      by_cases q : smS u.1 u.2.2 k = 0
      · rw [if_pos q, if_pos q]
      · rw [if_neg q, if_neg q]
        by_cases q1 : u.1 k = u.2.2 k
        · rw [if_pos q1, if_pos q1]
        · rw [if_neg q1, if_neg q1]) (fun rc => by
      unfold fX6_restOf_L2
      rw [if_pos (nI_le (Nat.le_refl w) (by omega))])
theorem rest_sim {kd pl st rw_ sn cl sn' cl' : Nat → Int32} {w : Nat} (hw : w ≤ 8) (arm : Int32) (hH : HR w kd pl st rw_) (hS : SR w sn cl sn' cl') (tsn tcl tnt now nl ah : Nat → Int32) :
    ∃ (r r' : Int32 × Int32 × (Nat → Int32) × (Nat → Int32) × (Nat → Int32)), fX5_barsToRest kd pl st (nI w) sn cl arm tsn tcl tnt = some r ∧ fX6_restOf (nI w) arm rw_ sn' cl' now nl ah = some r' ∧ r.1 = r'.1 := by
  unfold fX5_barsToRest fX6_restOf
  rw [take_C, kb, asIs_M, kb]
  refine kIter_sim (fun k (z z' : Int32 × Tri) => z.1 = nI k ∧ z'.1 = nI k ∧ SRt w z.2 z'.2) (fun (r r' : Int32 × Int32 × Tri) => r.1 = r'.1) 31 (fun k z z' hk hR => ?_) (fun z z' hR => ?_) 31 0 (by omega) 300 (by omega) (0, fill 8 sn tsn, fill 8 cl tcl, tnt) (0, fill 8 sn' now, fill 8 cl' nl, ah) ⟨rfl, rfl, (SR_fill hw hS : SR w (fill 8 sn tsn) (fill 8 cl tcl) (fill 8 sn' now) (fill 8 cl' nl))⟩
  · obtain ⟨e1, e2, h⟩ := hR
    have hc := st_ch hw arm hH h
    have hs := st_sim hw arm hH h
    by_cases q : chS (nxS kd pl st w arm z.2.1 z.2.2.1) z.2.1 w = 0
    · refine Or.inr ⟨(z.1, arm, stC kd pl st w arm z.2), (z'.1, arm, stM rw_ w arm z'.2), fun rc => ?_, fun rc => ?_, e1.trans e2.symm⟩
      · unfold fX5_barsToRest_L1
        rw [e1, if_neg (show ¬ (30 : Int32) < nI k from nI_nlt (a := 30) (b := k) (by omega) (by omega)), stC_eq hw arm z.2, kb, if_pos q]
      · unfold fX6_restOf_L1
        rw [e2, if_neg (show ¬ (31 : Int32) ≤ nI k from nI_ge (a := k) (b := 31) (by omega) (by omega)), stM_eq hw arm z'.2, kb, same_M hw, kb, if_neg (smS_0.mpr (hc.mp q))]
    · refine Or.inl ⟨(z.1 + 1, stC kd pl st w arm z.2), (z'.1 + 1, stM rw_ w arm z'.2), fun rc => ?_, fun rc => ?_, by rw [e1, nI_1], by rw [e2, nI_1], hs⟩
      · unfold fX5_barsToRest_L1
        rw [e1, if_neg (show ¬ (30 : Int32) < nI k from nI_nlt (a := 30) (b := k) (by omega) (by omega)), stC_eq hw arm z.2, kb, if_neg q]
      · unfold fX6_restOf_L1
        rw [e2, if_neg (show ¬ (31 : Int32) ≤ nI k from nI_ge (a := k) (b := 31) (by omega) (by omega)), stM_eq hw arm z'.2, kb, same_M hw, kb, if_pos (Decidable.byContradiction fun q2 => q (hc.mpr (smS_0.mp q2)))]
  · obtain ⟨e1, e2, h⟩ := hR
    refine ⟨((-1), arm, z.2), ((-1), arm, z'.2), fun rc => ?_, fun rc => ?_, rfl⟩
    · unfold fX5_barsToRest_L1
      rw [e1, if_pos (show (30 : Int32) < nI 31 by decide)]
    · unfold fX6_restOf_L1
      rw [e2, if_pos (show (31 : Int32) ≤ nI 31 by decide)]

theorem trick_sim {kd pl st rw_ sn cl sn' cl' : Nat → Int32} {w : Nat} (hw : w ≤ 8) (arm : Int32) (hH : HR w kd pl st rw_) (hS : SR w sn cl sn' cl') (tsn tcl tnt now nl ah : Nat → Int32) {n : Nat} (hn : n ≤ 12) (p2 : Int32) :
    ∃ (r r' : Int32 × Int32 × Tri), fX5_trickTold kd pl st (nI w) sn cl arm tsn tcl tnt (nI n) p2 = some r ∧ fX6_trickOf (nI w) arm rw_ sn' cl' now nl ah (nI n) p2 = some r' ∧ r.1 = r'.1 := by
  unfold fX5_trickTold fX6_trickOf
  obtain ⟨v, zC, zM, o1, o2⟩ := outcome_sim hw arm hH hS tsn tcl tnt now nl ah (n := n) (by omega)
  rw [o1, kb, o2, kb]
  have key : ∃ r r', kIter (fX5_trickTold_L1 kd pl st (nI w) sn cl arm (nI n)) 300 ((-1), v, 0, arm, zC) = some r ∧ kIter (fX6_trickOf_L1 (nI w) arm rw_ sn' cl' (nI n)) 300 (v, (-1), 0, arm, zM) = some r' ∧ r.1 = r'.2.1 ∧ r.2.1 = r'.1 := by
    refine kIter_sim (step := fX5_trickTold_L1 kd pl st (nI w) sn cl arm (nI n)) (step' := fX6_trickOf_L1 (nI w) arm rw_ sn' cl' (nI n)) (fun k (z z' : Int32 × Int32 × Int32 × Int32 × Tri) => z.2.2.1 = nI k ∧ z'.2.2.1 = nI k ∧ z.1 = z'.2.1 ∧ z.2.1 = z'.1) (fun (r r' : Int32 × Int32 × Int32 × Int32 × Tri) => r.1 = r'.2.1 ∧ r.2.1 = r'.1) n (fun k z z' hk hR => ?_) (fun z z' hR => ?_) n 0 (by omega) 300 (by omega) ((-1), v, 0, arm, zC) (v, (-1), 0, arm, zM) ⟨rfl, rfl, rfl, rfl⟩
    · obtain ⟨e1, e2, e3, e4⟩ := hR
      obtain ⟨z1, z2, z3, z4, y⟩ := z
      obtain ⟨z1', z2', z3', z4', y'⟩ := z'
      dsimp only at e1 e2 e3 e4
      subst e1; subst e2; subst e3; subst e4
      have h0 : SRt w (fill 8 sn y.1, fill 8 cl y.2.1, y.2.2) (fill 8 sn' y'.1, fill 8 cl' y'.2.1, y'.2.2) := SR_fill hw hS
      obtain ⟨j, hj⟩ : ∃ j, n = k + 1 + j := ⟨n - k - 1, by omega⟩
      have hs := tr_sim1 hw arm hH h0 (b := k) j
      rw [← hj] at hs
      obtain ⟨u, u1, u2⟩ := right_sim hw hH hs
      have gC := behind_C (kd := kd) (pl := pl) (st := st) (sn := sn) (cl := cl) (tsn := y.1) (tcl := y.2.1) (tnt := y.2.2) hw arm (n := n) (b := k) (by omega) (nI k) (fun i hi => nI_eq (by omega) (by omega))
      have gM := passAll_M (rw_ := rw_) hw arm (fill 8 sn' y'.1, fill 8 cl' y'.2.1, y'.2.2) (n := k) (by omega)
      generalize hq : itM rw_ w arm (fill 8 sn' y'.1, fill 8 cl' y'.2.1, y'.2.2) k = q at gM hs u2
      have gL := passAll_M (rw_ := rw_) hw arm (fill w (lvS (fun j => rw_ (3 * j)) q.1) q.1, q.2.1, q.2.2) (n := j + 1) (by omega)
      have en : nI n - nI k = nI (j + 1) := by rw [pk_sub (by omega)]; congr 1; omega
      dsimp only at gM gL
      refine Or.inl ?_
      by_cases c : u ≤ z2
      · refine ⟨(z1, z2, nI k + 1, arm, trC kd pl st w arm k (fill 8 sn y.1, fill 8 cl y.2.1, y.2.2) n), (z2, z1, nI k + 1, arm, itM rw_ w arm (fill w (lvS (fun j => rw_ (3 * j)) q.1) q.1, q.2.1, q.2.2) (j + 1)), fun rc => ?_, fun rc => ?_, by rw [nI_1], by rw [nI_1], rfl, rfl⟩
        · unfold fX5_trickTold_L1
          rw [if_neg (nI_ge hk (by omega))]
          dsimp only
          rw [gC, u1, kb, kb, if_pos c]
        · unfold fX6_trickOf_L1
          rw [if_neg (nI_ge hk (by omega))]
          dsimp only
          rw [asIs_M, kb]
          dsimp only
          rw [gM, kb, leave_M hw, kb, en, gL, kb, u2, kb, if_pos c, if_pos c]
      · refine ⟨(nI k, u, nI k + 1, arm, trC kd pl st w arm k (fill 8 sn y.1, fill 8 cl y.2.1, y.2.2) n), (u, nI k, nI k + 1, arm, itM rw_ w arm (fill w (lvS (fun j => rw_ (3 * j)) q.1) q.1, q.2.1, q.2.2) (j + 1)), fun rc => ?_, fun rc => ?_, by rw [nI_1], by rw [nI_1], rfl, rfl⟩
        · unfold fX5_trickTold_L1
          rw [if_neg (nI_ge hk (by omega))]
          dsimp only
          rw [gC, u1, kb, kb, if_neg c]
        · unfold fX6_trickOf_L1
          rw [if_neg (nI_ge hk (by omega))]
          dsimp only
          rw [asIs_M, kb]
          dsimp only
          rw [gM, kb, leave_M hw, kb, en, gL, kb, u2, kb, if_neg c, if_neg c]
    · obtain ⟨e1, e2, e3, e4⟩ := hR
      refine ⟨z, z', fun rc => ?_, fun rc => ?_, e3, e4⟩
      · unfold fX5_trickTold_L1
        rw [e1, if_pos (nI_le (Nat.le_refl n) (by omega)), ← e1]
      · unfold fX6_trickOf_L1
        rw [e2, if_pos (nI_le (Nat.le_refl n) (by omega)), ← e2]
  obtain ⟨r, r', h1, h2, h3, h4⟩ := key
  refine ⟨if p2 = 0 then (r.1, r.2.2.2.1, r.2.2.2.2) else (r.2.1, r.2.2.2.1, r.2.2.2.2), if p2 = 0 then (r'.2.1, r'.2.2.2.1, r'.2.2.2.2) else (r'.1, r'.2.2.2.1, r'.2.2.2.2), ?_, ?_, ?_⟩
  · have h1' : kIter (fX5_trickTold_L1 kd pl st (nI w) sn cl arm (nI n)) 300 ((-1), v, 0, arm, zC.1, zC.2.1, zC.2.2) = some r := h1
    rw [h1', kb]
    by_cases q : p2 = 0
    · rw [if_pos q, if_pos q]
    · rw [if_neg q, if_neg q]
  · have h2' : kIter (fX6_trickOf_L1 (nI w) arm rw_ sn' cl' (nI n)) 300 (v, (-1), 0, arm, zM.1, zM.2.1, zM.2.2) = some r' := h2
    rw [h2', kb]
    by_cases q : p2 = 0
    · rw [if_pos q, if_pos q]
    · rw [if_neg q, if_neg q]
  · by_cases q : p2 = 0
    · rw [if_pos q, if_pos q]; exact h3
    · rw [if_neg q, if_neg q]; exact h4
