/-! how loud a beat is -/
theorem kIter_5 {σ τ : Type} {step : (σ → Option τ) → σ → Option τ} {s0 s1 s2 s3 s4 s5 : σ} {r : τ} (h0 : ∀ rc, step rc s0 = rc s1) (h1 : ∀ rc, step rc s1 = rc s2) (h2 : ∀ rc, step rc s2 = rc s3) (h3 : ∀ rc, step rc s3 = rc s4) (h4 : ∀ rc, step rc s4 = rc s5) (h5 : ∀ rc, step rc s5 = some r) : kIter step 300 s0 = some r := by
  show step (kIter step 299) s0 = some r
  rw [h0]
  show step (kIter step 298) s1 = some r
  rw [h1]
  exact kIter_run (step := step) (fun k => match k with | 0 => s2 | 1 => s3 | 2 => s4 | _ => s5) (b := 3) h5 3 0 rfl (fun k _ hk => match k, hk with | 0, _ => h2 | 1, _ => h3 | 2, _ => h4 | n + 3, h => absurd h (by omega)) 298 (by omega)
theorem loud_step {rw_ sn : Nat → Int32} {w k : Nat} (hw : w ≤ 8) {beat half : Int32} (hb : ∀ v : Int32, ((v >>> ((beat - beat / 2 * 2) &&& 31)) &&& 1) = 1 ↔ ¬ (v &&& half) = 0) (rc : Int32 × Int32 → Option (Int32 × Int32)) (s x : Int32) (hx : ¬ nI k + 2 < x) :
    fX6_loudOf_L1 (nI w) rw_ sn (nI k) beat rc (s, x) = if x = nI k - 2 then rc (s + pX sn (fun j => rw_ (3 * j + 1)) w half x / 2, x + 1) else if x = nI k + 2 then rc (s + pX sn (fun j => rw_ (3 * j + 1)) w half x / 2, x + 1) else rc (s + pX sn (fun j => rw_ (3 * j + 1)) w half x, x + 1) := by
  unfold fX6_loudOf_L1
  rw [if_neg hx, row_spec hw, kb]
  have e : (if (if x < 0 then (0 : Int32) else if x < nI w then 1 else 0) = (0 : Int32) then some (0 : Int32) else (kld 8 sn x).bind fun v5 => if ((v5 >>> ((beat - beat / 2 * 2) &&& 31)) &&& 1) = (1 : Int32) then (kld 24 rw_ ((3 * x) + 1)).bind fun v6 => some v6 else some 0) = some (pX sn (fun j => rw_ (3 * j + 1)) w half x) := by
    unfold pX
    by_cases h0 : x < 0
    · rw [if_pos h0, if_pos h0, if_pos rfl]
    · rw [if_neg h0, if_neg h0]
      by_cases h1 : x < nI w
      · rw [if_pos h1, if_pos h1, if_neg i10]
        obtain ⟨j, hj, rfl⟩ := ix_of hw h0 h1
        rw [tri1, kld_nI (by omega) (by omega), kld_nI (by omega) (by omega), kb, kb, nI_clamp (by omega)]
        by_cases h2 : sn j &&& half = 0
        · rw [if_neg (fun q => (hb _).mp q h2), if_pos h2]
        · rw [if_pos ((hb _).mpr h2), if_neg h2]
      · rw [if_neg h1, if_neg h1, if_pos rfl]
  dsimp only
  rw [e, kb]
theorem m2_1 (y : Int32) : y - 2 + 1 = y - 1 := by
  rw [Int32.sub_eq_add_neg, Int32.sub_eq_add_neg, Int32.add_assoc]; rfl
theorem p1_1 (y : Int32) : y + 1 + 1 = y + 2 := by rw [Int32.add_assoc]; rfl
theorem ti2 {k : Nat} (hk : k < 8) : (nI k - 2).toInt = (k : Int) - 2 ∧ (nI k - 1).toInt = (k : Int) - 1 ∧ (nI k).toInt = k ∧ (nI k + 1).toInt = (k : Int) + 1 ∧ (nI k + 2).toInt = (k : Int) + 2 := by
  refine ⟨?_, ?_, nI_toInt (by omega), ?_, ?_⟩
  · show (nI k - nI 2).toInt = _
    rw [pk_sub_toInt (by omega) (by omega)]; rfl
  · show (nI k - nI 1).toInt = _
    rw [pk_sub_toInt (by omega) (by omega)]; rfl
  · show (nI k + nI 1).toInt = _
    rw [nI_add, nI_toInt (by omega)]; rfl
  · show (nI k + nI 2).toInt = _
    rw [nI_add, nI_toInt (by omega)]; rfl
theorem loud_M {rw_ sn : Nat → Int32} {w k : Nat} (hw : w ≤ 8) (hk : k < 8) {beat half : Int32} (hb : ∀ v : Int32, ((v >>> ((beat - beat / 2 * 2) &&& 31)) &&& 1) = 1 ↔ ¬ (v &&& half) = 0) : fX6_loudOf (nI w) rw_ sn (nI k) beat = some (sum3 (pX sn (fun j => rw_ (3 * j + 1)) w half) k + pX sn (fun j => rw_ (3 * j + 1)) w half (nI k - 2) / 2 + pX sn (fun j => rw_ (3 * j + 1)) w half (nI k + 2) / 2) := by
  obtain ⟨t0, t1, t2, t3, t4⟩ := ti2 hk
  have ne : ∀ {x y : Int32}, x.toInt ≠ y.toInt → ¬ x = y := fun h e => h (by rw [e])
  have nl : ∀ {x y : Int32}, ¬ x.toInt < y.toInt → ¬ x < y := fun h q => h (Int32.lt_iff_toInt_lt.mp q)
  unfold fX6_loudOf
  generalize hP : pX sn (fun j => rw_ (3 * j + 1)) w half = P
  have st := fun rc s x hx => loud_step (rw_ := rw_) (sn := sn) (k := k) hw hb rc s x hx
  rw [hP] at st
  have hl : kIter (fX6_loudOf_L1 (nI w) rw_ sn (nI k) beat) 300 (0, (nI k - 2)) = some (0 + P (nI k - 2) / 2 + P (nI k - 1) + P (nI k) + P (nI k + 1) + P (nI k + 2) / 2, nI k + 2 + 1) := by
    refine kIter_5 (s1 := (0 + P (nI k - 2) / 2, nI k - 1)) (s2 := (0 + P (nI k - 2) / 2 + P (nI k - 1), nI k)) (s3 := (0 + P (nI k - 2) / 2 + P (nI k - 1) + P (nI k), nI k + 1)) (s4 := (0 + P (nI k - 2) / 2 + P (nI k - 1) + P (nI k) + P (nI k + 1), nI k + 2)) (s5 := (0 + P (nI k - 2) / 2 + P (nI k - 1) + P (nI k) + P (nI k + 1) + P (nI k + 2) / 2, nI k + 2 + 1)) (fun rc => ?_) (fun rc => ?_) (fun rc => ?_) (fun rc => ?_) (fun rc => ?_) (fun rc => ?_)
    · rw [st _ _ _ (nl (by omega)), if_pos rfl, m2_1]
    · rw [st _ _ _ (nl (by omega)), if_neg (ne (by omega)), if_neg (ne (by omega)), Int32.sub_add_cancel]
    · rw [st _ _ _ (nl (by omega)), if_neg (ne (by omega)), if_neg (ne (by omega))]
    · rw [st _ _ _ (nl (by omega)), if_neg (ne (by omega)), if_neg (ne (by omega)), p1_1]
    · rw [st _ _ _ (nl (by omega)), if_neg (ne (by omega)), if_pos rfl]
    · unfold fX6_loudOf_L1
      have e5 : nI k + 2 + 1 = nI (k + 3) := by
        show nI k + nI 2 + nI 1 = _
        rw [nI_add, nI_add]
      rw [if_pos]
      dsimp only
      rw [e5, Int32.lt_iff_toInt_lt, t4, nI_toInt (by omega)]
      omega
  rw [hl, kb]
  unfold sum3
  refine congrArg some ?_
  simp only [Int32.zero_add]
  ac_rfl
theorem loud_C {pl sn : Nat → Int32} {w k : Nat} (hw : w ≤ 8) (hk : k < 8) {beat half : Int32} (hb : (if (beat - beat / 2 * 2) = (0 : Int32) then some (1 : Int32) else some 2) = some half) : fX0_loudness sn pl (nI w) (nI k) beat = some (sum3 (pX sn pl w half) k + pX sn pl w half (nI k - 2) / 2 + pX sn pl w half (nI k + 2) / 2) := by
  obtain ⟨e1, e2, e3⟩ := near3 (k := k) hk
  unfold fX0_loudness
  rw [hb, kb]
  have hl : kIter (fX0_loudness_L1 sn pl (nI w) (nI k) half) 300 (0, (nI k - 1)) = some (sum3 (pX sn pl w half) k, nI (k + 2)) := by
    refine kIter_3 (s1 := (0 + pX sn pl w half (nI k - 1), nI k)) (s2 := ((0 + pX sn pl w half (nI k - 1)) + pX sn pl w half (nI k), nI k + 1)) (s3 := (sum3 (pX sn pl w half) k, nI (k + 2))) (fun rc => ?_) (fun rc => ?_) (fun rc => ?_) (fun rc => ?_)
    · unfold fX0_loudness_L1
      rw [if_neg (nlt_m1 hk), pts_spec hw, kb, e1]
    · unfold fX0_loudness_L1
      rw [if_neg (nlt_up hk (by omega)), pts_spec hw, kb]
    · unfold fX0_loudness_L1
      rw [if_neg (show ¬ nI k + 1 < nI k + 1 from fun q => Int32.lt_irrefl q), pts_spec hw, kb]
      show rc (sum3 _ k, nI k + 1 + 1) = _
      rw [e2]
    · unfold fX0_loudness_L1
      rw [if_pos (show nI k + 1 < nI (k + 2) by rw [e3]; exact nI_lt (by omega) (by omega))]
  rw [hl, kb, pts_spec hw, kb, pts_spec hw, kb]
theorem loud_sim {kd pl st rw_ sn cl sn' cl' : Nat → Int32} {w k : Nat} (hw : w ≤ 8) (hk : k < w) (hH : HR w kd pl st rw_) (hS : SR w sn cl sn' cl') {y : Int32} (h0 : ¬ y < 0) (h3 : y ≤ 3) : ∃ v, fX0_loudness sn pl (nI w) (nI k) y = some v ∧ fX6_loudOf (nI w) rw_ sn' (nI k) y = some v := by
  have hp : ∀ half : Int32, pX sn pl w half = pX sn' (fun j => rw_ (3 * j + 1)) w half := fun half => funext fun x => pX_cong hw (fun j hj => ⟨(hS j hj).1, (hH j hj).2.1⟩) half x
  obtain ⟨b, hb, rfl⟩ := nI_of2 (M := 3) (n := 3) (by decide) h0 h3
  rcases (show b = 0 ∨ b = 1 ∨ b = 2 ∨ b = 3 by omega) with rfl | rfl | rfl | rfl
  · exact ⟨_, loud_C (half := 1) hw (by omega) (by decide), by rw [loud_M (half := 1) hw (by omega) (by rw [show nI 0 - nI 0 / 2 * 2 = (0 : Int32) by decide]; exact bit_0), hp]⟩
  · exact ⟨_, loud_C (half := 2) hw (by omega) (by decide), by rw [loud_M (half := 2) hw (by omega) (by rw [show nI 1 - nI 1 / 2 * 2 = (1 : Int32) by decide]; exact bit_1), hp]⟩
  · exact ⟨_, loud_C (half := 1) hw (by omega) (by decide), by rw [loud_M (half := 1) hw (by omega) (by rw [show nI 2 - nI 2 / 2 * 2 = (0 : Int32) by decide]; exact bit_0), hp]⟩
  · exact ⟨_, loud_C (half := 2) hw (by omega) (by decide), by rw [loud_M (half := 2) hw (by omega) (by rw [show nI 3 - nI 3 / 2 * 2 = (1 : Int32) by decide]; exact bit_1), hp]⟩
