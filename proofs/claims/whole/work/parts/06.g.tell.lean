/-! lags, what is told of a row -/
def lgS (late x : Int32) : Int32 := if late = 0 then 0 else x / late
def hdS (late x v : Int32) : Int32 := if (lgS late x - lgS late x / 2 * 2) = 1 then swS v else v
theorem lag_C {t : Nat} (ht : t ≤ 3) (x : Int32) : fX2_lag (nI t) x = some (lgS (nI t) x) := by
  unfold fX2_lag lgS kdiv
  by_cases h : t = 0
  · subst h
    rw [if_pos (show nI 0 ≤ 0 by decide), if_pos (show nI 0 = 0 by decide)]
  · rw [if_neg (nI_nle (by omega) (by omega)), if_neg (nI_ne0 (by omega) (by omega)), kb, if_neg (nI_ne0 (by omega) (by omega))]
theorem lag_M {t : Nat} (ht : t ≤ 3) (x : Int32) : fX6_lagOf (nI t) x = some (lgS (nI t) x) := by
  unfold fX6_lagOf lgS kdiv
  by_cases h : t = 0
  · subst h
    rw [if_pos (show nI 0 = 0 by decide), if_pos (show nI 0 = 0 by decide)]
  · rw [if_neg (nI_ne0 (by omega) (by omega)), if_neg (nI_ne0 (by omega) (by omega)), kb, if_neg (nI_ne0 (by omega) (by omega))]
theorem heard_C {t : Nat} (ht : t ≤ 3) (x v : Int32) : fX5_heard (nI t) x v = some (hdS (nI t) x v) := by
  unfold fX5_heard hdS
  rw [lag_C ht, kb, swap_s, kb]
  by_cases h : (lgS (nI t) x - lgS (nI t) x / 2 * 2) = 1
  · rw [if_pos h, if_pos h]
  · rw [if_neg h, if_neg h]
theorem byLag_M {t : Nat} (ht : t ≤ 3) (x v : Int32) : fX6_byLag (nI t) x v = some (hdS (nI t) x v) := by
  unfold fX6_byLag hdS swS
  rw [lag_M ht, kb]
  by_cases h : (lgS (nI t) x - lgS (nI t) x / 2 * 2) = 1
  · rw [if_pos h, if_pos h, kb, if_neg i10, if_neg i10]
    by_cases h1 : v = 1
    · rw [if_pos h1, if_pos h1]
    · rw [if_neg h1, if_neg h1]
      by_cases h2 : v = 2
      · rw [if_pos h2, if_pos h2]
      · rw [if_neg h2, if_neg h2]
  · rw [if_neg h, if_neg h, kb, if_pos rfl, if_pos rfl]
theorem has_C {w : Nat} (hw : w ≤ 8) (x : Int32) : fX2_has (nI w) x = some (if x < 0 then 0 else if x < nI w then 1 else 0) := by
  unfold fX2_has
  by_cases h0 : x < 0
  · rw [if_pos h0, if_pos h0]
  · rw [if_neg h0, if_neg h0]
    by_cases h1 : x < nI w
    · have : ¬ nI w ≤ x := fun q => by rw [Int32.lt_iff_toInt_lt] at h1; rw [Int32.le_iff_toInt_le] at q; omega
      rw [if_pos h1, if_neg this]
    · have : nI w ≤ x := by rw [Int32.lt_iff_toInt_lt] at h1; rw [Int32.le_iff_toInt_le]; omega
      rw [if_neg h1, if_pos this]
theorem there_C {w : Nat} (hw : w ≤ 8) : fX2_isThere (nI w) = some (if w = 0 then 0 else 1) := by
  unfold fX2_isThere
  by_cases h : w = 0
  · subst h; rfl
  · rw [if_neg (nI_nle (by omega) (by omega)), if_neg h]
theorem lacks_M {w : Nat} (hw : w ≤ 8) : fX6_lacks (nI w) = some (if w = 0 then 1 else 0) := by
  unfold fX6_lacks
  by_cases h : w = 0
  · subst h; rfl
  · rw [if_neg (nI_ne0 (by omega) (by omega)), if_neg h]
theorem oneIf_s (x : Int32) : fX5_oneIf x = some (if x = 0 then 0 else 1) := by
  unfold fX5_oneIf
  by_cases h : x = 0
  · rw [if_pos h, if_pos h]
  · rw [if_neg h, if_neg h]
theorem tell_eq {w k t : Nat} {kd pl st sn cl rw_ sn' cl' : Nat → Int32} {arm : Int32} (hw : w ≤ 8) (hk : k < w) (ht : t ≤ 3) (hh : ∀ k, k < w → kd k = rw_ (3 * k) ∧ pl k = rw_ (3 * k + 1) ∧ st k = rw_ (3 * k + 2)) (hc : ∀ k, k < w → sn k = sn' k ∧ cl k = cl' k) {y : Int32} (h0 : ¬ y < 0) (h8 : y ≤ 8) :
    ∃ r, fX5_aboutRow kd pl st (nI w) (nI t) sn cl arm (nI k) y = some r ∧ fX6_tell (nI t) arm rw_ sn' cl' (nI k) y = some r := by
  have hk8 : k < 8 := by omega
  obtain ⟨j, hj, rfl⟩ := nI_of2 (M := 8) (n := 8) (by decide) h0 h8
  have hti : tiS st cl k = tiS (fun j => rw_ (3 * j + 2)) cl' k := by unfold tiS; rw [(hh k hk).2.2, (hc k hk).2]
  rcases (show j = 0 ∨ j = 1 ∨ j = 2 ∨ j = 3 ∨ j = 4 ∨ j = 5 ∨ j = 6 ∨ j = 7 ∨ j = 8 by omega) with rfl | rfl | rfl | rfl | rfl | rfl | rfl | rfl | rfl
  · refine ⟨kd k, ?_, ?_⟩
    · show (fX2_kindOf kd (nI w) (nI k)).bind (fun u => some u) = _
      rw [kindOf_s hw hk, kb]
    · show (kld 24 rw_ (3 * nI k + nI 0)).bind (fun u => some u) = _
      rw [tri0, nI_add, kld_nI (by omega) (by omega), kb, (hh k hk).1]; rfl
  · refine ⟨pl k, ?_, ?_⟩
    · show (fX2_palmsOf pl (nI w) (nI k)).bind (fun u => some u) = _
      rw [palmsOf_s hw hk, kb]
    · show (kld 24 rw_ (3 * nI k + nI 1)).bind (fun u => some u) = _
      rw [tri0, nI_add, kld_nI (by omega) (by omega), kb, (hh k hk).2.1]
  · refine ⟨st k, ?_, ?_⟩
    · show (fX2_strengthOf st (nI w) (nI k)).bind (fun u => some u) = _
      rw [strengthOf_s hw hk, kb]
    · show (kld 24 rw_ (3 * nI k + nI 2)).bind (fun u => some u) = _
      rw [tri0, nI_add, kld_nI (by omega) (by omega), kb, (hh k hk).2.2]
  · refine ⟨lgS (nI t) (nI k), ?_, ?_⟩
    · show (fX2_lag (nI t) (nI k)).bind (fun u => some u) = _
      rw [lag_C ht, kb]
    · show (fX6_lagOf (nI t) (nI k)).bind (fun u => some u) = _
      rw [lag_M ht, kb]
  · refine ⟨sn k, ?_, ?_⟩
    · show (fX0_soundOf sn (nI k)).bind (fun u => some u) = _
      rw [soundOf_s hk8, kb]
    · show (kld 8 sn' (nI k)).bind (fun u => some u) = _
      rw [kld_nI hk8 (by omega), kb, (hc k hk).1]
  · refine ⟨hdS (nI t) (nI k) (sn k), ?_, ?_⟩
    · show (fX0_soundOf sn (nI k)).bind (fun u => (fX5_heard (nI t) (nI k) u).bind fun v => some v) = _
      rw [soundOf_s hk8, kb, heard_C ht, kb]
    · show (kld 8 sn' (nI k)).bind (fun u => (fX6_byLag (nI t) (nI k) u).bind fun v => some v) = _
      rw [kld_nI hk8 (by omega), kb, byLag_M ht, kb, (hc k hk).1]
  · refine ⟨cl k, ?_, ?_⟩
    · show (fX0_clappedOf cl (nI k)).bind (fun u => some u) = _
      rw [clappedOf_s hk8, kb]
    · show (kld 8 cl' (nI k)).bind (fun u => some u) = _
      rw [kld_nI hk8 (by omega), kb, (hc k hk).2]
  · refine ⟨if tiS st cl k = 0 then 0 else 1, ?_, ?_⟩
    · show (fX0_isTired cl st (nI w) (nI k)).bind (fun u => (fX5_oneIf u).bind fun v => some v) = _
      rw [isTired_s hw hk, kb, oneIf_s, kb]; rfl
    · show (fX6_isTired_clapped rw_ cl' (nI k)).bind (fun u => if u = (0 : Int32) then some 0 else some 1) = _
      rw [tired_M2 hk8, kb, hti]
      by_cases q : tiS (fun j => rw_ (3 * j + 2)) cl' k = 0
      · rw [if_pos q, if_pos q]
      · rw [if_neg q, if_neg q]
  · refine ⟨if arm ≤ nI k then 0 else 1, ?_, ?_⟩
    · show (fX0_seesArm arm (nI k)).bind (fun u => (fX5_oneIf u).bind fun v => some v) = _
      unfold fX0_seesArm
      by_cases q : arm ≤ nI k
      · rw [if_pos q, if_pos q, kb]; rfl
      · rw [if_neg q, if_neg q, kb]; rfl
    · show (if arm ≤ nI k then some (0 : Int32) else some 1) = _
      by_cases q : arm ≤ nI k
      · rw [if_pos q, if_pos q]
      · rw [if_neg q, if_neg q]
theorem tell_out {late arm x y : Int32} {rw_ sn cl : Nat → Int32} (h : y < 0 ∨ 8 < y) : fX6_tell late arm rw_ sn cl x y = some (-102) := by
  unfold fX6_tell
  rw [if_neg (fun e => by subst e; revert h; decide), if_neg (fun e => by subst e; revert h; decide), if_neg (fun e => by subst e; revert h; decide), if_neg (fun e => by subst e; revert h; decide), if_neg (fun e => by subst e; revert h; decide), if_neg (fun e => by subst e; revert h; decide), if_neg (fun e => by subst e; revert h; decide), if_neg (fun e => by subst e; revert h; decide), if_neg (fun e => by subst e; revert h; decide)]
