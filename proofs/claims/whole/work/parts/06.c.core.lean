/-! the crowd, as both sides reckon it -/
theorem ix_of {x : Int32} {w : Nat} (hw : w ≤ 8) (h0 : ¬ x < 0) (h1 : x < nI w) : ∃ j : Nat, j < w ∧ x = nI j := by
  obtain ⟨j, hj, rfl⟩ := nI_of h0
  exact ⟨j, (nI_ltI hj (by omega)).mp h1, rfl⟩
theorem bit_0 (v : Int32) : ((v >>> ((0 : Int32) &&& 31)) &&& 1) = 1 ↔ ¬ (v &&& 1) = 0 := by
  rw [sb_shr0]
  obtain ⟨j, hj, e⟩ := pk_andE v (m := 1) 1 (by decide)
  rw [e]
  rcases (show j = 0 ∨ j = 1 by omega) with rfl | rfl <;> decide
theorem bit_m (v : Int32) : (v &&& 1) = 1 ↔ v.toBitVec.getLsbD 0 = true := by
  rw [← Int32.toBitVec_inj]
  show v.toBitVec &&& 1#32 = 1#32 ↔ _
  constructor
  · intro h
    have := congrArg (fun b => BitVec.getLsbD b 0) h
    simpa using this
  · intro h
    apply BitVec.eq_of_getLsbD_eq
    intro i hi
    rw [BitVec.getLsbD_and]
    by_cases h0 : i = 0
    · subst h0; rw [h]; rfl
    · have : BitVec.getLsbD 1#32 i = false := by simp [h0]
      rw [this, Bool.and_false]
theorem bit_n (v : Int32) : (v &&& 2) = 0 ↔ v.toBitVec.getLsbD 1 = false := by
  rw [← Int32.toBitVec_inj]
  show v.toBitVec &&& 2#32 = 0#32 ↔ _
  constructor
  · intro h
    have := congrArg (fun b => BitVec.getLsbD b 1) h
    simpa using this
  · intro h
    apply BitVec.eq_of_getLsbD_eq
    intro i hi
    rw [BitVec.getLsbD_and]
    by_cases h0 : i = 1
    · subst h0; rw [h]; simp
    · have : BitVec.getLsbD 2#32 i = false := by
        rcases (show i = 0 ∨ 2 ≤ i by omega) with rfl | h2
        · rfl
        · have e2 : (2#32) = BitVec.twoPow 32 1 := by decide
          rw [e2, BitVec.getLsbD_twoPow]
          simp; omega
      rw [this, Bool.and_false]; simp
theorem bit_1 (v : Int32) : ((v >>> ((1 : Int32) &&& 31)) &&& 1) = 1 ↔ ¬ (v &&& 2) = 0 := by
  rw [bit_m, bit_n]
  have e : (v >>> ((1 : Int32) &&& 31)).toBitVec.getLsbD 0 = v.toBitVec.getLsbD 1 := by
    show (v.toBitVec.sshiftRight' (((1 : Int32) &&& 31).toBitVec.smod 32)).getLsbD 0 = _
    have e1 : (((1 : Int32) &&& 31).toBitVec.smod 32) = 1#32 := by decide
    rw [e1]
    show (v.toBitVec.sshiftRight 1).getLsbD 0 = _
    rw [BitVec.getLsbD_sshiftRight]
    simp
  rw [e]
  simp

/-- the palms of a row that sound on a half of the beats; none beside the outermost rows -/
def pX (sn pl : Nat → Int32) (w : Nat) (half x : Int32) : Int32 := if x < 0 then 0 else if x < nI w then (if sn x.toNatClampNeg &&& half = 0 then 0 else pl x.toNatClampNeg) else 0
theorem pX_cong {sn pl sn' pl' : Nat → Int32} {w : Nat} (hw : w ≤ 8) (h : ∀ k, k < w → sn k = sn' k ∧ pl k = pl' k) (half x : Int32) : pX sn pl w half x = pX sn' pl' w half x := by
  unfold pX
  by_cases h0 : x < 0
  · rw [if_pos h0, if_pos h0]
  · rw [if_neg h0, if_neg h0]
    by_cases h1 : x < nI w
    · rw [if_pos h1, if_pos h1]
      obtain ⟨j, hj, rfl⟩ := ix_of hw h0 h1
      rw [nI_clamp (by omega), (h j hj).1, (h j hj).2]
    · rw [if_neg h1, if_neg h1]
theorem pts_spec {sn pl : Nat → Int32} {w : Nat} (hw : w ≤ 8) (x half : Int32) : fX0_palmsThatSound sn pl (nI w) x half = some (pX sn pl w half x) := by
  unfold fX0_palmsThatSound pX
  by_cases h0 : x < 0
  · rw [if_pos h0, if_pos h0]
  · rw [if_neg h0, if_neg h0]
    by_cases h1 : x < nI w
    · rw [if_pos h1, if_pos h1]
      obtain ⟨j, hj, rfl⟩ := ix_of hw h0 h1
      rw [kld_nI (by omega) (by omega), kld_nI (by omega) (by omega), kb, nI_clamp (by omega)]
      by_cases h2 : sn j &&& half = 0
      · rw [if_pos h2, if_pos h2]
      · rw [if_neg h2, if_neg h2, kb]
    · rw [if_neg h1, if_neg h1]
theorem row_spec {w : Nat} (hw : w ≤ 8) (x : Int32) : fX6_isRow (nI w) x = some (if x < 0 then 0 else if x < nI w then 1 else 0) := by
  unfold fX6_isRow
  have e : fX6_in (Int32.toInt64 x) (0 : Int64) (Int32.toInt64 (nI w - 1)) = fX5_within x 0 (nI w - 1) := in_eq x 0 (nI w - 1)
  rw [e]
  have hi : (nI w - 1 < x) ↔ ¬ x < nI w := by
    show (nI w - nI 1 < x) ↔ _
    rw [Int32.lt_iff_toInt_lt, Int32.lt_iff_toInt_lt, pk_sub_toInt (by omega) (by omega), nI_toInt (by omega)]
    omega
  by_cases h0 : x < 0
  · rw [wi_out (Or.inl h0), if_pos h0]; rfl
  · rw [if_neg h0]
    by_cases h1 : x < nI w
    · rw [wi_in h0 (fun q => hi.mp q h1), if_pos h1]; rfl
    · rw [wi_out (Or.inr (hi.mpr h1)), if_neg h1]; rfl
theorem tri0 (j : Nat) : (3 : Int32) * nI j = nI (3 * j) := pk_mul 3 j
theorem tri1 (j : Nat) : (3 : Int32) * nI j + 1 = nI (3 * j + 1) := by rw [tri0]; exact nI_1 _
theorem tri2 (j : Nat) : (3 : Int32) * nI j + 2 = nI (3 * j + 2) := by rw [tri0]; exact nI_add (3 * j) 2
/-- the three rows beside one -/
theorem near3 {k : Nat} (hk : k < 8) : (nI k - 1) + 1 = nI k ∧ nI k + 1 + 1 = nI (k + 2) ∧ nI k + 1 = nI (k + 1) := by
  refine ⟨Int32.sub_add_cancel _ _, ?_, nI_1 k⟩
  rw [nI_1, nI_1]
theorem kIter_3 {σ τ : Type} {step : (σ → Option τ) → σ → Option τ} {s0 s1 s2 s3 : σ} {r : τ} (h0 : ∀ rc, step rc s0 = rc s1) (h1 : ∀ rc, step rc s1 = rc s2) (h2 : ∀ rc, step rc s2 = rc s3) (h3 : ∀ rc, step rc s3 = some r) : kIter step 300 s0 = some r := by
  show step (kIter step 299) s0 = some r
  rw [h0]
  show step (kIter step 298) s1 = some r
  rw [h1]
  show step (kIter step 297) s2 = some r
  rw [h2]
  exact h3 _
theorem nlt_up {k j : Nat} (hk : k < 8) (hj : j ≤ k + 1) : ¬ nI k + 1 < nI j := by
  rw [nI_1]; exact nI_nlt hj (by omega)
theorem nlt_m1 {k : Nat} (hk : k < 8) : ¬ nI k + 1 < nI k - 1 := by
  show ¬ nI k + nI 1 < nI k - nI 1
  rw [nI_add, Int32.lt_iff_toInt_lt, pk_sub_toInt (by omega) (by omega), nI_toInt (by omega)]
  omega
theorem n8 {k : Nat} (h : k < 8) : ¬ (8 : Int32) ≤ nI k := nI_ge (a := k) (b := 8) h (by omega)
theorem z8 {k : Nat} (h : k < 8) : nI k < (8 : Int32) := nI_lt (a := k) (b := 8) h (by omega)
theorem kindOf_s {kd : Nat → Int32} {w k : Nat} (hw : w ≤ 8) (hk : k < w) : fX2_kindOf kd (nI w) (nI k) = some (kd k) := by
  unfold fX2_kindOf
  rw [if_neg (nI_pos (by omega)), if_neg (nI_ge hk (by omega)), kld_nI (by omega) (by omega), kb]
theorem palmsOf_s {kd : Nat → Int32} {w k : Nat} (hw : w ≤ 8) (hk : k < w) : fX2_palmsOf kd (nI w) (nI k) = some (kd k) := by
  unfold fX2_palmsOf
  rw [if_neg (nI_pos (by omega)), if_neg (nI_ge hk (by omega)), kld_nI (by omega) (by omega), kb]
theorem strengthOf_s {kd : Nat → Int32} {w k : Nat} (hw : w ≤ 8) (hk : k < w) : fX2_strengthOf kd (nI w) (nI k) = some (kd k) := by
  unfold fX2_strengthOf
  rw [if_neg (nI_pos (by omega)), if_neg (nI_ge hk (by omega)), kld_nI (by omega) (by omega), kb]
theorem soundOf_s {sn : Nat → Int32} {k : Nat} (hk : k < 8) : fX0_soundOf sn (nI k) = some (sn k) := by
  unfold fX0_soundOf
  rw [if_neg (nI_pos (by omega)), if_neg (n8 hk), kld_nI hk (by omega), kb]
theorem clappedOf_s {sn : Nat → Int32} {k : Nat} (hk : k < 8) : fX0_clappedOf sn (nI k) = some (sn k) := by
  unfold fX0_clappedOf
  rw [if_neg (nI_pos (by omega)), if_neg (n8 hk), kld_nI hk (by omega), kb]
theorem isTired_s {cl st : Nat → Int32} {w k : Nat} (hw : w ≤ 8) (hk : k < w) : fX0_isTired cl st (nI w) (nI k) = some (if st k ≤ 0 then 0 else if cl k < st k then 0 else 1) := by
  unfold fX0_isTired
  rw [strengthOf_s hw hk, clappedOf_s (show k < 8 by omega), kb]
  by_cases h0 : st k ≤ 0
  · rw [if_pos h0, if_pos h0]
  · rw [if_neg h0, if_neg h0, kb]
    by_cases h1 : cl k < st k
    · rw [if_pos h1, if_pos h1]
    · rw [if_neg h1, if_neg h1]
theorem isOf_s {kd : Nat → Int32} {w k : Nat} (hw : w ≤ 8) (hk : k < w) : fX2_isOf kd (nI w) (nI k) 1 = some (if kd k = 1 then 1 else if kd k = 4 then 1 else 0) := by
  unfold fX2_isOf
  rw [kindOf_s hw hk, kb, if_neg i10]
  by_cases h1 : kd k = 1
  · rw [if_pos h1.symm, if_pos h1]
  · rw [if_neg (fun q => h1 q.symm), if_neg h1, if_pos rfl]
    by_cases h4 : kd k = 4
    · rw [if_pos h4, if_pos h4]
    · rw [if_neg h4, if_neg h4]
def sum3 (f : Int32 → Int32) (k : Nat) : Int32 := ((0 + f (nI k - 1)) + f (nI k)) + f (nI k + 1)
theorem more_C {sn kd pl : Nat → Int32} {w k : Nat} (hw : w ≤ 8) (hk : k < w) : fX0_soundOfMore sn kd pl (nI w) (nI k) = some (if sum3 (pX sn pl w 1) k = sum3 (pX sn pl w 2) k then (if kd k = 3 then 3 else sn k) else if sum3 (pX sn pl w 1) k ≤ sum3 (pX sn pl w 2) k then 2 else 1) := by
  obtain ⟨e1, e2, e3⟩ := near3 (k := k) (by omega)
  unfold fX0_soundOfMore
  have hl : kIter (fX0_soundOfMore_L1 sn pl (nI w) (nI k)) 300 (0, 0, (nI k - 1)) = some (sum3 (pX sn pl w 1) k, sum3 (pX sn pl w 2) k, nI (k + 2)) := by
    refine kIter_3 (s1 := (0 + pX sn pl w 1 (nI k - 1), 0 + pX sn pl w 2 (nI k - 1), nI k)) (s2 := ((0 + pX sn pl w 1 (nI k - 1)) + pX sn pl w 1 (nI k), (0 + pX sn pl w 2 (nI k - 1)) + pX sn pl w 2 (nI k), nI k + 1)) (s3 := (sum3 (pX sn pl w 1) k, sum3 (pX sn pl w 2) k, nI (k + 2))) (fun rc => ?_) (fun rc => ?_) (fun rc => ?_) (fun rc => ?_)
    · unfold fX0_soundOfMore_L1
      rw [if_neg (nlt_m1 (by omega)), pts_spec hw, pts_spec hw, kb, kb, e1]
    · unfold fX0_soundOfMore_L1
      rw [if_neg (nlt_up (by omega) (by omega)), pts_spec hw, pts_spec hw, kb, kb]
    · unfold fX0_soundOfMore_L1
      rw [if_neg (show ¬ nI k + 1 < nI k + 1 from fun q => Int32.lt_irrefl q), pts_spec hw, pts_spec hw, kb, kb]
      show rc (sum3 _ k, sum3 _ k, nI k + 1 + 1) = _
      rw [e2]
    · unfold fX0_soundOfMore_L1
      rw [if_pos (show nI k + 1 < nI (k + 2) by rw [e3]; exact nI_lt (by omega) (by omega))]
  rw [hl, kb]
  show (if sum3 (pX sn pl w 1) k = sum3 (pX sn pl w 2) k then _ else _) = _
  by_cases h0 : sum3 (pX sn pl w 1) k = sum3 (pX sn pl w 2) k
  · rw [if_pos h0, if_pos h0]
    rw [kindOf_s hw hk, soundOf_s (show k < 8 by omega), kb]
    by_cases h3 : kd k = 3
    · rw [if_pos h3, if_pos h3]
    · rw [if_neg h3, if_neg h3, kb]
  · rw [if_neg h0, if_neg h0]
    by_cases h1 : sum3 (pX sn pl w 1) k ≤ sum3 (pX sn pl w 2) k
    · rw [if_pos h1, if_pos h1]
    · rw [if_neg h1, if_neg h1]
