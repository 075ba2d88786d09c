/-! a row's next sound, on both sides -/
def tiS (st cl : Nat → Int32) (k : Nat) : Int32 := if st k ≤ 0 then 0 else if cl k < st k then 0 else 1
def stS (kd : Nat → Int32) (k : Nat) : Int32 := if kd k = 1 then 1 else if kd k = 4 then 1 else 0
def moS (kd pl : Nat → Int32) (w : Nat) (sn : Nat → Int32) (k : Nat) : Int32 := if sum3 (pX sn pl w 1) k = sum3 (pX sn pl w 2) k then (if kd k = 3 then 3 else sn k) else if sum3 (pX sn pl w 1) k ≤ sum3 (pX sn pl w 2) k then 2 else 1
def nxS (kd pl st : Nat → Int32) (w : Nat) (arm : Int32) (sn cl : Nat → Int32) (k : Nat) : Int32 := if tiS st cl k = 0 then (if sn k = 0 then 3 else if stS kd k = 0 then (if kd k = 2 then (if arm ≤ nI k then moS kd pl w sn k else 2) else moS kd pl w sn k) else sn k) else 0
theorem next_C {sn cl kd pl st : Nat → Int32} {arm : Int32} {w k : Nat} (hw : w ≤ 8) (hk : k < w) : fX0_soundNext sn cl arm kd pl st (nI w) (nI k) = some (nxS kd pl st w arm sn cl k) := by
  unfold fX0_soundNext nxS
  rw [isTired_s hw hk, kb]
  show (if tiS st cl k = 0 then _ else _) = _
  by_cases h0 : tiS st cl k = 0
  · rw [if_pos h0, if_pos h0, soundOf_s (show k < 8 by omega), kb]
    by_cases h1 : sn k = 0
    · rw [if_pos h1, if_pos h1]
    · rw [if_neg h1, if_neg h1, isOf_s hw hk, kb]
      show (if stS kd k = 0 then _ else _) = _
      by_cases h2 : stS kd k = 0
      · rw [if_pos h2, if_pos h2, kindOf_s hw hk, kb, more_C hw hk]
        by_cases h3 : kd k = 2
        · rw [if_pos h3, if_pos h3]
          unfold fX0_seesArm
          by_cases h4 : arm ≤ nI k
          · rw [if_pos h4, if_pos h4, kb, if_pos rfl, kb]; rfl
          · rw [if_neg h4, if_neg h4, kb, if_neg i10]
        · rw [if_neg h3, if_neg h3, kb]; rfl
      · rw [if_neg h2, if_neg h2]
  · rw [if_neg h0, if_neg h0]
theorem tired_M {rw_ nl : Nat → Int32} {k : Nat} (hk : k < 8) : fX6_isTired_nowLong rw_ nl (nI k) = some (tiS (fun j => rw_ (3 * j + 2)) nl k) := by
  unfold fX6_isTired_nowLong tiS
  rw [tri2, kld_nI (by omega) (by omega), kld_nI hk (by omega), kb]
  by_cases h0 : rw_ (3 * k + 2) ≤ 0
  · rw [if_pos h0, if_pos h0]
  · rw [if_neg h0, if_neg h0, kb, kb]
    by_cases h1 : nl k < rw_ (3 * k + 2)
    · rw [if_pos h1, if_pos h1]
    · rw [if_neg h1, if_neg h1]
theorem tired_M2 {rw_ nl : Nat → Int32} {k : Nat} (hk : k < 8) : fX6_isTired_clapped rw_ nl (nI k) = some (tiS (fun j => rw_ (3 * j + 2)) nl k) := tired_M hk
theorem stub_M {rw_ : Nat → Int32} {k : Nat} (hk : k < 8) : fX6_isStubborn rw_ (nI k) = some (stS (fun j => rw_ (3 * j)) k) := by
  unfold fX6_isStubborn stS
  rw [tri0, kld_nI (by omega) (by omega), kb, kb]
  by_cases h1 : rw_ (3 * k) = 1
  · rw [if_pos h1, if_pos h1]
  · rw [if_neg h1, if_neg h1]
    by_cases h4 : rw_ (3 * k) = 4
    · rw [if_pos h4, if_pos h4]
    · rw [if_neg h4, if_neg h4]
theorem by_step {rw_ ah : Nat → Int32} {w k : Nat} (hw : w ≤ 8) {bit half : Int32} (hb : ∀ v : Int32, ((v >>> (bit &&& 31)) &&& 1) = 1 ↔ ¬ (v &&& half) = 0) (rc : Int32 × Int32 → Option (Int32 × Int32)) (s x : Int32) (hx : ¬ nI k + 1 < x) :
    fX6_palmsBy_L1 (nI w) rw_ ah (nI k) bit rc (s, x) = rc (s + pX ah (fun j => rw_ (3 * j + 1)) w half x, x + 1) := by
  unfold fX6_palmsBy_L1
  rw [if_neg hx, row_spec hw, kb]
  unfold pX
  by_cases h0 : x < 0
  · rw [if_pos h0, if_pos h0, if_pos rfl]
  · rw [if_neg h0, if_neg h0]
    by_cases h1 : x < nI w
    · rw [if_pos h1, if_pos h1, if_neg i10]
      obtain ⟨j, hj, rfl⟩ := ix_of hw h0 h1
      rw [tri1, kld_nI (by omega) (by omega), kld_nI (by omega) (by omega), kb, nI_clamp (by omega)]
      by_cases h2 : ah j &&& half = 0
      · rw [if_neg (fun q => (hb _).mp q h2), if_pos h2]
      · rw [if_pos ((hb _).mpr h2), if_neg h2, kb]
    · rw [if_neg h1, if_neg h1, if_pos rfl]
theorem by_M {rw_ ah : Nat → Int32} {w k : Nat} (hw : w ≤ 8) (hk : k < 8) {bit half : Int32} (hb : ∀ v : Int32, ((v >>> (bit &&& 31)) &&& 1) = 1 ↔ ¬ (v &&& half) = 0) : fX6_palmsBy (nI w) rw_ ah (nI k) bit = some (sum3 (pX ah (fun j => rw_ (3 * j + 1)) w half) k) := by
  obtain ⟨e1, e2, e3⟩ := near3 (k := k) hk
  unfold fX6_palmsBy
  have hl : kIter (fX6_palmsBy_L1 (nI w) rw_ ah (nI k) bit) 300 (0, (nI k - 1)) = some (sum3 (pX ah (fun j => rw_ (3 * j + 1)) w half) k, nI (k + 2)) := by
    refine kIter_3 (s1 := (0 + pX ah (fun j => rw_ (3 * j + 1)) w half (nI k - 1), nI k)) (s2 := ((0 + pX ah (fun j => rw_ (3 * j + 1)) w half (nI k - 1)) + pX ah (fun j => rw_ (3 * j + 1)) w half (nI k), nI k + 1)) (s3 := (sum3 (pX ah (fun j => rw_ (3 * j + 1)) w half) k, nI (k + 2))) (fun rc => ?_) (fun rc => ?_) (fun rc => ?_) (fun rc => ?_)
    · rw [by_step hw hb rc _ _ (nlt_m1 hk), e1]
    · rw [by_step hw hb rc _ _ (nlt_up hk (by omega))]
    · rw [by_step hw hb rc _ _ (fun q => Int32.lt_irrefl q), e2]; rfl
    · unfold fX6_palmsBy_L1
      rw [if_pos (show nI k + 1 < nI (k + 2) by rw [e3]; exact nI_lt (by omega) (by omega))]
  rw [hl, kb]
theorem cmp_M (o e a b : Int32) : (if o ≤ e then (if e ≤ o then (if a = 3 then some 3 else some b) else some 2) else some 1) = some (if o = e then (if a = 3 then 3 else b) else if o ≤ e then (2 : Int32) else 1) := by
  by_cases h0 : o = e
  · subst h0
    rw [if_pos (Int32.le_refl o), if_pos (Int32.le_refl o), if_pos rfl]
    by_cases h3 : a = 3
    · rw [if_pos h3, if_pos h3]
    · rw [if_neg h3, if_neg h3]
  · rw [if_neg h0]
    by_cases h1 : o ≤ e
    · rw [if_pos h1, if_pos h1, if_neg]
      intro h2
      exact h0 (Int32.le_antisymm h1 h2)
    · rw [if_neg h1, if_neg h1]
theorem next_M {rw_ nl ah : Nat → Int32} {arm : Int32} {w k : Nat} (hw : w ≤ 8) (hk : k < w) : fX6_nextOf (nI w) rw_ nl ah arm (nI k) = some (nxS (fun j => rw_ (3 * j)) (fun j => rw_ (3 * j + 1)) (fun j => rw_ (3 * j + 2)) w arm ah nl k) := by
  have hk8 : k < 8 := by omega
  unfold fX6_nextOf nxS
  rw [tired_M hk8, kb]
  by_cases h0 : tiS (fun j => rw_ (3 * j + 2)) nl k = 0
  · rw [if_pos h0, if_pos h0, kld_nI hk8 (by omega), kb]
    by_cases h1 : ah k = 0
    · rw [if_pos h1, if_pos h1]
    · rw [if_neg h1, if_neg h1, stub_M hk8, kb]
      by_cases h2 : stS (fun j => rw_ (3 * j)) k = 0
      · rw [if_pos h2, if_pos h2, tri0, kld_nI (by omega) (by omega), kb, by_M hw hk8 bit_0, by_M hw hk8 bit_1]
        have hm := cmp_M (sum3 (pX ah (fun j => rw_ (3 * j + 1)) w 1) k) (sum3 (pX ah (fun j => rw_ (3 * j + 1)) w 2) k) (rw_ (3 * k)) (ah k)
        by_cases h3 : rw_ (3 * k) = 2
        · rw [if_pos h3, if_pos h3]
          by_cases h4 : arm ≤ nI k
          · rw [if_pos h4, if_pos h4]
            exact hm
          · rw [if_neg h4, if_neg h4]
        · rw [if_neg h3, if_neg h3]
          exact hm
      · rw [if_neg h2, if_neg h2]; rfl
  · rw [if_neg h0, if_neg h0]
theorem nxS_cong {kd pl st kd' pl' st' sn cl sn' cl' : Nat → Int32} {w k : Nat} {arm : Int32} (hw : w ≤ 8) (hk : k < w) (hh : ∀ j, j < w → kd j = kd' j ∧ pl j = pl' j ∧ st j = st' j) (hc : ∀ j, j < w → sn j = sn' j ∧ cl j = cl' j) : nxS kd pl st w arm sn cl k = nxS kd' pl' st' w arm sn' cl' k := by
  have hp : ∀ half : Int32, pX sn pl w half = pX sn' pl' w half := fun half => funext fun x => pX_cong hw (fun j hj => ⟨(hc j hj).1, (hh j hj).2.1⟩) half x
  unfold nxS tiS stS moS
  rw [hp 1, hp 2, (hh k hk).1, (hh k hk).2.2, (hc k hk).1, (hc k hk).2]
