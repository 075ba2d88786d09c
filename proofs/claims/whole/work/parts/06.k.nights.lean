/-! draws, nights -/
theorem pos1 {x : Int32} (h : ¬ x < 1) : ¬ x < 0 := fun q => h (by
  rw [Int32.lt_iff_toInt_lt] at q ⊢
  have a1 : (1 : Int32).toInt = 1 := by decide
  have a0 : (0 : Int32).toInt = 0 := by decide
  omega)
def sdS (a : Nat) : Nat := (1103515245 * a + 12345) % 2147483648
theorem sd_lt (a : Nat) : sdS a < 2 ^ 31 := Nat.mod_lt _ (by decide)
theorem mask31 (n : Nat) : lN n &&& (2147483647 : Int64) = lN (n % 2147483648) := by
  apply Int64.toBitVec_inj.1
  show BitVec.ofNat 64 n &&& BitVec.ofNat 64 2147483647 = BitVec.ofNat 64 (n % 2147483648)
  apply BitVec.eq_of_toNat_eq
  rw [BitVec.toNat_and, BitVec.toNat_ofNat, BitVec.toNat_ofNat, BitVec.toNat_ofNat]
  have e : (2147483647 : Nat) % 2 ^ 64 = 2 ^ 31 - 1 := by decide
  rw [e, Nat.and_two_pow_sub_one_eq_mod]
  have h1 : n % 2 ^ 64 % 2 ^ 31 = n % 2 ^ 31 := Nat.mod_mod_of_dvd n (by decide)
  rw [h1]
  have h2 : n % 2147483648 < 2 ^ 64 := Nat.lt_of_lt_of_le (Nat.mod_lt _ (by decide)) (by decide)
  rw [Nat.mod_eq_of_lt h2]
theorem lin {a : Nat} (ha : a < 2 ^ 31) : ((1103515245 : Int64) * (Int32.toInt64 (nI a)) + (12345 : Int64)) = lN (1103515245 * a + 12345) := by
  rw [nI_l ha]
  show lN 1103515245 * lN a + lN 12345 = _
  rw [lN_mul, lN_add]
theorem sd_C {a : Nat} (ha : a < 2 ^ 31) : Int64.toInt32 ((((1103515245 : Int64) * (Int32.toInt64 (nI a))) + (12345 : Int64)) - (((1103515245 : Int64) * (Int32.toInt64 (nI a))) + (12345 : Int64)) / (2147483648 : Int64) * (2147483648 : Int64)) = nI (sdS a) := by
  rw [lin ha]
  show Int64.toInt32 (lN _ - lN _ / lN 2147483648 * lN 2147483648) = _
  rw [pk_lRem (by omega) (by decide) (by decide), lN_i]; rfl
theorem sd_M {a : Nat} (ha : a < 2 ^ 31) : Int64.toInt32 ((((1103515245 : Int64) * (Int32.toInt64 (nI a))) + (12345 : Int64)) &&& (2147483647 : Int64)) = nI (sdS a) := by
  rw [lin ha, mask31, lN_i]; rfl
theorem krem_s {a m : Nat} (ha : a < 2 ^ 31) (h0 : 0 < m) (hm : m < 2 ^ 31) : krem (nI a / 65536) (nI m) = some (nI (a / 65536 % m)) := by
  unfold krem
  rw [if_neg (nI_ne0 h0 hm)]
  have e : nI a / 65536 = nI (a / 65536) := pk_div (d := 65536) ha (by decide) (by decide)
  rw [e, pk_rem (Nat.lt_of_le_of_lt (Nat.div_le_self _ _) ha) h0 hm]
theorem draw_C {a m : Nat} (ha : a < 2 ^ 31) (h0 : 0 < m) (hm : m < 2 ^ 31) : fX1_next (nI a) (nI m) = some (nI (sdS a / 65536 % m), nI (sdS a)) := by
  unfold fX1_next
  rw [if_neg (nI_nle h0 hm), sd_C ha, krem_s (sd_lt a) h0 hm, kb]
theorem draw_M {a m : Nat} (ha : a < 2 ^ 31) (h0 : 0 < m) (hm : m < 2 ^ 31) : fX6_draw (nI a) (nI m) = some (nI (sdS a / 65536 % m), nI (sdS a)) := by
  unfold fX6_draw
  rw [sd_M ha, krem_s (sd_lt a) h0 hm, kb]
/-- what happens ahead of a bar -/
theorem happen_sim {kd pl st rw_ : Nat → Int32} {w : Nat} (hw : w ≤ 8) (hw0 : 0 < w) (hH : HR w kd pl st rw_) {sn cl now nl : Nat → Int32} (hS : SR w sn cl now nl) (arm : Int32) {a : Nat} (ha : a < 2 ^ 31) :
    ∃ (arm1 : Int32) (sn1 cl1 now1 nl1 : Nat → Int32) (a1 : Nat), a1 < 2 ^ 31 ∧ SR w sn1 cl1 now1 nl1 ∧ fX5_happen kd (nI w) sn cl arm (nI a) = some (arm1, sn1, cl1, nI a1) ∧
      ∃ u7 : Int32 × Int32, fX6_draw (nI a) 6 = some u7 ∧ (if u7.1 = (0 : Int32) then (fX6_leaveOut (nI w) rw_ now).bind fun u12 => some (arm, u7.2, u12, nl) else if u7.1 = (1 : Int32) then (fX6_draw u7.2 (nI w)).bind fun u10 => (fX6_makes now nl u10.1 2).bind fun u11 => some (arm, u10.2, u11.1, u11.2) else if u7.1 = (2 : Int32) then (fX6_draw u7.2 9).bind fun u9 => some (u9.1, u9.2, now, nl) else some (arm, u7.2, now, nl)) = some (arm1, nI a1, now1, nl1) := by
  have d6 := draw_C (m := 6) ha (by decide) (by decide)
  have m6 := draw_M (m := 6) ha (by decide) (by decide)
  have d6' : fX1_next (nI a) 6 = _ := d6
  have m6' : fX6_draw (nI a) 6 = _ := m6
  unfold fX5_happen
  rw [d6', kb, m6']
  dsimp only
  have hs := sd_lt a
  by_cases c0 : nI (sdS a / 65536 % 6) = 0
  · obtain ⟨sn1, now1, g1, g2, g3⟩ := leave_sim hw hH hS
    refine ⟨arm, sn1, cl, now1, nl, sdS a, hs, g3, ?_, _, rfl, ?_⟩
    · rw [if_pos c0, g1, kb]
    · dsimp only; rw [if_pos c0, g2, kb]
  · by_cases c1 : nI (sdS a / 65536 % 6) = 1
    · have dw := draw_C (m := w) hs hw0 (by omega)
      have mw := draw_M (m := w) hs hw0 (by omega)
      have hj : sdS (sdS a) / 65536 % w < w := Nat.mod_lt _ hw0
      generalize sdS (sdS a) / 65536 % w = j at dw mw hj
      refine ⟨arm, upd sn j 2, cl, upd now j 2, nl, sdS (sdS a), sd_lt _, fun k hk => ?_, ?_, _, rfl, ?_⟩
      · by_cases q : k = j
        · subst q; rw [pk_us, pk_us]; exact ⟨rfl, (hS k hk).2⟩
        · rw [pk_un q, pk_un q]; exact hS k hk
      · rw [if_neg c0, if_pos c1, dw, kb]
        dsimp only
        rw [let_C _ _ (show j < 8 by omega), kb, if_neg (show ¬ (2 : Int32) = 0 by decide)]
      · dsimp only
        rw [if_neg c0, if_pos c1, mw, kb]
        dsimp only
        rw [makes_M _ _ (show j < 8 by omega), kb, if_neg (show ¬ (2 : Int32) = 0 by decide)]
    · by_cases c2 : nI (sdS a / 65536 % 6) = 2
      · have d9 : fX1_next (nI (sdS a)) 9 = _ := draw_C (m := 9) hs (by decide) (by decide)
        have m9 : fX6_draw (nI (sdS a)) 9 = _ := draw_M (m := 9) hs (by decide) (by decide)
        refine ⟨nI (sdS (sdS a) / 65536 % 9), sn, cl, now, nl, sdS (sdS a), sd_lt _, hS, ?_, _, rfl, ?_⟩
        · rw [if_neg c0, if_neg c1, if_pos c2, d9, kb]
        · dsimp only; rw [if_neg c0, if_neg c1, if_pos c2, m9, kb]
      · refine ⟨arm, sn, cl, now, nl, sdS a, hs, hS, ?_, _, rfl, ?_⟩
        · rw [if_neg c0, if_neg c1, if_neg c2]
        · dsimp only; rw [if_neg c0, if_neg c1, if_neg c2]
