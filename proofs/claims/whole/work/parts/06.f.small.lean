/-! a beat left out, sums, copies -/
theorem fill_same {k : Nat} {F f : Nat → Int32} (h : F k = f k) : fill k F f = fill (k + 1) F f := by
  funext j
  by_cases h1 : j < k
  · rw [fill_in h1, fill_in (by omega)]
  · by_cases h2 : j = k
    · subst h2; rw [fill_out h1, fill_in (by omega), h]
    · rw [fill_out h1, fill_out (by omega)]
theorem upd_same {f : Nat → Int32} {k : Nat} : upd f k (f k) = f := by
  funext j
  by_cases h : j = k
  · subst h; rw [pk_us]
  · rw [pk_un h]
def swS (v : Int32) : Int32 := if v = 1 then 2 else if v = 2 then 1 else v
theorem swap_s (v : Int32) : fX5_swapped v = some (swS v) := by
  unfold fX5_swapped swS
  by_cases h1 : v = 1
  · rw [if_pos h1, if_pos h1]
  · rw [if_neg h1, if_neg h1]
    by_cases h2 : v = 2
    · rw [if_pos h2, if_pos h2]
    · rw [if_neg h2, if_neg h2]
def lvS (kd sn : Nat → Int32) (k : Nat) : Int32 := if kd k = 1 then sn k else swS (sn k)
theorem leave_C {sn kd : Nat → Int32} {w : Nat} (hw : w ≤ 8) : fX0_leaveBeatOut sn kd (nI w) = some (fill w (lvS kd sn) sn) := by
  unfold fX0_leaveBeatOut
  have h1 : kIter (fX0_leaveBeatOut_L1 kd (nI w)) 300 (0, sn) = some (nI w, fill w (lvS kd sn) sn) := by
    have := kIter_up (step := fX0_leaveBeatOut_L1 kd (nI w)) (fun k => (nI k, fill k (lvS kd sn) sn)) w (r := (nI w, fill w (lvS kd sn) sn)) (by omega) (fun k hk rc => by
      have hk8 : k < 8 := by omega
      unfold fX0_leaveBeatOut_L1
      rw [if_neg (nI_ge hk (by omega)), kindOf_s hw hk, kb]
      dsimp only
      by_cases q : kd k = 1
      · rw [if_pos q, fill_same (k := k) (by unfold lvS; rw [if_pos q]), nI_1]
      · rw [if_neg q, kld_nI hk8 (by omega), kb, swap_s, kb, kst_nI hk8 (by omega), kb, fill_out (Nat.lt_irrefl k)]
        have e : swS (sn k) = lvS kd sn k := by unfold lvS; rw [if_neg q]
        rw [e, fill_succ, nI_1]) (fun rc => by
      unfold fX0_leaveBeatOut_L1
      rw [if_pos (nI_le (Nat.le_refl w) (by omega))])
    rw [fill_0] at this
    exact this
  rw [h1, kb]
theorem leave_M {rw_ now : Nat → Int32} {w : Nat} (hw : w ≤ 8) : fX6_leaveOut (nI w) rw_ now = some (fill w (lvS (fun j => rw_ (3 * j)) now) now) := by
  unfold fX6_leaveOut
  have h1 : kIter (fX6_leaveOut_L1 (nI w) rw_) 300 (0, now) = some (nI w, fill w (lvS (fun j => rw_ (3 * j)) now) now) := by
    have := kIter_up (step := fX6_leaveOut_L1 (nI w) rw_) (fun k => (nI k, fill k (lvS (fun j => rw_ (3 * j)) now) now)) w (r := (nI w, fill w (lvS (fun j => rw_ (3 * j)) now) now)) (by omega) (fun k hk rc => by
      have hk8 : k < 8 := by omega
      unfold fX6_leaveOut_L1
      rw [if_neg (nI_ge hk (by omega))]
      dsimp only
      rw [tri0, kld_nI (f := rw_) (by omega) (by omega), kb]
      by_cases q : rw_ (3 * k) = 1
      · rw [if_pos q, fill_same (k := k) (by unfold lvS; rw [if_pos q]), nI_1]
      · rw [if_neg q, kld_nI hk8 (by omega), kb, kb, kb, fill_out (Nat.lt_irrefl k), nI_1]
        by_cases q1 : now k = 1
        · have e : (2 : Int32) = lvS (fun j => rw_ (3 * j)) now k := by unfold lvS swS; rw [if_neg q, if_pos q1]
          rw [if_pos q1, e, kst_nI hk8 (by omega), kb, fill_succ]
        · rw [if_neg q1]
          by_cases q2 : now k = 2
          · have e : (1 : Int32) = lvS (fun j => rw_ (3 * j)) now k := by unfold lvS swS; rw [if_neg q, if_neg q1, if_pos q2]
            rw [if_pos q2, e, kst_nI hk8 (by omega), kb, fill_succ]
          · have e : now k = lvS (fun j => rw_ (3 * j)) now k := by unfold lvS swS; rw [if_neg q, if_neg q1, if_neg q2]
            rw [if_neg q2, kst_nI hk8 (by omega), kb, e, fill_succ]) (fun rc => by
      unfold fX6_leaveOut_L1
      rw [if_pos (nI_le (Nat.le_refl w) (by omega))])
    rw [fill_0] at this
    exact this
  rw [h1, kb]
def sumS (F : Nat → Int32) : Nat → Int32
  | 0 => 0
  | k + 1 => sumS F k + F k
theorem sumS_cong {F G : Nat → Int32} : ∀ {w : Nat}, (∀ k, k < w → F k = G k) → sumS F w = sumS G w
  | 0, _ => rfl
  | w + 1, h => by
    show sumS F w + F w = sumS G w + G w
    rw [sumS_cong (fun k hk => h k (by omega)), h w (by omega)]
def rgS (sn pl : Nat → Int32) (k : Nat) : Int32 := if sn k = 2 then pl k else 0
theorem right_C {sn pl : Nat → Int32} {w : Nat} (hw : w ≤ 8) : fX0_palmsRight sn pl (nI w) = some (sumS (rgS sn pl) w) := by
  unfold fX0_palmsRight
  have h1 : kIter (fX0_palmsRight_L1 sn pl (nI w)) 300 (0, 0) = some (sumS (rgS sn pl) w, nI w) := kIter_up (step := fX0_palmsRight_L1 sn pl (nI w)) (fun k => (sumS (rgS sn pl) k, nI k)) w (r := (sumS (rgS sn pl) w, nI w)) (by omega) (fun k hk rc => by
      have hk8 : k < 8 := by omega
      unfold fX0_palmsRight_L1
      rw [if_neg (nI_ge hk (by omega))]
      dsimp only
      rw [kld_nI hk8 (by omega), kb, palmsOf_s hw hk, kb, nI_1]
      show _ = rc (sumS (rgS sn pl) k + rgS sn pl k, _)
      unfold rgS
      by_cases q : sn k = 2
      · rw [if_pos q, if_pos q]
      · rw [if_neg q, if_neg q, Int32.add_zero]) (fun rc => by
      unfold fX0_palmsRight_L1
      rw [if_pos (nI_le (Nat.le_refl w) (by omega))])
  rw [h1, kb]
theorem right_M {rw_ now : Nat → Int32} {w : Nat} (hw : w ≤ 8) : fX6_rightNow (nI w) rw_ now = some (sumS (rgS now (fun j => rw_ (3 * j + 1))) w) := by
  unfold fX6_rightNow
  have h1 : kIter (fX6_rightNow_L1 (nI w) rw_ now) 300 (0, 0) = some (sumS (rgS now (fun j => rw_ (3 * j + 1))) w, nI w) := kIter_up (step := fX6_rightNow_L1 (nI w) rw_ now) (fun k => (sumS (rgS now (fun j => rw_ (3 * j + 1))) k, nI k)) w (r := (sumS (rgS now (fun j => rw_ (3 * j + 1))) w, nI w)) (by omega) (fun k hk rc => by
      have hk8 : k < 8 := by omega
      unfold fX6_rightNow_L1
      rw [if_neg (nI_ge hk (by omega))]
      dsimp only
      rw [kld_nI hk8 (by omega), kb, tri1, kld_nI (by omega) (by omega), kb, nI_1]
      show _ = rc (sumS (rgS now (fun j => rw_ (3 * j + 1))) k + rgS now (fun j => rw_ (3 * j + 1)) k, _)
      unfold rgS
      by_cases q : now k = 2
      · rw [if_pos q, if_pos q]
      · rw [if_neg q, if_neg q]) (fun rc => by
      unfold fX6_rightNow_L1
      rw [if_pos (nI_le (Nat.le_refl w) (by omega))])
  rw [h1, kb]
theorem all_C {pl : Nat → Int32} {w : Nat} (hw : w ≤ 8) : fX2_allPalms pl (nI w) = some (sumS pl w) := by
  unfold fX2_allPalms
  have h1 : kIter (fX2_allPalms_L1 pl (nI w)) 300 (0, 0) = some (sumS pl w, nI w) := kIter_up (step := fX2_allPalms_L1 pl (nI w)) (fun k => (sumS pl k, nI k)) w (r := (sumS pl w, nI w)) (by omega) (fun k hk rc => by
      unfold fX2_allPalms_L1
      rw [if_neg (nI_ge hk (by omega))]
      dsimp only
      rw [kld_nI (by omega) (by omega), kb, nI_1]; rfl) (fun rc => by
      unfold fX2_allPalms_L1
      rw [if_pos (nI_le (Nat.le_refl w) (by omega))])
  rw [h1, kb]
theorem all_M {rw_ : Nat → Int32} {w : Nat} (hw : w ≤ 8) : fX6_palmsAll (nI w) rw_ = some (sumS (fun j => rw_ (3 * j + 1)) w) := by
  unfold fX6_palmsAll
  have h1 : kIter (fX6_palmsAll_L1 (nI w) rw_) 300 (0, 0) = some (sumS (fun j => rw_ (3 * j + 1)) w, nI w) := kIter_up (step := fX6_palmsAll_L1 (nI w) rw_) (fun k => (sumS (fun j => rw_ (3 * j + 1)) k, nI k)) w (r := (sumS (fun j => rw_ (3 * j + 1)) w, nI w)) (by omega) (fun k hk rc => by
      unfold fX6_palmsAll_L1
      rw [if_neg (nI_ge hk (by omega))]
      dsimp only
      rw [tri1, kld_nI (by omega) (by omega), kb, nI_1]; rfl) (fun rc => by
      unfold fX6_palmsAll_L1
      rw [if_pos (nI_le (Nat.le_refl w) (by omega))])
  rw [h1, kb]
theorem take_C (sn cl osn ocl : Nat → Int32) (oarm : Int32) : fX0_takeFrom sn cl osn ocl oarm = some (oarm, fill 8 osn sn, fill 8 ocl cl) := by
  unfold fX0_takeFrom
  have h1 : kIter (fX0_takeFrom_L1 osn ocl) 300 (0, sn, cl) = some (nI 8, fill 8 osn sn, fill 8 ocl cl) := by
    have := kIter_up (step := fX0_takeFrom_L1 osn ocl) (fun k => (nI k, fill k osn sn, fill k ocl cl)) 8 (r := (nI 8, fill 8 osn sn, fill 8 ocl cl)) (by omega) (fun k hk rc => by
      unfold fX0_takeFrom_L1
      rw [if_neg (n8 hk)]
      dsimp only
      rw [kld_nI hk (by omega), kb, kst_nI hk (by omega), kb, kld_nI hk (by omega), kb, kst_nI hk (by omega), kb, fill_succ, fill_succ, nI_1]) (fun rc => by
      unfold fX0_takeFrom_L1
      rw [if_pos (show (8 : Int32) ≤ nI 8 by decide)])
    rw [fill_0, fill_0] at this
    exact this
  rw [h1, kb]
theorem asIs_M (arm : Int32) (sn cl now nl : Nat → Int32) : fX6_asItIs arm sn cl now nl = some (arm, fill 8 sn now, fill 8 cl nl) := take_C now nl sn cl arm
theorem lay_M (sn cl now nl : Nat → Int32) : fX6_layNow sn cl now nl = some (fill 8 now sn, fill 8 nl cl) := by
  have h := take_C sn cl now nl 0
  unfold fX0_takeFrom at h
  unfold fX6_layNow
  obtain ⟨u, hu, h⟩ := k_bs h
  have hu' : kIter (fX6_layNow_L1 now nl) 300 (0, sn, cl) = some u := hu
  rw [hu', kb]
  have h := Option.some.inj h
  have e1 : u.2.1 = fill 8 now sn := congrArg (fun q => q.2.1) h
  have e2 : u.2.2 = fill 8 nl cl := congrArg (fun q => q.2.2) h
  rw [e1, e2]
theorem copy_M (a b : Nat → Int32) : fX6_copy a b = some (fill 8 a b) := by
  unfold fX6_copy
  have h1 : kIter (fX6_copy_L1 a) 300 (0, b) = some (nI 8, fill 8 a b) := by
    have := kIter_up (step := fX6_copy_L1 a) (fun k => (nI k, fill k a b)) 8 (r := (nI 8, fill 8 a b)) (by omega) (fun k hk rc => by
      unfold fX6_copy_L1
      rw [if_neg (n8 hk)]
      dsimp only
      rw [kld_nI hk (by omega), kb, kst_nI hk (by omega), kb, fill_succ, nI_1]) (fun rc => by
      unfold fX6_copy_L1
      rw [if_pos (show (8 : Int32) ≤ nI 8 by decide)])
    rw [fill_0] at this
    exact this
  rw [h1, kb]
theorem ntake_C (sn cl rs osn ocl ors : Nat → Int32) (oarm orc ob os : Int32) : fX3_takeFrom sn cl rs osn ocl oarm ors orc ob os = some (orc, ob, os, oarm, fill 8 osn sn, fill 8 ocl cl, fill 8 ors rs) := by
  unfold fX3_takeFrom
  have h := copy_M ors rs
  unfold fX6_copy at h
  obtain ⟨u, hu, h⟩ := k_bs h
  have hu' : kIter (fX3_takeFrom_L1 ors) 300 (0, rs) = some u := hu
  have e := Option.some.inj h
  rw [take_C, kb, hu', kb, e]
theorem begin_C (sn cl : Nat → Int32) (arm : Int32) : fX0_beginWith sn cl arm = some (arm, fill 8 (fun _ => 3) sn, fill 8 (fun _ => 0) cl) := by
  unfold fX0_beginWith
  have h1 : kIter fX0_beginWith_L1 300 (0, sn, cl) = some (nI 8, fill 8 (fun _ => 3) sn, fill 8 (fun _ => 0) cl) := by
    have := kIter_up (step := fX0_beginWith_L1) (fun k => (nI k, fill k (fun _ => (3 : Int32)) sn, fill k (fun _ => (0 : Int32)) cl)) 8 (r := (nI 8, fill 8 (fun _ => (3 : Int32)) sn, fill 8 (fun _ => (0 : Int32)) cl)) (by omega) (fun k hk rc => by
      unfold fX0_beginWith_L1
      rw [if_neg (n8 hk)]
      dsimp only
      have ec : upd (fill k (fun _ => (0 : Int32)) cl) k 0 = fill (k + 1) (fun _ => 0) cl := fill_succ k (fun _ => 0) cl
      have es : upd (fill k (fun _ => (3 : Int32)) sn) k 3 = fill (k + 1) (fun _ => 3) sn := fill_succ k (fun _ => 3) sn
      rw [kst_nI hk (by omega), kb, kst_nI hk (by omega), kb, ec, es, nI_1]) (fun rc => by
      unfold fX0_beginWith_L1
      rw [if_pos (show (8 : Int32) ≤ nI 8 by decide)])
    rw [fill_0, fill_0] at this
    exact this
  rw [h1, kb]
theorem let_C (sn cl : Nat → Int32) {k : Nat} (hk : k < 8) (v : Int32) : fX0_let sn cl (nI k) v = some (upd sn k v, if v = 0 then upd cl k 0 else cl) := by
  unfold fX0_let
  rw [if_neg (nI_pos (by omega)), if_pos (z8 hk), kst_nI hk (by omega), kb, kst_nI hk (by omega), kb]
  by_cases q : v = 0
  · rw [if_pos q, if_pos q]
  · rw [if_neg q, if_neg q]
theorem makes_M (now nl : Nat → Int32) {k : Nat} (hk : k < 8) (v : Int32) : fX6_makes now nl (nI k) v = some (upd now k v, if v = 0 then upd nl k 0 else nl) := by
  unfold fX6_makes
  rw [kst_nI hk (by omega), kb, kst_nI hk (by omega), kb, kld_nI hk (by omega), kb]
  by_cases q : v = 0
  · rw [if_pos q, if_pos q]
  · rw [if_neg q, if_neg q, kst_nI hk (by omega), kb, upd_same]
