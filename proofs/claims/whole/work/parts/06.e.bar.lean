/-! a bar goes by, on both sides -/
def fill (w : Nat) (F f : Nat → Int32) : Nat → Int32 := fun k => if k < w then F k else f k
theorem fill_0 (F f : Nat → Int32) : fill 0 F f = f := funext fun k => if_neg (Nat.not_lt_zero k)
theorem fill_in {w k : Nat} {F f : Nat → Int32} (h : k < w) : fill w F f k = F k := if_pos h
theorem fill_out {w k : Nat} {F f : Nat → Int32} (h : ¬ k < w) : fill w F f k = f k := if_neg h
theorem fill_succ (k : Nat) (F f : Nat → Int32) : upd (fill k F f) k (F k) = fill (k + 1) F f := by
  funext j
  by_cases h : j = k
  · subst h; rw [pk_us, fill_in (by omega)]
  · rw [pk_un h]
    by_cases h2 : j < k
    · rw [fill_in h2, fill_in (by omega)]
    · rw [fill_out h2, fill_out (by omega)]
theorem upd_upd (f : Nat → Int32) (k : Nat) (x y : Int32) : upd (upd f k x) k y = upd f k y := by
  funext j
  by_cases h : j = k
  · subst h; rw [pk_us, pk_us]
  · rw [pk_un h, pk_un h, pk_un h]
def clS (nx cl : Nat → Int32) (k : Nat) : Int32 := if nx k = 0 then 0 else cl k + 1
def chS (nx sn : Nat → Int32) : Nat → Int32
  | 0 => 0
  | k + 1 => if chS nx sn k = 0 then (if nx k = sn k then 0 else 1) else 1
theorem chS_b (nx sn : Nat → Int32) (k : Nat) : chS nx sn k = 0 ∨ chS nx sn k = 1 := by
  cases k with
  | zero => exact Or.inl rfl
  | succ k =>
    show (if chS nx sn k = 0 then (if nx k = sn k then (0 : Int32) else 1) else 1) = 0 ∨ (if chS nx sn k = 0 then (if nx k = sn k then (0 : Int32) else 1) else 1) = 1
    by_cases h : chS nx sn k = 0
    · rw [if_pos h]
      by_cases h2 : nx k = sn k
      · rw [if_pos h2]; exact Or.inl rfl
      · rw [if_neg h2]; exact Or.inr rfl
    · rw [if_neg h]; exact Or.inr rfl
theorem kz_01 {v : Int32} (h : v = 0 ∨ v = 1) : kz v = some v := by unfold kz; rw [if_pos h]
theorem go_C {sn cl kd pl st nt : Nat → Int32} {arm : Int32} {w : Nat} (hw : w ≤ 8) (nx : Nat → Int32) (hnx : ∀ k, k < w → nxS kd pl st w arm sn cl k = nx k) :
    fX0_goOn sn cl nt arm kd pl st (nI w) = some (chS nx sn w, fill w nx sn, fill w (clS nx cl) cl, fill w nx nt) := by
  unfold fX0_goOn
  have h1 : kIter (fX0_goOn_L1 sn cl arm kd pl st (nI w)) 300 (0, nt) = some (nI w, fill w nx nt) := by
    have := kIter_up (step := fX0_goOn_L1 sn cl arm kd pl st (nI w)) (fun k => (nI k, fill k nx nt)) w (r := (nI w, fill w nx nt)) (by omega) (fun k hk rc => by
      unfold fX0_goOn_L1
      rw [if_neg (nI_ge hk (by omega)), next_C hw hk, kb, hnx k hk, kst_nI (by omega) (by omega), kb, fill_succ]
      show rc (nI k + 1, _) = _
      rw [nI_1]) (fun rc => by
      unfold fX0_goOn_L1
      rw [if_pos (nI_le (Nat.le_refl w) (by omega))])
    rw [fill_0] at this
    exact this
  rw [h1, kb]
  have h2 : kIter (fX0_goOn_L2 (nI w) (nI w, fill w nx nt)) 300 (0, 0, sn, cl) = some (chS nx sn w, nI w, fill w nx sn, fill w (clS nx cl) cl) := by
    have := kIter_up (step := fX0_goOn_L2 (nI w) (nI w, fill w nx nt)) (fun k => (chS nx sn k, nI k, fill k nx sn, fill k (clS nx cl) cl)) w (r := (chS nx sn w, nI w, fill w nx sn, fill w (clS nx cl) cl)) (by omega) (fun k hk rc => by
      have hk8 : k < 8 := by omega
      unfold fX0_goOn_L2
      rw [if_neg (nI_ge hk (by omega))]
      dsimp only
      have e7 : (if chS nx sn k = 0 then (kld 8 (fill w nx nt) (nI k)).bind fun v8 => (kld 8 (fill k nx sn) (nI k)).bind fun v9 => if v8 = v9 then some (0 : Int32) else some 1 else some 1) = some (chS nx sn (k + 1)) := by
        rw [kld_nI hk8 (by omega), kld_nI hk8 (by omega), kb, kb, fill_in hk, fill_out (Nat.lt_irrefl k)]
        show _ = some (if chS nx sn k = 0 then (if nx k = sn k then (0 : Int32) else 1) else 1)
        by_cases q0 : chS nx sn k = 0
        · rw [if_pos q0, if_pos q0]
          by_cases q1 : nx k = sn k
          · rw [if_pos q1, if_pos q1]
          · rw [if_neg q1, if_neg q1]
        · rw [if_neg q0, if_neg q0]
      rw [e7, kb, kld_nI (f := fill w nx nt) hk8 (by omega), kb, fill_in hk]
      unfold fX0_let
      rw [if_neg (nI_pos (by omega)), if_pos (z8 hk8), kst_nI hk8 (by omega), kst_nI hk8 (by omega), kb, kb, fill_succ]
      by_cases q : nx k = 0
      · rw [if_pos q, kb]
        dsimp only
        rw [kld_nI hk8 (by omega), kb, kb, if_pos q]
        unfold fX5_oneIf
        rw [if_pos rfl, kb, kst_nI hk8 (by omega), kb, upd_upd, pk_us]
        have ec : (0 : Int32) + 0 = clS nx cl k := by unfold clS; rw [if_pos q]; decide
        rw [ec, fill_succ]
        show rc (_, nI k + 1, _) = _
        rw [nI_1]
      · rw [if_neg q, kb]
        dsimp only
        rw [kld_nI hk8 (by omega), kb, kb, if_neg q]
        unfold fX5_oneIf
        rw [if_neg i10, kb, kst_nI hk8 (by omega), kb, fill_out (Nat.lt_irrefl k)]
        have ec : cl k + 1 = clS nx cl k := by unfold clS; rw [if_neg q]
        rw [ec, fill_succ]
        show rc (_, nI k + 1, _) = _
        rw [nI_1]) (fun rc => by
      unfold fX0_goOn_L2
      rw [if_pos (nI_le (Nat.le_refl w) (by omega))])
    rw [fill_0, fill_0] at this
    exact this
  rw [h2, kb, kz_01 (chS_b _ _ _), kb]

theorem pass_M {rw_ now nl ah : Nat → Int32} {arm : Int32} {w : Nat} (hw : w ≤ 8) (nx : Nat → Int32) (hnx : ∀ k, k < w → nxS (fun j => rw_ (3 * j)) (fun j => rw_ (3 * j + 1)) (fun j => rw_ (3 * j + 2)) w arm now nl k = nx k) :
    fX6_pass (nI w) rw_ now nl ah arm = some (fill w nx now, fill w (clS nx nl) nl, fill 8 now ah) := by
  unfold fX6_pass
  have h1 : kIter (fX6_pass_L1 now) 300 (0, ah) = some (nI 8, fill 8 now ah) := by
    have := kIter_up (step := fX6_pass_L1 now) (fun k => (nI k, fill k now ah)) 8 (r := (nI 8, fill 8 now ah)) (by omega) (fun k hk rc => by
      unfold fX6_pass_L1
      rw [if_neg (n8 hk), kld_nI hk (by omega), kb, kst_nI hk (by omega), kb, fill_succ]
      show rc (nI k + 1, _) = _
      rw [nI_1]) (fun rc => by
      unfold fX6_pass_L1
      rw [if_pos (show (8 : Int32) ≤ nI 8 by decide)])
    rw [fill_0] at this
    exact this
  rw [h1, kb]
  have h2 : kIter (fX6_pass_L2 (nI w) rw_ nl arm (nI 8, fill 8 now ah)) 300 (0, now) = some (nI w, fill w nx now) := by
    have := kIter_up (step := fX6_pass_L2 (nI w) rw_ nl arm (nI 8, fill 8 now ah)) (fun k => (nI k, fill k nx now)) w (r := (nI w, fill w nx now)) (by omega) (fun k hk rc => by
      unfold fX6_pass_L2
      rw [if_neg (nI_ge hk (by omega)), next_M hw hk, kb]
      rw [nxS_cong (sn' := now) (cl' := nl) hw hk (fun j _ => ⟨rfl, rfl, rfl⟩) (fun j hj => ⟨fill_in (by omega), rfl⟩), hnx k hk, kst_nI (by omega) (by omega), kb, fill_succ]
      show rc (nI k + 1, _) = _
      rw [nI_1]) (fun rc => by
      unfold fX6_pass_L2
      rw [if_pos (nI_le (Nat.le_refl w) (by omega))])
    rw [fill_0] at this
    exact this
  rw [h2, kb]
  have h3 : kIter (fX6_pass_L3 (nI w) (nI w, fill w nx now)) 300 (0, nl) = some (nI w, fill w (clS nx nl) nl) := by
    have := kIter_up (step := fX6_pass_L3 (nI w) (nI w, fill w nx now)) (fun k => (nI k, fill k (clS nx nl) nl)) w (r := (nI w, fill w (clS nx nl) nl)) (by omega) (fun k hk rc => by
      have hk8 : k < 8 := by omega
      unfold fX6_pass_L3
      rw [if_neg (nI_ge hk (by omega))]
      dsimp only
      rw [kld_nI (f := fill w nx now) hk8 (by omega), kb, fill_in hk]
      by_cases q : nx k = 0
      · have ec : (0 : Int32) = clS nx nl k := by unfold clS; rw [if_pos q]
        rw [if_pos q, ec, kst_nI hk8 (by omega), kb, fill_succ, nI_1]
      · have ec : nl k + 1 = clS nx nl k := by unfold clS; rw [if_neg q]
        rw [if_neg q, kld_nI hk8 (by omega), kb, fill_out (Nat.lt_irrefl k), ec, kst_nI hk8 (by omega), kb, fill_succ, nI_1]) (fun rc => by
      unfold fX6_pass_L3
      rw [if_pos (nI_le (Nat.le_refl w) (by omega))])
    rw [fill_0] at this
    exact this
  rw [h3, kb]
