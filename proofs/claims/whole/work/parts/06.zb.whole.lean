/-! a page that is a hall, on both sides -/
theorem two_back {n : Nat} (h : 2 ≤ n) : nI n - 2 = nI (n - 2) := by
  obtain ⟨m, rfl⟩ : ∃ m, n = m + 2 := ⟨n - 2, by omega⟩
  rw [show m + 2 - 2 = m by omega, ← nI_add m 2]
  exact Int32.add_sub_cancel _ _
theorem whole_sim {cs cs' rd : Nat → Int32} {n : Nat} {rl : Int32} (hn : n ≤ 36) (hc : ∀ k, k < n → cs k = cs' k ∧ 1 ≤ (cs k).toInt ∧ (cs k).toInt ≤ 126) :
    ∃ u, fX6_faultOf cs' (nI n) rd rl = some u ∧ ((fX4_isWhole cs (nI n) = some 0 ∧ (u.1 < nI n ∨ (¬ u.1 < nI n ∧ ¬ u.2.2.2.1 = 5))) ∨ (fX4_isWhole cs (nI n) = some 1 ∧ ¬ u.1 < nI n ∧ u.2.2.2.1 = 5 ∧ ∃ w, 3 ≤ w ∧ w ≤ 8 ∧ n = 4 * w + 1 ∧ u.2.1 = nI w ∧ RdS cs (4 * w - 1) u.2.2.2.2 ∧ u.2.2.1 = cs (4 * w) - 48 ∧ fX5_within (cs (4 * w)) 48 51 = some 1)) := by
  obtain ⟨r, r', h1, h2, h3, h4⟩ := page_sim (rd := rd) (rl := rl) hn hc
  refine ⟨(r'.1, r'.2.1, r'.2.2.1, r'.2.2.2.1, r'.2.2.2.2), by unfold fX6_faultOf; rw [h2, kb], ?_⟩
  dsimp only
  rw [← h3]
  have wh : ¬ r = nI n → fX4_isWhole cs (nI n) = some 0 := fun g => by
    unfold fX4_isWhole
    by_cases q : nI n ≤ 1
    · rw [if_pos q]
    · rw [if_neg q, h1, kb, if_neg g]
  have wi : r = nI n → (2 ≤ n → ¬ cs (n - 2) = 59) → fX4_isWhole cs (nI n) = some 0 := fun g y => by
    unfold fX4_isWhole
    by_cases q : n ≤ 1
    · rw [if_pos (show nI n ≤ 1 from nI_le (a := n) (b := 1) q (by omega))]
    · rw [if_neg (show ¬ nI n ≤ 1 from nI_ge (a := 1) (b := n) (by omega) (by omega)), h1, kb, if_pos g, two_back (by omega), codeAt_s (by omega), kb, if_neg (y (by omega))]
  rcases h4 with ⟨f, hf, e⟩ | ⟨e, z, -, -, q⟩
  · refine Or.inl ⟨wh fun g => ?_, Or.inl (by rw [e]; exact nI_lt hf (by omega))⟩
    rw [e] at g
    have := nI_lt hf (show n < 2 ^ 31 by omega)
    rw [g] at this
    exact absurd this (nI_nlt (Nat.le_refl n) (by omega))
  · have hge : ¬ r < nI n := by rw [e]; exact nI_nlt (Nat.le_refl n) (by omega)
    rcases q with ⟨-, o2, -, o4, -, o6⟩ | ⟨c, -, d2, d3, d4, d5, d6, d7, d8, d9⟩
    · refine Or.inl ⟨wi e fun g => o6 (n - 2) (by omega), Or.inr ⟨hge, ?_⟩⟩
      rw [o4]
      rcases (show n % 4 = 0 ∨ n % 4 = 1 ∨ n % 4 = 2 ∨ n % 4 = 3 by omega) with g | g | g | g <;> rw [g] <;> decide
    · rcases d9 with ⟨e4, e5⟩ | ⟨e4, e5, e6, e7⟩
      · refine Or.inl ⟨wi e fun g => d6 (n - 2) (by omega), Or.inr ⟨hge, ?_⟩⟩
        rw [e5]; decide
      · refine Or.inr ⟨?_, hge, e5, (c + 1) / 4, by omega, by omega, by omega, d7, ?_, ?_, ?_⟩
        · unfold fX4_isWhole
          rw [if_neg (show ¬ nI n ≤ 1 from nI_ge (a := 1) (b := n) (by omega) (by omega)), h1, kb, if_pos e, two_back (by omega), codeAt_s (by omega), kb, show n - 2 = c by omega, if_pos d5]
        · rw [show 4 * ((c + 1) / 4) - 1 = c by omega]; exact d8
        · rw [show 4 * ((c + 1) / 4) = c + 1 by omega]; exact e6
        · rw [show 4 * ((c + 1) / 4) = c + 1 by omega]; exact e7
theorem late_s : ∀ c, c < 127 → fX5_within (nI c) 48 51 = some 1 → ∃ t, t < 4 ∧ nI c - 48 = nI t := by decide +kernel
/-! the hall read off the page -/
theorem fou0 (j : Nat) : (4 : Int32) * nI j = nI (4 * j) := pk_mul 4 j
theorem fou1 (j : Nat) : (4 : Int32) * nI j + 1 = nI (4 * j + 1) := by rw [fou0]; exact nI_1 _
theorem fou2 (j : Nat) : (4 : Int32) * nI j + 2 = nI (4 * j + 2) := by rw [fou0]; exact nI_add (4 * j) 2
theorem read_C {cs : Nat → Int32} (kd pl st K : Nat → Int32) {w : Nat} (hw : w ≤ 8) (hK : ∀ j, j < w → fX4_kindBy (cs (4 * j)) = some (K j)) : fX2_read kd pl st cs (nI (4 * w + 1)) = some (nI w, cs (4 * w) - 48, fill w K kd, fill w (fun j => cs (4 * j + 1) - 48) pl, fill w (fun j => cs (4 * j + 2) - 48) st) := by
  have e4 : nI (4 * w + 1) / 4 = nI w := by
    rw [show nI (4 * w + 1) / 4 = nI ((4 * w + 1) / 4) from pk_div (d := 4) (by omega) (by decide) (by decide), show (4 * w + 1) / 4 = w by omega]
  have e8 : (if (8 : Int32) < nI (4 * w + 1) / 4 then 8 else nI (4 * w + 1) / 4) = nI w := by
    rw [e4, if_neg (show ¬ (8 : Int32) < nI w from nI_nlt (a := 8) (b := w) (by omega) (by omega))]
  unfold fX2_read
  have h1 : kIter (fX2_read_L1 cs (nI (4 * w + 1))) 300 (0, kd, pl, st) = some (nI w, fill w K kd, fill w (fun j => cs (4 * j + 1) - 48) pl, fill w (fun j => cs (4 * j + 2) - 48) st) := by
    have := kIter_up (step := fX2_read_L1 cs (nI (4 * w + 1))) (fun k => (nI k, fill k K kd, fill k (fun j => cs (4 * j + 1) - 48) pl, fill k (fun j => cs (4 * j + 2) - 48) st)) w (r := (nI w, fill w K kd, fill w (fun j => cs (4 * j + 1) - 48) pl, fill w (fun j => cs (4 * j + 2) - 48) st)) (by omega) (fun k hk rc => by
      unfold fX2_read_L1
      rw [e8]
      dsimp only
      have f1 := fill_succ k (fun j => cs (4 * j + 1) - 48) pl
      have f2 := fill_succ k (fun j => cs (4 * j + 2) - 48) st
      rw [if_neg (nI_ge hk (by omega)), fou0, codeAt_s (by omega), kb, hK k hk, kb, kst_nI (show k < 8 by omega) (by omega), kb, nI_1, codeAt_s (by omega), kb, kst_nI (show k < 8 by omega) (by omega), kb, show nI (4 * k) + 2 = nI (4 * k + 2) from nI_add (4 * k) 2, codeAt_s (by omega), kb, kst_nI (show k < 8 by omega) (by omega), kb, fill_succ, f1, f2, nI_1]) (fun rc => by
      unfold fX2_read_L1
      rw [e8, if_pos (nI_le (Nat.le_refl w) (by omega))])
    rw [fill_0, fill_0, fill_0] at this
    exact this
  rw [h1, kb, e8, fou0, codeAt_s (by omega), kb]
theorem rows_M (u : Int32 × Int32 × Int32 × Int32 × (Nat → Int32)) (rw_ : Nat → Int32) : kIter (fX6_hall_L1 u) 300 (0, rw_) = some (nI 24, fill 24 u.2.2.2.2 rw_) := by
  have := kIter_up (step := fX6_hall_L1 u) (fun k => (nI k, fill k u.2.2.2.2 rw_)) 24 (r := (nI 24, fill 24 u.2.2.2.2 rw_)) (by omega) (fun k hk rc => by
    unfold fX6_hall_L1
    dsimp only
    rw [if_neg (show ¬ (24 : Int32) ≤ nI k from nI_ge (a := k) (b := 24) hk (by omega)), kld_nI hk (by omega), kb, kst_nI hk (by omega), kb, fill_succ, nI_1]) (fun rc => by
    unfold fX6_hall_L1
    rw [if_pos (show (24 : Int32) ≤ nI 24 by decide)])
  rw [fill_0] at this
  exact this
theorem full_M (sn cl : Nat → Int32) : kIter fX6_hall_L2 300 (0, sn, cl) = some (nI 8, fill 8 (fun _ => 3) sn, fill 8 (fun _ => 0) cl) := by
  have := kIter_up (step := fX6_hall_L2) (fun k => (nI k, fill k (fun _ => 3) sn, fill k (fun _ => 0) cl)) 8 (r := (nI 8, fill 8 (fun _ => 3) sn, fill 8 (fun _ => 0) cl)) (by omega) (fun k hk rc => by
    unfold fX6_hall_L2
    dsimp only
    have f1 : upd (fill k (fun _ => (3 : Int32)) sn) k 3 = fill (k + 1) (fun _ => 3) sn := fill_succ k (fun _ => 3) sn
    have f2 : upd (fill k (fun _ => (0 : Int32)) cl) k 0 = fill (k + 1) (fun _ => 0) cl := fill_succ k (fun _ => 0) cl
    rw [if_neg (n8 hk), kst_nI hk (by omega), kb, kst_nI hk (by omega), kb, f1, f2, nI_1]) (fun rc => by
    unfold fX6_hall_L2
    rw [if_pos (show (8 : Int32) ≤ nI 8 by decide)])
  rw [fill_0, fill_0] at this
  exact this
