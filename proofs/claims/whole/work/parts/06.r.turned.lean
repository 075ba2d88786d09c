/-! rows turned -/
def tuS (p : Int32) (f : Nat → Int32) : Nat → (Nat → Int32)
  | 0 => f
  | k + 1 => if ((p >>> (nI k &&& 31)) &&& 1) = (1 : Int32) then upd (tuS p f k) k 2 else tuS p f k
theorem tu_C (p : Int32) (f c : Nat → Int32) {w : Nat} (hw : w ≤ 8) : kIter (fX5_winsAll_L1 (nI w) p) 300 (0, f, c) = some (nI w, tuS p f w, c) :=
  kIter_up (fun k => (nI k, tuS p f k, c)) w (by omega) (fun k hk rc => by
    unfold fX5_winsAll_L1
    rw [if_neg (nI_ge hk (by omega))]
    dsimp only
    show _ = rc (nI (k + 1), (if ((p >>> (nI k &&& 31)) &&& 1) = (1 : Int32) then upd (tuS p f k) k 2 else tuS p f k), c)
    by_cases q : ((p >>> (nI k &&& 31)) &&& 1) = (1 : Int32)
    · rw [if_pos q, if_pos q, let_C _ _ (show k < 8 by omega), kb, if_neg (show ¬ (2 : Int32) = 0 by decide), nI_1]
    · rw [if_neg q, if_neg q, nI_1]) (fun rc => by
    unfold fX5_winsAll_L1
    rw [if_pos (nI_le (Nat.le_refl w) (by omega))])
theorem tu_M (p : Int32) (f c : Nat → Int32) {w : Nat} (hw : w ≤ 8) : kIter (fX6_isWonBy_L1 (nI w) p) 300 (0, f, c) = some (nI w, tuS p f w, c) :=
  kIter_up (fun k => (nI k, tuS p f k, c)) w (by omega) (fun k hk rc => by
    unfold fX6_isWonBy_L1
    rw [if_neg (nI_ge hk (by omega))]
    dsimp only
    show _ = rc (nI (k + 1), (if ((p >>> (nI k &&& 31)) &&& 1) = (1 : Int32) then upd (tuS p f k) k 2 else tuS p f k), c)
    by_cases q : ((p >>> (nI k &&& 31)) &&& 1) = (1 : Int32)
    · rw [if_pos q, if_pos q, makes_M _ _ (show k < 8 by omega), kb, if_neg (show ¬ (2 : Int32) = 0 by decide), nI_1]
    · rw [if_neg q, if_neg q, nI_1]) (fun rc => by
    unfold fX6_isWonBy_L1
    rw [if_pos (nI_le (Nat.le_refl w) (by omega))])
theorem tu_sim (p : Int32) {f g : Nat → Int32} {w : Nat} (h : ∀ j, j < w → f j = g j) : ∀ k j, j < w → tuS p f k j = tuS p g k j
  | 0, j, hj => h j hj
  | k + 1, j, hj => by
    have ih := tu_sim p h k j hj
    unfold tuS
    by_cases q : ((p >>> (nI k &&& 31)) &&& 1) = (1 : Int32)
    · rw [if_pos q, if_pos q]
      unfold upd
      rw [ih]
    · rw [if_neg q, if_neg q, ih]
theorem bars_C {kd pl st : Nat → Int32} {w n : Nat} (hw : w ≤ 8) (hn : n < 100) (arm : Int32) (z : Tri) (u1 : Int32 × (Nat → Int32) × (Nat → Int32)) (hu : u1.1 = arm) : kIter (fX5_winsAll_L2 kd pl st (nI w) (nI n) u1) 300 (0, z) = some (nI n, itC kd pl st w arm z n) :=
  kIter_up (fun k => (nI k, itC kd pl st w arm z k)) n (by omega) (fun k hk rc => by
    unfold fX5_winsAll_L2
    rw [if_neg (nI_ge hk (by omega)), hu]
    dsimp only
    rw [stC_eq hw arm (itC kd pl st w arm z k), kb, nI_1]
    rfl) (fun rc => by
    unfold fX5_winsAll_L2
    rw [if_pos (nI_le (Nat.le_refl n) (by omega))])
def okS (kd sn : Nat → Int32) : Nat → Int32
  | 0 => 1
  | k + 1 => if okS kd sn k = 0 then 0 else if sn k = 2 then 1 else if kd k = 1 then 1 else if kd k = 4 then 1 else 0
theorem ok_01 (kd sn : Nat → Int32) : ∀ k, okS kd sn k = 0 ∨ okS kd sn k = 1
  | 0 => Or.inr rfl
  | k + 1 => by
    unfold okS
    split
    · exact Or.inl rfl
    · split
      · exact Or.inr rfl
      · split
        · exact Or.inr rfl
        · split
          · exact Or.inr rfl
          · exact Or.inl rfl
theorem ok_0 {kd sn : Nat → Int32} {k : Nat} (h : okS kd sn k = 0) : ∀ d, okS kd sn (k + d) = 0
  | 0 => h
  | d + 1 => by
    show (if okS kd sn (k + d) = 0 then (0 : Int32) else _) = 0
    rw [if_pos (ok_0 h d)]
theorem ok_sim {kd sn kd' sn' : Nat → Int32} : ∀ w, (∀ k, k < w → kd k = kd' k ∧ sn k = sn' k) → okS kd sn w = okS kd' sn' w
  | 0, _ => rfl
  | w + 1, h => by
    unfold okS
    rw [ok_sim w (fun k hk => h k (by omega)), (h w (by omega)).1, (h w (by omega)).2]
theorem will_C {kd sn : Nat → Int32} {w : Nat} (hw : w ≤ 8) : fX0_areWillingRight sn kd (nI w) = some (okS kd sn w) := by
  unfold fX0_areWillingRight
  obtain ⟨r, h1, h2⟩ := kIter_oneA (step := fX0_areWillingRight_L1 sn kd (nI w)) (fun k z => z = nI k ∧ okS kd sn k = 1) (fun r => r = okS kd sn w) w (fun k z hk q => by
    obtain ⟨rfl, q2⟩ := q
    have e : okS kd sn (k + 1) = if sn k = 2 then 1 else if kd k = 1 then 1 else if kd k = 4 then 1 else 0 := by
      show (if okS kd sn k = 0 then (0 : Int32) else _) = _
      rw [q2, if_neg i10]
    by_cases g : sn k = 2
    · refine Or.inl ⟨nI (k + 1), fun rc => ?_, rfl, by rw [e, if_pos g]⟩
      unfold fX0_areWillingRight_L1
      rw [if_neg (nI_ge hk (by omega)), kld_nI (by omega) (by omega), kb, if_pos g, nI_1]
    · by_cases g1 : (if kd k = 1 then (1 : Int32) else if kd k = 4 then 1 else 0) = 0
      · refine Or.inr ⟨0, fun rc => ?_, ?_⟩
        · unfold fX0_areWillingRight_L1
          rw [if_neg (nI_ge hk (by omega)), kld_nI (by omega) (by omega), kb, if_neg g, isOf_s hw hk, kb, if_pos g1]
        · have z0 : okS kd sn (k + 1) = 0 := by rw [e, if_neg g, g1]
          have := ok_0 z0 (w - (k + 1))
          rw [show k + 1 + (w - (k + 1)) = w by omega] at this
          exact this.symm
      · refine Or.inl ⟨nI (k + 1), fun rc => ?_, rfl, ?_⟩
        · unfold fX0_areWillingRight_L1
          rw [if_neg (nI_ge hk (by omega)), kld_nI (by omega) (by omega), kb, if_neg g, isOf_s hw hk, kb, if_neg g1, nI_1]
        · rcases ok_01 kd sn (k + 1) with y | y
          · rw [e, if_neg g] at y; exact absurd y g1
          · exact y) (fun z q => by
    obtain ⟨rfl, q2⟩ := q
    refine ⟨1, fun rc => ?_, q2.symm⟩
    unfold fX0_areWillingRight_L1
    rw [if_pos (nI_le (Nat.le_refl w) (by omega))]) w 0 (by omega) 300 (by omega) 0 ⟨rfl, rfl⟩
  rw [h1, h2]
theorem will_M {rw_ : Nat → Int32} {w : Nat} (hw : w ≤ 8) (u : Tri) : kIter (fX6_isWonBy_L2 (nI w) rw_ u) 300 (1, 0) = some (okS (fun j => rw_ (3 * j)) u.1 w, nI w) :=
  kIter_up (fun k => (okS (fun j => rw_ (3 * j)) u.1 k, nI k)) w (by omega) (fun k hk rc => by
    unfold fX6_isWonBy_L2
    rw [if_neg (nI_ge hk (by omega))]
    dsimp only
    show _ = rc ((if okS (fun j => rw_ (3 * j)) u.1 k = 0 then (0 : Int32) else if u.1 k = 2 then 1 else if rw_ (3 * k) = 1 then 1 else if rw_ (3 * k) = 4 then 1 else 0), nI (k + 1))
    by_cases q : okS (fun j => rw_ (3 * j)) u.1 k = 0
    · rw [if_pos q, if_pos q, nI_1]
    · rw [if_neg q, if_neg q, stub_M (by omega), kb, kld_nI (by omega) (by omega), kb, nI_1]
      unfold stS
      by_cases g : u.1 k = 2
      · rw [if_pos g, if_pos g, ite_self]
      · rw [if_neg g, if_neg g]
        by_cases g1 : rw_ (3 * k) = 1
        · simp only [g1, if_true, i10, if_false]
        · by_cases g2 : rw_ (3 * k) = 4
          · simp only [if_neg g1, if_pos g2, i10, if_false]
          · simp only [g1, g2, if_true, if_false]) (fun rc => by
    unfold fX6_isWonBy_L2
    rw [if_pos (nI_le (Nat.le_refl w) (by omega))])
theorem win_sim {kd pl st rw_ sn cl sn' cl' : Nat → Int32} {w n : Nat} (hw : w ≤ 8) (hn : n < 100) (arm : Int32) (hH : HR w kd pl st rw_) (h : SR w sn cl sn' cl') (p : Int32) (z z' : Tri) :
    ∃ (v : Int32) (r1 r2 : Int32 × Tri), (v = 0 ∨ v = 1) ∧ fX5_winsAll kd pl st (nI w) sn cl arm z.1 z.2.1 z.2.2 p (nI n) = some (v, r1) ∧ fX6_isWonBy (nI w) arm rw_ sn' cl' z'.1 z'.2.1 z'.2.2 p (nI n) = some (v, r2) := by
  have h0 : SRt w (tuS p (fill 8 sn z.1) w, fill 8 cl z.2.1, z.2.2) (tuS p (fill 8 sn' z'.1) w, fill 8 cl' z'.2.1, z'.2.2) := fun k hk => ⟨tu_sim p (fun j hj => by rw [fill_in (by omega), fill_in (by omega)]; exact (h j hj).1) w k hk, by
    dsimp only
    rw [fill_in (by omega), fill_in (by omega)]; exact (h k hk).2⟩
  have h1 := it_sim hw arm hH h0 n
  have h2 : okS kd (itC kd pl st w arm (tuS p (fill 8 sn z.1) w, fill 8 cl z.2.1, z.2.2) n).1 w = okS (fun j => rw_ (3 * j)) (itM rw_ w arm (tuS p (fill 8 sn' z'.1) w, fill 8 cl' z'.2.1, z'.2.2) n).1 w := ok_sim w (fun k hk => ⟨(hH k hk).1, (h1 k hk).1⟩)
  have b1 := bars_C (kd := kd) (pl := pl) (st := st) hw hn arm (tuS p (fill 8 sn z.1) w, fill 8 cl z.2.1, z.2.2) (arm, fill 8 sn z.1, fill 8 cl z.2.1) rfl
  have b2 := passAll_M (rw_ := rw_) hw arm (tuS p (fill 8 sn' z'.1) w, fill 8 cl' z'.2.1, z'.2.2) hn
  dsimp only at b2
  unfold fX5_winsAll fX6_isWonBy
  rw [take_C, kb, asIs_M, kb]
  dsimp only
  rw [tu_C _ _ _ hw, tu_M _ _ _ hw, kb, kb]
  dsimp only
  rw [b1, b2, kb, kb]
  dsimp only
  rw [will_C hw, will_M hw, kb, kb]
  dsimp only
  rw [← h2]
  rcases ok_01 kd (itC kd pl st w arm (tuS p (fill 8 sn z.1) w, fill 8 cl z.2.1, z.2.2) n).1 w with e | e
  · rw [e]; exact ⟨0, _, _, Or.inl rfl, rfl, rfl⟩
  · rw [e]; exact ⟨1, _, _, Or.inr rfl, rfl, rfl⟩
theorem ones_M (p : Int32) : ∃ v, fX6_ones p = some v := by
  obtain ⟨r, h1, -⟩ := kIter_oneA (step := fX6_ones_L1 p) (fun k z => z.2 = nI k) (fun _ => True) 8 (fun k z hk q => by
    refine Or.inl ⟨((z.1 + ((p >>> (z.2 &&& 31)) &&& 1)), nI (k + 1)), fun rc => ?_, rfl⟩
    unfold fX6_ones_L1
    rw [← nI_1, ← q, if_neg (by rw [q]; exact n8 hk)]) (fun z q => by
    refine ⟨(z.1, z.2), fun rc => ?_, trivial⟩
    unfold fX6_ones_L1
    rw [if_pos (by rw [q]; decide)]) 8 0 (by omega) 300 (by omega) (0, 0) rfl
  unfold fX6_ones
  rw [h1, kb]
  exact ⟨_, rfl⟩
