/-! the digest -/
theorem mix_s (h : Int64) (v : Int32) : fX5_mixed h v = some (31 * h + v.toInt64) := rfl
theorem say_s (h : Int64) (v : Int64) : fX6_say h v = some (31 * h + v) := rfl
theorem mixloop {step : (Int64 × Int32 → Option (Int64 × Int32)) → Int64 × Int32 → Option (Int64 × Int32)} {step' : (Int32 × Int64 → Option (Int32 × Int64)) → Int32 × Int64 → Option (Int32 × Int64)} (b : Nat) (hb : b < 300)
    (hs : ∀ k, k < b → ∀ h : Int64, ∃ g : Int64, (∀ rc, step rc (h, nI k) = rc (g, nI (k + 1))) ∧ ∀ rc, step' rc (nI k, h) = rc (nI (k + 1), g))
    (he : ∀ h : Int64, (∀ rc, step rc (h, nI b) = some (h, nI b)) ∧ ∀ rc, step' rc (nI b, h) = some (nI b, h)) (h0 : Int64) :
    ∃ g : Int64, kIter step 300 (h0, 0) = some (g, nI b) ∧ kIter step' 300 (0, h0) = some (nI b, g) := by
  obtain ⟨r, r', h1, h2, g, rfl, rfl⟩ := kIter_sim (step := step) (step' := step') (fun k z z' => ∃ h : Int64, z = (h, nI k) ∧ z' = (nI k, h)) (fun r r' => ∃ g : Int64, r = (g, nI b) ∧ r' = (nI b, g)) b (fun k z z' hk hR => by
      obtain ⟨h, rfl, rfl⟩ := hR
      obtain ⟨g, g1, g2⟩ := hs k hk h
      exact Or.inl ⟨_, _, g1, g2, g, rfl, rfl⟩) (fun z z' hR => by
      obtain ⟨h, rfl, rfl⟩ := hR
      exact ⟨_, _, (he h).1, (he h).2, h, rfl, rfl⟩) b 0 (by omega) 300 hb (h0, 0) (0, h0) ⟨h0, rfl, rfl⟩
  exact ⟨g, h1, h2⟩
theorem dg2 {w k t : Nat} {kd pl st sn cl rw_ sn' cl' : Nat → Int32} {arm : Int32} (hw : w ≤ 8) (hk : k < w) (ht : t ≤ 3) (hh : HR w kd pl st rw_) (hc : SR w sn cl sn' cl') (h h' h0 : Int64) : ∃ g : Int64, kIter (fX5_digest_L2 kd pl st (nI w) (nI t) sn cl arm (h, nI k)) 300 (h0, 0) = some (g, nI 9) ∧ kIter (fX6_digest_L2 (nI t) arm rw_ sn' cl' (nI k, h')) 300 (0, h0) = some (nI 9, g) := by
  refine mixloop 9 (by omega) (fun j hj q => ?_) (fun q => ⟨fun rc => ?_, fun rc => ?_⟩) h0
  · obtain ⟨v, v1, v2⟩ := tell_eq (arm := arm) hw hk ht hh hc (y := nI j) (nI_pos (by omega)) (nI_le (a := j) (b := 8) (by omega) (by omega))
    refine ⟨31 * q + v.toInt64, fun rc => ?_, fun rc => ?_⟩
    · unfold fX5_digest_L2
      rw [if_neg (show ¬ (8 : Int32) < nI j from nI_nlt (a := 8) (b := j) (by omega) (by omega))]
      dsimp only
      rw [v1, kb, mix_s, kb, nI_1]
    · unfold fX6_digest_L2
      rw [if_neg (show ¬ (9 : Int32) ≤ nI j from nI_ge (a := j) (b := 9) (by omega) (by omega))]
      dsimp only
      rw [v2, kb, say_s, kb, nI_1]
  · unfold fX5_digest_L2
    rw [if_pos (show (8 : Int32) < nI 9 by decide)]
  · unfold fX6_digest_L2
    rw [if_pos (show (9 : Int32) ≤ nI 9 by decide)]
theorem dg3 {w k : Nat} {kd pl st sn cl rw_ sn' cl' : Nat → Int32} (hw : w ≤ 8) (hk : k < w) (hh : HR w kd pl st rw_) (hc : SR w sn cl sn' cl') (h h' h0 : Int64) : ∃ g : Int64, kIter (fX5_digest_L3 pl (nI w) sn (h, nI k)) 300 (h0, 0) = some (g, nI 4) ∧ kIter (fX6_digest_L3 (nI w) rw_ sn' (nI k, h')) 300 (0, h0) = some (nI 4, g) := by
  refine mixloop 4 (by omega) (fun j hj q => ?_) (fun q => ⟨fun rc => ?_, fun rc => ?_⟩) h0
  · obtain ⟨v, v1, v2⟩ := loud_sim hw hk hh hc (y := nI j) (nI_pos (by omega)) (nI_le (a := j) (b := 3) (by omega) (by omega))
    refine ⟨31 * q + v.toInt64, fun rc => ?_, fun rc => ?_⟩
    · unfold fX5_digest_L3
      rw [if_neg (show ¬ (3 : Int32) < nI j from nI_nlt (a := 3) (b := j) (by omega) (by omega))]
      dsimp only
      rw [v1, kb, mix_s, kb, nI_1]
    · unfold fX6_digest_L3
      rw [if_neg (show ¬ (4 : Int32) ≤ nI j from nI_ge (a := j) (b := 4) (by omega) (by omega))]
      dsimp only
      rw [v2, kb, say_s, kb, nI_1]
  · unfold fX5_digest_L3
    rw [if_pos (show (3 : Int32) < nI 4 by decide)]
  · unfold fX6_digest_L3
    rw [if_pos (show (4 : Int32) ≤ nI 4 by decide)]
theorem dg1 {w t : Nat} {kd pl st sn cl rw_ sn' cl' : Nat → Int32} {arm : Int32} (hw : w ≤ 8) (ht : t ≤ 3) (hh : HR w kd pl st rw_) (hc : SR w sn cl sn' cl') (h0 : Int64) : ∃ g : Int64, kIter (fX5_digest_L1 kd pl st (nI w) (nI t) sn cl arm) 300 (h0, 0) = some (g, nI w) ∧ kIter (fX6_digest_L1 (nI w) (nI t) arm rw_ sn' cl') 300 (0, h0) = some (nI w, g) := by
  refine mixloop w (by omega) (fun k hk q => ?_) (fun q => ⟨fun rc => ?_, fun rc => ?_⟩) h0
  · obtain ⟨g1, a1, a2⟩ := dg2 (arm := arm) hw hk ht hh hc q q q
    obtain ⟨g2, b1, b2⟩ := dg3 hw hk hh hc q q g1
    refine ⟨g2, fun rc => ?_, fun rc => ?_⟩
    · unfold fX5_digest_L1
      rw [if_neg (nI_ge hk (by omega))]
      dsimp only
      rw [a1, kb, b1, kb, nI_1]
    · unfold fX6_digest_L1
      rw [if_neg (nI_ge hk (by omega))]
      dsimp only
      rw [a2, kb, b2, kb, nI_1]
  · unfold fX5_digest_L1
    rw [if_pos (nI_le (Nat.le_refl w) (by omega))]
  · unfold fX6_digest_L1
    rw [if_pos (nI_le (Nat.le_refl w) (by omega))]
theorem codeAt_s {cs : Nat → Int32} {k : Nat} (hk : k < 36) : fX4_codeAt cs (nI k) = some (cs k) := by
  unfold fX4_codeAt
  rw [show (36 : Int32) - 1 = 35 by decide, wi_in (x := nI k) (lo := 0) (hi := 35) (nI_pos (by omega)) (nI_nlt (a := 35) (b := k) (by omega) (by omega)), kb, if_neg i10, kld_nI hk (by omega), kb]
theorem dg4 {n : Nat} {cs cs' : Nat → Int32} (hn : n ≤ 36) (hc : ∀ k, k < n → cs k = cs' k) (h0 : Int64) : ∃ g : Int64, kIter (fX5_digest_L4 cs (nI n)) 300 (h0, 0) = some (g, nI n) ∧ kIter (fX6_digest_L4 cs' (nI n)) 300 (0, h0) = some (nI n, g) := by
  refine mixloop n (by omega) (fun k hk q => ⟨31 * q + (cs k).toInt64, fun rc => ?_, fun rc => ?_⟩) (fun q => ⟨fun rc => ?_, fun rc => ?_⟩) h0
  · unfold fX5_digest_L4
    rw [if_neg (nI_ge hk (by omega))]
    dsimp only
    rw [codeAt_s (by omega), kb, mix_s, kb, nI_1]
  · unfold fX6_digest_L4
    rw [if_neg (nI_ge hk (by omega))]
    dsimp only
    rw [kld_nI (by omega) (by omega), kb, say_s, kb, nI_1, hc k hk]
  · unfold fX5_digest_L4
    rw [if_pos (nI_le (Nat.le_refl n) (by omega))]
  · unfold fX6_digest_L4
    rw [if_pos (nI_le (Nat.le_refl n) (by omega))]
theorem dg5 {s_page_length s_room_rows s_room_late s_night_crowd_armRows s_night_recorded s_night_barsGone s_night_beatsLeftOut s_hallsRead s_turnedDone s_beganDone t_pageMany t_many t_late t_armNow t_barNow t_skips t_hallsRead t_turnedMany t_recordMany t_beganMany : Int32} {s_page_codes s_room_kinds s_room_palms s_room_strengths s_night_crowd_sounds s_night_crowd_clapped s_night_rightBehindBar t_page t_rows t_sounds t_clapped t_records : Nat → Int32} {w hr : Nat} (hPg : RPage s_page_length s_page_codes t_pageMany t_page) (hH : RHall w s_room_rows s_room_late s_room_kinds s_room_palms s_room_strengths t_many t_late t_rows) (hNt : RNight w s_night_recorded s_night_barsGone s_night_beatsLeftOut s_night_crowd_armRows s_night_crowd_sounds s_night_crowd_clapped s_night_rightBehindBar t_recordMany t_barNow t_skips t_armNow t_sounds t_clapped t_records) (hCn : s_hallsRead = nI hr ∧ t_hallsRead = nI hr) (hTu : RCnt s_turnedDone t_turnedMany) (hBe : RCnt s_beganDone t_beganMany) (t_now t_nowLong : Nat → Int32) (t_nowArm : Int32) (h0 : Int64) :
    ∃ g : Int64, kIter (fX5_digest_L5 s_page_length s_room_palms s_room_rows s_room_late s_night_crowd_sounds s_night_crowd_armRows s_night_recorded s_night_barsGone s_night_beatsLeftOut s_hallsRead s_turnedDone s_beganDone) 300 (h0, 0) = some (g, nI 12) ∧ ∃ (na : Int32) (nw nl : Nat → Int32), kIter (fX6_digest_L5 t_pageMany t_many t_late t_armNow t_barNow t_skips t_hallsRead t_rows t_sounds t_clapped t_turnedMany t_recordMany t_beganMany) 300 (0, t_nowArm, h0, t_now, t_nowLong) = some (nI 12, na, g, nw, nl) := by
  have key : ∃ r r', kIter (fX5_digest_L5 s_page_length s_room_palms s_room_rows s_room_late s_night_crowd_sounds s_night_crowd_armRows s_night_recorded s_night_barsGone s_night_beatsLeftOut s_hallsRead s_turnedDone s_beganDone) 300 (h0, 0) = some r ∧ kIter (fX6_digest_L5 t_pageMany t_many t_late t_armNow t_barNow t_skips t_hallsRead t_rows t_sounds t_clapped t_turnedMany t_recordMany t_beganMany) 300 (0, t_nowArm, h0, t_now, t_nowLong) = some r' ∧ (fun (r : Int64 × Int32) (r' : Int32 × Int32 × Int64 × (Nat → Int32) × (Nat → Int32)) => r.2 = nI 12 ∧ r'.1 = nI 12 ∧ r.1 = r'.2.2.1) r r' := by
    refine kIter_sim (fun k (z : Int64 × Int32) (z' : Int32 × Int32 × Int64 × (Nat → Int32) × (Nat → Int32)) => z.2 = nI k ∧ z'.1 = nI k ∧ z.1 = z'.2.2.1) (fun (r : Int64 × Int32) (r' : Int32 × Int32 × Int64 × (Nat → Int32) × (Nat → Int32)) => r.2 = nI 12 ∧ r'.1 = nI 12 ∧ r.1 = r'.2.2.1) 12 (fun k z z' hk hR => ?_) (fun z z' hR => ?_) 12 0 (by omega) 300 (by omega) (h0, 0) (0, t_nowArm, h0, t_now, t_nowLong) ⟨rfl, rfl, rfl⟩
    · obtain ⟨h, i⟩ := z
      obtain ⟨i', na, h', nw, nl⟩ := z'
      obtain ⟨e1, e2, e3⟩ := hR
      dsimp only at e1 e2 e3
      subst e1; subst e2; subst e3
      obtain ⟨v, v', c1, c2, c3⟩ := count_eq nw nl na hPg hH hNt hCn hTu hBe (nI k)
      unfold fX6_count at c2
      obtain ⟨u, hu, c2⟩ := k_bs c2
      have c2 := Option.some.inj c2
      have c4 : v = u.1 := by rw [c3, ← c2]
      refine Or.inl ⟨(31 * h + v.toInt64, nI k + 1), (nI k + 1, u.2.1, 31 * h + v.toInt64, u.2.2.1, u.2.2.2), fun rc => ?_, fun rc => ?_, by rw [nI_1], by rw [nI_1], rfl⟩
      · unfold fX5_digest_L5
        rw [if_neg (show ¬ (11 : Int32) < nI k from nI_nlt (a := 11) (b := k) (by omega) (by omega))]
        dsimp only
        rw [c1, kb, mix_s, kb]
      · unfold fX6_digest_L5
        rw [if_neg (show ¬ (12 : Int32) ≤ nI k from nI_ge (a := k) (b := 12) (by omega) (by omega))]
        dsimp only
        rw [hu, kb, say_s, kb, c4]
    · obtain ⟨e1, e2, e3⟩ := hR
      refine ⟨z, z', fun rc => ?_, fun rc => ?_, e1, e2, e3⟩
      · unfold fX5_digest_L5
        rw [e1, if_pos (show (11 : Int32) < nI 12 by decide), ← e1]
      · unfold fX6_digest_L5
        rw [e2, if_pos (show (12 : Int32) ≤ nI 12 by decide), ← e2]
  obtain ⟨⟨g, i⟩, ⟨i', na, g', nw, nl⟩, h1, h2, h3, h4, h5⟩ := key
  dsimp only at h3 h4 h5
  subst h3; subst h4; subst h5
  exact ⟨g, h1, na, nw, nl, h2⟩
