set_option maxHeartbeats 2000000 in
theorem T_letter {N : Nat} {s_isKept : Int32} {s_hallsRead : Int32} {s_turnedDone : Int32} {s_beganDone : Int32} {s_page_length : Int32} {s_page_codes : (Nat → Int32)} {s_room_rows : Int32} {s_room_late : Int32} {s_room_kinds : (Nat → Int32)} {s_room_palms : (Nat → Int32)} {s_room_strengths : (Nat → Int32)} {s_night_recorded : Int32} {s_night_barsGone : Int32} {s_night_beatsLeftOut : Int32} {s_night_crowd_armRows : Int32} {s_night_crowd_sounds : (Nat → Int32)} {s_night_crowd_clapped : (Nat → Int32)} {s_night_rightBehindBar : (Nat → Int32)} {s_kept_recorded : Int32} {s_kept_barsGone : Int32} {s_kept_beatsLeftOut : Int32} {s_kept_crowd_armRows : Int32} {s_kept_crowd_sounds : (Nat → Int32)} {s_kept_crowd_clapped : (Nat → Int32)} {s_kept_rightBehindBar : (Nat → Int32)} {t_pageMany : Int32} {t_many : Int32} {t_late : Int32} {t_armNow : Int32} {t_barNow : Int32} {t_skips : Int32} {t_hallsRead : Int32} {t_turnedMany : Int32} {t_recordMany : Int32} {t_beganMany : Int32} {t_keptHall : Int32} {t_keptArm : Int32} {t_keptBar : Int32} {t_keptSkips : Int32} {t_keptRecordMany : Int32} {t_page : (Nat → Int32)} {t_rows : (Nat → Int32)} {t_sounds : (Nat → Int32)} {t_clapped : (Nat → Int32)} {t_records : (Nat → Int32)} {t_keptSounds : (Nat → Int32)} {t_keptClapped : (Nat → Int32)} {t_keptRecords : (Nat → Int32)} (p1 : Int32) (h : Rel N s_isKept s_hallsRead s_turnedDone s_beganDone s_page_length s_page_codes s_room_rows s_room_late s_room_kinds s_room_palms s_room_strengths s_night_recorded s_night_barsGone s_night_beatsLeftOut s_night_crowd_armRows s_night_crowd_sounds s_night_crowd_clapped s_night_rightBehindBar s_kept_recorded s_kept_barsGone s_kept_beatsLeftOut s_kept_crowd_armRows s_kept_crowd_sounds s_kept_crowd_clapped s_kept_rightBehindBar t_pageMany t_many t_late t_armNow t_barNow t_skips t_hallsRead t_turnedMany t_recordMany t_beganMany t_keptHall t_keptArm t_keptBar t_keptSkips t_keptRecordMany t_page t_rows t_sounds t_clapped t_records t_keptSounds t_keptClapped t_keptRecords) : ∃ (r : (Int32 × Int32 × (Nat → Int32))) (r' : (Int32 × Int32 × (Nat → Int32))), fX5_letter s_page_codes s_page_length p1 = some r ∧ fX6_letter t_page t_pageMany p1 = some r' ∧ r.1 = r'.1 ∧ Rel (N + 1) s_isKept s_hallsRead s_turnedDone s_beganDone r.2.1 r.2.2 s_room_rows s_room_late s_room_kinds s_room_palms s_room_strengths s_night_recorded s_night_barsGone s_night_beatsLeftOut s_night_crowd_armRows s_night_crowd_sounds s_night_crowd_clapped s_night_rightBehindBar s_kept_recorded s_kept_barsGone s_kept_beatsLeftOut s_kept_crowd_armRows s_kept_crowd_sounds s_kept_crowd_clapped s_kept_rightBehindBar r'.2.1 t_many t_late t_armNow t_barNow t_skips t_hallsRead t_turnedMany t_recordMany t_beganMany t_keptHall t_keptArm t_keptBar t_keptSkips t_keptRecordMany r'.2.2 t_rows t_sounds t_clapped t_records t_keptSounds t_keptClapped t_keptRecords := by
  obtain ⟨w, hr, hPg, hH, hNt, hCn, hTu, hBe, hKp⟩ := h
  obtain ⟨r, r', a, b, c, d⟩ := L_letter hPg p1
  exact ⟨r, r', a, b, c, w, hr, d, hH, hNt, ⟨by omega, hCn.2⟩, hTu, hBe, hKp⟩
set_option maxHeartbeats 2000000 in
theorem T_blank {N : Nat} {s_isKept : Int32} {s_hallsRead : Int32} {s_turnedDone : Int32} {s_beganDone : Int32} {s_page_length : Int32} {s_page_codes : (Nat → Int32)} {s_room_rows : Int32} {s_room_late : Int32} {s_room_kinds : (Nat → Int32)} {s_room_palms : (Nat → Int32)} {s_room_strengths : (Nat → Int32)} {s_night_recorded : Int32} {s_night_barsGone : Int32} {s_night_beatsLeftOut : Int32} {s_night_crowd_armRows : Int32} {s_night_crowd_sounds : (Nat → Int32)} {s_night_crowd_clapped : (Nat → Int32)} {s_night_rightBehindBar : (Nat → Int32)} {s_kept_recorded : Int32} {s_kept_barsGone : Int32} {s_kept_beatsLeftOut : Int32} {s_kept_crowd_armRows : Int32} {s_kept_crowd_sounds : (Nat → Int32)} {s_kept_crowd_clapped : (Nat → Int32)} {s_kept_rightBehindBar : (Nat → Int32)} {t_pageMany : Int32} {t_many : Int32} {t_late : Int32} {t_armNow : Int32} {t_barNow : Int32} {t_skips : Int32} {t_hallsRead : Int32} {t_turnedMany : Int32} {t_recordMany : Int32} {t_beganMany : Int32} {t_keptHall : Int32} {t_keptArm : Int32} {t_keptBar : Int32} {t_keptSkips : Int32} {t_keptRecordMany : Int32} {t_page : (Nat → Int32)} {t_rows : (Nat → Int32)} {t_sounds : (Nat → Int32)} {t_clapped : (Nat → Int32)} {t_records : (Nat → Int32)} {t_keptSounds : (Nat → Int32)} {t_keptClapped : (Nat → Int32)} {t_keptRecords : (Nat → Int32)}  (h : Rel N s_isKept s_hallsRead s_turnedDone s_beganDone s_page_length s_page_codes s_room_rows s_room_late s_room_kinds s_room_palms s_room_strengths s_night_recorded s_night_barsGone s_night_beatsLeftOut s_night_crowd_armRows s_night_crowd_sounds s_night_crowd_clapped s_night_rightBehindBar s_kept_recorded s_kept_barsGone s_kept_beatsLeftOut s_kept_crowd_armRows s_kept_crowd_sounds s_kept_crowd_clapped s_kept_rightBehindBar t_pageMany t_many t_late t_armNow t_barNow t_skips t_hallsRead t_turnedMany t_recordMany t_beganMany t_keptHall t_keptArm t_keptBar t_keptSkips t_keptRecordMany t_page t_rows t_sounds t_clapped t_records t_keptSounds t_keptClapped t_keptRecords) : ∃ (r : (Int32 × Int32)) (r' : (Int32 × Int32)), fX5_blank s_page_length = some r ∧ fX6_blank t_pageMany = some r' ∧ r.1 = r'.1 ∧ Rel (N + 1) s_isKept s_hallsRead s_turnedDone s_beganDone r.2 s_page_codes s_room_rows s_room_late s_room_kinds s_room_palms s_room_strengths s_night_recorded s_night_barsGone s_night_beatsLeftOut s_night_crowd_armRows s_night_crowd_sounds s_night_crowd_clapped s_night_rightBehindBar s_kept_recorded s_kept_barsGone s_kept_beatsLeftOut s_kept_crowd_armRows s_kept_crowd_sounds s_kept_crowd_clapped s_kept_rightBehindBar r'.2 t_many t_late t_armNow t_barNow t_skips t_hallsRead t_turnedMany t_recordMany t_beganMany t_keptHall t_keptArm t_keptBar t_keptSkips t_keptRecordMany t_page t_rows t_sounds t_clapped t_records t_keptSounds t_keptClapped t_keptRecords := by
  obtain ⟨w, hr, hPg, hH, hNt, hCn, hTu, hBe, hKp⟩ := h
  obtain ⟨n, hn, e1, e2, -⟩ := id hPg
  exact ⟨_, _, rfl, rfl, e1.trans e2.symm, w, hr, ⟨0, by omega, rfl, rfl, fun k h => absurd h (Nat.not_lt_zero k)⟩, hH, hNt, ⟨by omega, hCn.2⟩, hTu, hBe, hKp⟩
set_option maxHeartbeats 2000000 in
theorem T_fault {N : Nat} {s_isKept : Int32} {s_hallsRead : Int32} {s_turnedDone : Int32} {s_beganDone : Int32} {s_page_length : Int32} {s_page_codes : (Nat → Int32)} {s_room_rows : Int32} {s_room_late : Int32} {s_room_kinds : (Nat → Int32)} {s_room_palms : (Nat → Int32)} {s_room_strengths : (Nat → Int32)} {s_night_recorded : Int32} {s_night_barsGone : Int32} {s_night_beatsLeftOut : Int32} {s_night_crowd_armRows : Int32} {s_night_crowd_sounds : (Nat → Int32)} {s_night_crowd_clapped : (Nat → Int32)} {s_night_rightBehindBar : (Nat → Int32)} {s_kept_recorded : Int32} {s_kept_barsGone : Int32} {s_kept_beatsLeftOut : Int32} {s_kept_crowd_armRows : Int32} {s_kept_crowd_sounds : (Nat → Int32)} {s_kept_crowd_clapped : (Nat → Int32)} {s_kept_rightBehindBar : (Nat → Int32)} {t_pageMany : Int32} {t_many : Int32} {t_late : Int32} {t_armNow : Int32} {t_barNow : Int32} {t_skips : Int32} {t_hallsRead : Int32} {t_turnedMany : Int32} {t_recordMany : Int32} {t_beganMany : Int32} {t_keptHall : Int32} {t_keptArm : Int32} {t_keptBar : Int32} {t_keptSkips : Int32} {t_keptRecordMany : Int32} {t_page : (Nat → Int32)} {t_rows : (Nat → Int32)} {t_sounds : (Nat → Int32)} {t_clapped : (Nat → Int32)} {t_records : (Nat → Int32)} {t_keptSounds : (Nat → Int32)} {t_keptClapped : (Nat → Int32)} {t_keptRecords : (Nat → Int32)} (t_read : (Nat → Int32)) (t_readLate : Int32) (h : Rel N s_isKept s_hallsRead s_turnedDone s_beganDone s_page_length s_page_codes s_room_rows s_room_late s_room_kinds s_room_palms s_room_strengths s_night_recorded s_night_barsGone s_night_beatsLeftOut s_night_crowd_armRows s_night_crowd_sounds s_night_crowd_clapped s_night_rightBehindBar s_kept_recorded s_kept_barsGone s_kept_beatsLeftOut s_kept_crowd_armRows s_kept_crowd_sounds s_kept_crowd_clapped s_kept_rightBehindBar t_pageMany t_many t_late t_armNow t_barNow t_skips t_hallsRead t_turnedMany t_recordMany t_beganMany t_keptHall t_keptArm t_keptBar t_keptSkips t_keptRecordMany t_page t_rows t_sounds t_clapped t_records t_keptSounds t_keptClapped t_keptRecords) : ∃ (r : Int32) (r' : (Int32 × Int32 × Int32 × Int32 × (Nat → Int32))), fX5_fault s_page_codes s_page_length = some r ∧ fX6_fault t_page t_pageMany t_read t_readLate = some r' ∧ r = r'.1 ∧ Rel (N + 1) s_isKept s_hallsRead s_turnedDone s_beganDone s_page_length s_page_codes s_room_rows s_room_late s_room_kinds s_room_palms s_room_strengths s_night_recorded s_night_barsGone s_night_beatsLeftOut s_night_crowd_armRows s_night_crowd_sounds s_night_crowd_clapped s_night_rightBehindBar s_kept_recorded s_kept_barsGone s_kept_beatsLeftOut s_kept_crowd_armRows s_kept_crowd_sounds s_kept_crowd_clapped s_kept_rightBehindBar t_pageMany t_many t_late t_armNow t_barNow t_skips t_hallsRead t_turnedMany t_recordMany t_beganMany t_keptHall t_keptArm t_keptBar t_keptSkips t_keptRecordMany t_page t_rows t_sounds t_clapped t_records t_keptSounds t_keptClapped t_keptRecords := by
  obtain ⟨w, hr, hPg, hH, hNt, hCn, hTu, hBe, hKp⟩ := h
  obtain ⟨n, hn, rfl, rfl, hc⟩ := id hPg
  obtain ⟨r, r', h1, h2, h3, -⟩ := page_sim (rd := t_read) (rl := t_readLate) hn hc
  unfold fX5_fault fX6_fault fX6_faultOf
  rw [h1, h2, kb, kb, kb]
  exact ⟨_, _, rfl, rfl, h3, w, hr, hPg, hH, hNt, ⟨by omega, hCn.2⟩, hTu, hBe, hKp⟩
set_option maxHeartbeats 2000000 in
theorem T_hall {N : Nat} {s_isKept : Int32} {s_hallsRead : Int32} {s_turnedDone : Int32} {s_beganDone : Int32} {s_page_length : Int32} {s_page_codes : (Nat → Int32)} {s_room_rows : Int32} {s_room_late : Int32} {s_room_kinds : (Nat → Int32)} {s_room_palms : (Nat → Int32)} {s_room_strengths : (Nat → Int32)} {s_night_recorded : Int32} {s_night_barsGone : Int32} {s_night_beatsLeftOut : Int32} {s_night_crowd_armRows : Int32} {s_night_crowd_sounds : (Nat → Int32)} {s_night_crowd_clapped : (Nat → Int32)} {s_night_rightBehindBar : (Nat → Int32)} {s_kept_recorded : Int32} {s_kept_barsGone : Int32} {s_kept_beatsLeftOut : Int32} {s_kept_crowd_armRows : Int32} {s_kept_crowd_sounds : (Nat → Int32)} {s_kept_crowd_clapped : (Nat → Int32)} {s_kept_rightBehindBar : (Nat → Int32)} {t_pageMany : Int32} {t_many : Int32} {t_late : Int32} {t_armNow : Int32} {t_barNow : Int32} {t_skips : Int32} {t_hallsRead : Int32} {t_turnedMany : Int32} {t_recordMany : Int32} {t_beganMany : Int32} {t_keptHall : Int32} {t_keptArm : Int32} {t_keptBar : Int32} {t_keptSkips : Int32} {t_keptRecordMany : Int32} {t_page : (Nat → Int32)} {t_rows : (Nat → Int32)} {t_sounds : (Nat → Int32)} {t_clapped : (Nat → Int32)} {t_records : (Nat → Int32)} {t_keptSounds : (Nat → Int32)} {t_keptClapped : (Nat → Int32)} {t_keptRecords : (Nat → Int32)} (t_read : (Nat → Int32)) (t_readLate : Int32) (hN64 : N ≤ 64) (h : Rel N s_isKept s_hallsRead s_turnedDone s_beganDone s_page_length s_page_codes s_room_rows s_room_late s_room_kinds s_room_palms s_room_strengths s_night_recorded s_night_barsGone s_night_beatsLeftOut s_night_crowd_armRows s_night_crowd_sounds s_night_crowd_clapped s_night_rightBehindBar s_kept_recorded s_kept_barsGone s_kept_beatsLeftOut s_kept_crowd_armRows s_kept_crowd_sounds s_kept_crowd_clapped s_kept_rightBehindBar t_pageMany t_many t_late t_armNow t_barNow t_skips t_hallsRead t_turnedMany t_recordMany t_beganMany t_keptHall t_keptArm t_keptBar t_keptSkips t_keptRecordMany t_page t_rows t_sounds t_clapped t_records t_keptSounds t_keptClapped t_keptRecords) : ∃ (r : (Int32 × Int32 × Int32 × Int32 × Int32 × Int32 × (Nat → Int32) × (Nat → Int32) × (Nat → Int32) × Int32 × Int32 × Int32 × Int32 × (Nat → Int32) × (Nat → Int32))) (r' : (Int32 × Int32 × Int32 × Int32 × Int32 × Int32 × Int32 × Int32 × Int32 × Int32 × Int32 × Int32 × (Nat → Int32) × (Nat → Int32) × (Nat → Int32) × (Nat → Int32))), fX5_hall s_page_codes s_page_length s_room_kinds s_room_palms s_room_strengths s_room_rows s_room_late s_night_crowd_sounds s_night_crowd_clapped s_night_crowd_armRows s_night_recorded s_night_barsGone s_night_beatsLeftOut s_isKept s_hallsRead = some r ∧ fX6_hall t_page t_pageMany t_read t_readLate t_many t_late t_armNow t_barNow t_skips t_hallsRead t_rows t_sounds t_clapped t_recordMany = some r' ∧ r.1 = r'.1 ∧ Rel (N + 1) r.2.1 r.2.2.1 s_turnedDone s_beganDone r.2.2.2.1 s_page_codes r.2.2.2.2.1 r.2.2.2.2.2.1 r.2.2.2.2.2.2.1 r.2.2.2.2.2.2.2.1 r.2.2.2.2.2.2.2.2.1 r.2.2.2.2.2.2.2.2.2.1 r.2.2.2.2.2.2.2.2.2.2.1 r.2.2.2.2.2.2.2.2.2.2.2.1 r.2.2.2.2.2.2.2.2.2.2.2.2.1 r.2.2.2.2.2.2.2.2.2.2.2.2.2.1 r.2.2.2.2.2.2.2.2.2.2.2.2.2.2 s_night_rightBehindBar s_kept_recorded s_kept_barsGone s_kept_beatsLeftOut s_kept_crowd_armRows s_kept_crowd_sounds s_kept_crowd_clapped s_kept_rightBehindBar r'.2.1 r'.2.2.2.2.2.1 r'.2.2.2.2.2.2.1 r'.2.2.2.2.2.2.2.1 r'.2.2.2.2.2.2.2.2.1 r'.2.2.2.2.2.2.2.2.2.1 r'.2.2.2.2.2.2.2.2.2.2.1 t_turnedMany r'.2.2.2.2.2.2.2.2.2.2.2.1 t_beganMany t_keptHall t_keptArm t_keptBar t_keptSkips t_keptRecordMany t_page r'.2.2.2.2.2.2.2.2.2.2.2.2.2.1 r'.2.2.2.2.2.2.2.2.2.2.2.2.2.2.1 r'.2.2.2.2.2.2.2.2.2.2.2.2.2.2.2 t_records t_keptSounds t_keptClapped t_keptRecords := by
  obtain ⟨w, hr, hPg, hH, hNt, hCn, hTu, hBe, hKp⟩ := h
  have hup : Rel (N + 1) _ _ _ _ _ _ _ _ _ _ _ _ _ _ _ _ _ _ _ _ _ _ _ _ _ _ _ _ _ _ _ _ _ _ _ _ _ _ _ _ _ _ _ _ _ _ _ _ := ⟨w, hr, hPg, hH, hNt, ⟨by omega, hCn.2⟩, hTu, hBe, hKp⟩
  obtain ⟨n, hn, rfl, rfl, hc⟩ := id hPg
  obtain ⟨u, hu, h4⟩ := whole_sim (rd := t_read) (rl := t_readLate) hn hc
  unfold fX5_hall fX6_hall
  rw [hu, kb]
  rcases h4 with ⟨h5, h6⟩ | ⟨h5, h6, h7, v, h8, h9, rfl, g1, g2, g3, g4⟩
  · rw [h5, kb, if_pos rfl]
    rcases h6 with h6 | ⟨h6, h7⟩
    · rw [if_pos h6]
      exact ⟨_, _, rfl, rfl, rfl, hup⟩
    · rw [if_neg h6, if_neg h7]
      exact ⟨_, _, rfl, rfl, rfl, hup⟩
  · have hv : ∀ k, k < 4 * v + 1 → ∃ c, c < 127 ∧ s_page_codes k = nI c := fun k hk => by
      obtain ⟨-, y1, y2⟩ := hc k hk
      obtain ⟨c, y3, y4⟩ := nI_of2 (x := s_page_codes k) (M := 126) (n := 126) (by decide) (by rw [Int32.lt_iff_toInt_lt]; exact fun g => absurd (show (s_page_codes k).toInt < 0 from g) (by omega)) (by rw [Int32.le_iff_toInt_le]; exact y2)
      exact ⟨c, by omega, y4⟩
    have hK : ∀ j, j < v → fX4_kindBy (s_page_codes (4 * j)) = some (u.2.2.2.2 (3 * j)) := fun j hj => by
      obtain ⟨c, y1, y2⟩ := hv (4 * j) (by omega)
      rw [← (g2 j).1 (by omega), y2, kind_s c y1]
    obtain ⟨t, ht, et⟩ : ∃ t, t < 4 ∧ s_page_codes (4 * v) - 48 = nI t := by
      obtain ⟨c, y1, y2⟩ := hv (4 * v) (by omega)
      rw [y2] at g4 ⊢
      exact late_s c y1 g4
    rw [h5, kb, if_neg i10, if_neg h6, if_pos h7, read_C _ _ _ (fun j => u.2.2.2.2 (3 * j)) h9 hK, kb, rows_M, full_M, kb, kb]
    unfold fX4_wipe fX3_startAnew
    rw [kb, begin_C, kb, kb]
    refine ⟨_, _, rfl, rfl, g1.symm, v, hr + 1, ⟨0, by omega, rfl, rfl, fun k h => absurd h (Nat.not_lt_zero k)⟩, ⟨Or.inr ⟨h8, h9⟩, rfl, g1, g3, ⟨t, by omega, et⟩, fun k hk => ?_⟩, ⟨⟨0, by omega, rfl, rfl, fun k h => absurd h (Nat.not_lt_zero k)⟩, rfl, rfl, rfl, fun k hk => ?_⟩, ⟨by omega, by rw [hCn.2.1]; exact nI_1 hr, by rw [hCn.2.2]; exact nI_1 hr⟩, hTu, hBe, ?_, Or.inl ⟨rfl, ?_⟩⟩
    · dsimp only
      rw [fill_in hk, fill_in hk, fill_in hk, fill_in (by omega), fill_in (by omega), fill_in (by omega), (g2 k).2.1 (by omega), (g2 k).2.2 (by omega)]
      exact ⟨rfl, rfl, rfl⟩
    · dsimp only
      rw [fill_in (by omega), fill_in (by omega), fill_in (by omega), fill_in (by omega)]
      exact ⟨rfl, rfl⟩
    · rcases hKp.1 with q | ⟨kh, q1, q2⟩
      · exact Or.inl q
      · exact Or.inr ⟨kh, by omega, q2⟩
    · rcases hKp.1 with q | ⟨kh, q1, q2⟩
      · rw [q]
        exact fun g => nI_pos (n := hr + 1) (by omega) (by rw [← g]; decide)
      · rw [q2]
        exact fun g => absurd ((nI_eq (a := kh) (b := hr + 1) (by omega) (by omega)).mp g) (by omega)
set_option maxHeartbeats 2000000 in
theorem T_about {N : Nat} {s_isKept : Int32} {s_hallsRead : Int32} {s_turnedDone : Int32} {s_beganDone : Int32} {s_page_length : Int32} {s_page_codes : (Nat → Int32)} {s_room_rows : Int32} {s_room_late : Int32} {s_room_kinds : (Nat → Int32)} {s_room_palms : (Nat → Int32)} {s_room_strengths : (Nat → Int32)} {s_night_recorded : Int32} {s_night_barsGone : Int32} {s_night_beatsLeftOut : Int32} {s_night_crowd_armRows : Int32} {s_night_crowd_sounds : (Nat → Int32)} {s_night_crowd_clapped : (Nat → Int32)} {s_night_rightBehindBar : (Nat → Int32)} {s_kept_recorded : Int32} {s_kept_barsGone : Int32} {s_kept_beatsLeftOut : Int32} {s_kept_crowd_armRows : Int32} {s_kept_crowd_sounds : (Nat → Int32)} {s_kept_crowd_clapped : (Nat → Int32)} {s_kept_rightBehindBar : (Nat → Int32)} {t_pageMany : Int32} {t_many : Int32} {t_late : Int32} {t_armNow : Int32} {t_barNow : Int32} {t_skips : Int32} {t_hallsRead : Int32} {t_turnedMany : Int32} {t_recordMany : Int32} {t_beganMany : Int32} {t_keptHall : Int32} {t_keptArm : Int32} {t_keptBar : Int32} {t_keptSkips : Int32} {t_keptRecordMany : Int32} {t_page : (Nat → Int32)} {t_rows : (Nat → Int32)} {t_sounds : (Nat → Int32)} {t_clapped : (Nat → Int32)} {t_records : (Nat → Int32)} {t_keptSounds : (Nat → Int32)} {t_keptClapped : (Nat → Int32)} {t_keptRecords : (Nat → Int32)} (p1 : Int32) (p2 : Int32) (h : Rel N s_isKept s_hallsRead s_turnedDone s_beganDone s_page_length s_page_codes s_room_rows s_room_late s_room_kinds s_room_palms s_room_strengths s_night_recorded s_night_barsGone s_night_beatsLeftOut s_night_crowd_armRows s_night_crowd_sounds s_night_crowd_clapped s_night_rightBehindBar s_kept_recorded s_kept_barsGone s_kept_beatsLeftOut s_kept_crowd_armRows s_kept_crowd_sounds s_kept_crowd_clapped s_kept_rightBehindBar t_pageMany t_many t_late t_armNow t_barNow t_skips t_hallsRead t_turnedMany t_recordMany t_beganMany t_keptHall t_keptArm t_keptBar t_keptSkips t_keptRecordMany t_page t_rows t_sounds t_clapped t_records t_keptSounds t_keptClapped t_keptRecords) : ∃ (r : Int32) (r' : Int32), fX5_about s_room_kinds s_room_palms s_room_strengths s_room_rows s_room_late s_night_crowd_sounds s_night_crowd_clapped s_night_crowd_armRows p1 p2 = some r ∧ fX6_about t_many t_late t_armNow t_rows t_sounds t_clapped p1 p2 = some r' ∧ r = r' ∧ Rel (N + 1) s_isKept s_hallsRead s_turnedDone s_beganDone s_page_length s_page_codes s_room_rows s_room_late s_room_kinds s_room_palms s_room_strengths s_night_recorded s_night_barsGone s_night_beatsLeftOut s_night_crowd_armRows s_night_crowd_sounds s_night_crowd_clapped s_night_rightBehindBar s_kept_recorded s_kept_barsGone s_kept_beatsLeftOut s_kept_crowd_armRows s_kept_crowd_sounds s_kept_crowd_clapped s_kept_rightBehindBar t_pageMany t_many t_late t_armNow t_barNow t_skips t_hallsRead t_turnedMany t_recordMany t_beganMany t_keptHall t_keptArm t_keptBar t_keptSkips t_keptRecordMany t_page t_rows t_sounds t_clapped t_records t_keptSounds t_keptClapped t_keptRecords := by
  obtain ⟨w, hr, hPg, hH, hNt, hCn, hTu, hBe, hKp⟩ := h
  have hup : Rel (N + 1) _ _ _ _ _ _ _ _ _ _ _ _ _ _ _ _ _ _ _ _ _ _ _ _ _ _ _ _ _ _ _ _ _ _ _ _ _ _ _ _ _ _ _ _ _ _ _ _ := ⟨w, hr, hPg, hH, hNt, ⟨by omega, hCn.2⟩, hTu, hBe, hKp⟩
  obtain ⟨hw, rfl, rfl, rfl, ⟨t, ht, rfl⟩, hh⟩ := id hH
  obtain ⟨hRec, hb, hs, rfl, hcr⟩ := hNt
  have hw8 : w ≤ 8 := by omega
  unfold fX5_about fX6_about
  rw [has_C hw8, row_spec hw8]
  by_cases h0 : p1 < 0
  · simp only [h0, kb, if_true]
    exact ⟨_, _, rfl, rfl, rfl, hup⟩
  · by_cases h1 : p1 < nI w
    · obtain ⟨k, hk, rfl⟩ := ix_of hw8 h0 h1
      simp only [h0, h1, kb, i10, if_true, if_false]
      rcases wi_cases p2 0 8 with ⟨h2, h3⟩ | ⟨h2, h3, h4⟩
      · rw [tell_out h3]
        simp only [h2, kb, if_true]
        exact ⟨_, _, rfl, rfl, rfl, hup⟩
      · obtain ⟨v, v1, v2⟩ := tell_eq (arm := s_night_crowd_armRows) hw8 hk ht hh hcr h3 (by rw [Int32.le_iff_toInt_le]; rw [Int32.lt_iff_toInt_lt] at h4; omega)
        simp only [h2, kb, i10, if_false, v1, v2]
        exact ⟨_, _, rfl, rfl, rfl, hup⟩
    · simp only [h0, h1, kb, if_true, if_false]
      exact ⟨_, _, rfl, rfl, rfl, hup⟩
set_option maxHeartbeats 2000000 in
theorem T_as {N : Nat} {s_isKept : Int32} {s_hallsRead : Int32} {s_turnedDone : Int32} {s_beganDone : Int32} {s_page_length : Int32} {s_page_codes : (Nat → Int32)} {s_room_rows : Int32} {s_room_late : Int32} {s_room_kinds : (Nat → Int32)} {s_room_palms : (Nat → Int32)} {s_room_strengths : (Nat → Int32)} {s_night_recorded : Int32} {s_night_barsGone : Int32} {s_night_beatsLeftOut : Int32} {s_night_crowd_armRows : Int32} {s_night_crowd_sounds : (Nat → Int32)} {s_night_crowd_clapped : (Nat → Int32)} {s_night_rightBehindBar : (Nat → Int32)} {s_kept_recorded : Int32} {s_kept_barsGone : Int32} {s_kept_beatsLeftOut : Int32} {s_kept_crowd_armRows : Int32} {s_kept_crowd_sounds : (Nat → Int32)} {s_kept_crowd_clapped : (Nat → Int32)} {s_kept_rightBehindBar : (Nat → Int32)} {t_pageMany : Int32} {t_many : Int32} {t_late : Int32} {t_armNow : Int32} {t_barNow : Int32} {t_skips : Int32} {t_hallsRead : Int32} {t_turnedMany : Int32} {t_recordMany : Int32} {t_beganMany : Int32} {t_keptHall : Int32} {t_keptArm : Int32} {t_keptBar : Int32} {t_keptSkips : Int32} {t_keptRecordMany : Int32} {t_page : (Nat → Int32)} {t_rows : (Nat → Int32)} {t_sounds : (Nat → Int32)} {t_clapped : (Nat → Int32)} {t_records : (Nat → Int32)} {t_keptSounds : (Nat → Int32)} {t_keptClapped : (Nat → Int32)} {t_keptRecords : (Nat → Int32)} (p1 : Int32) (p2 : Int32) (h : Rel N s_isKept s_hallsRead s_turnedDone s_beganDone s_page_length s_page_codes s_room_rows s_room_late s_room_kinds s_room_palms s_room_strengths s_night_recorded s_night_barsGone s_night_beatsLeftOut s_night_crowd_armRows s_night_crowd_sounds s_night_crowd_clapped s_night_rightBehindBar s_kept_recorded s_kept_barsGone s_kept_beatsLeftOut s_kept_crowd_armRows s_kept_crowd_sounds s_kept_crowd_clapped s_kept_rightBehindBar t_pageMany t_many t_late t_armNow t_barNow t_skips t_hallsRead t_turnedMany t_recordMany t_beganMany t_keptHall t_keptArm t_keptBar t_keptSkips t_keptRecordMany t_page t_rows t_sounds t_clapped t_records t_keptSounds t_keptClapped t_keptRecords) : ∃ (r : Int32) (r' : Int32), fX5_as s_room_kinds s_room_rows p1 p2 = some r ∧ fX6_as t_many t_rows p1 p2 = some r' ∧ r = r' ∧ Rel (N + 1) s_isKept s_hallsRead s_turnedDone s_beganDone s_page_length s_page_codes s_room_rows s_room_late s_room_kinds s_room_palms s_room_strengths s_night_recorded s_night_barsGone s_night_beatsLeftOut s_night_crowd_armRows s_night_crowd_sounds s_night_crowd_clapped s_night_rightBehindBar s_kept_recorded s_kept_barsGone s_kept_beatsLeftOut s_kept_crowd_armRows s_kept_crowd_sounds s_kept_crowd_clapped s_kept_rightBehindBar t_pageMany t_many t_late t_armNow t_barNow t_skips t_hallsRead t_turnedMany t_recordMany t_beganMany t_keptHall t_keptArm t_keptBar t_keptSkips t_keptRecordMany t_page t_rows t_sounds t_clapped t_records t_keptSounds t_keptClapped t_keptRecords := by
  obtain ⟨w, hr, hPg, hH, hNt, hCn, hTu, hBe, hKp⟩ := h
  have hup : Rel (N + 1) _ _ _ _ _ _ _ _ _ _ _ _ _ _ _ _ _ _ _ _ _ _ _ _ _ _ _ _ _ _ _ _ _ _ _ _ _ _ _ _ _ _ _ _ _ _ _ _ := ⟨w, hr, hPg, hH, hNt, ⟨by omega, hCn.2⟩, hTu, hBe, hKp⟩
  obtain ⟨hw, rfl, rfl, he, hlt, hh⟩ := id hH
  have hw8 : w ≤ 8 := by omega
  have e : fX6_in (Int32.toInt64 p2) (0 : Int64) (4 : Int64) = fX5_within p2 0 4 := in_eq p2 0 4
  unfold fX5_as fX6_as
  rw [has_C hw8, row_spec hw8, e]
  by_cases h0 : p1 < 0
  · simp only [h0, kb, if_true]
    exact ⟨_, _, rfl, rfl, rfl, hup⟩
  · by_cases h1 : p1 < nI w
    · obtain ⟨k, hk, rfl⟩ := ix_of hw8 h0 h1
      simp only [h0, h1, kb, i10, if_true, if_false]
      rcases wi_cases p2 0 4 with ⟨h2, h3⟩ | ⟨h2, h3, h4⟩
      · simp only [h2, kb, if_true]
        exact ⟨_, _, rfl, rfl, rfl, hup⟩
      · simp only [h2, kb, i10, if_false]
        unfold fX2_isOf
        rw [kindOf_s hw8 hk, tri0, kld_nI (by omega) (by omega), kb, kb, (hh k hk).1]
        by_cases c0 : p2 = 0
        · simp only [c0, kb, i10, if_true, if_false]
          exact ⟨_, _, rfl, rfl, rfl, hup⟩
        · by_cases c1 : p2 = t_rows (3 * k)
          · simp only [c0, if_false]
            simp only [if_pos c1, kb, i10, if_false]
            exact ⟨_, _, rfl, rfl, rfl, hup⟩
          · simp only [c0, c1, if_false]
            by_cases c2 : p2 = 1
            · by_cases c3 : t_rows (3 * k) = 4
              · simp only [if_pos c2, if_pos c3, kb, i10, if_false]
                exact ⟨_, _, rfl, rfl, rfl, hup⟩
              · simp only [if_pos c2, if_neg c3, kb, if_true]
                exact ⟨_, _, rfl, rfl, rfl, hup⟩
            · simp only [if_neg c2, kb, if_true]
              exact ⟨_, _, rfl, rfl, rfl, hup⟩
    · simp only [h0, h1, kb, if_true, if_false]
      exact ⟨_, _, rfl, rfl, rfl, hup⟩
set_option maxHeartbeats 2000000 in
theorem T_clap {N : Nat} {s_isKept : Int32} {s_hallsRead : Int32} {s_turnedDone : Int32} {s_beganDone : Int32} {s_page_length : Int32} {s_page_codes : (Nat → Int32)} {s_room_rows : Int32} {s_room_late : Int32} {s_room_kinds : (Nat → Int32)} {s_room_palms : (Nat → Int32)} {s_room_strengths : (Nat → Int32)} {s_night_recorded : Int32} {s_night_barsGone : Int32} {s_night_beatsLeftOut : Int32} {s_night_crowd_armRows : Int32} {s_night_crowd_sounds : (Nat → Int32)} {s_night_crowd_clapped : (Nat → Int32)} {s_night_rightBehindBar : (Nat → Int32)} {s_kept_recorded : Int32} {s_kept_barsGone : Int32} {s_kept_beatsLeftOut : Int32} {s_kept_crowd_armRows : Int32} {s_kept_crowd_sounds : (Nat → Int32)} {s_kept_crowd_clapped : (Nat → Int32)} {s_kept_rightBehindBar : (Nat → Int32)} {t_pageMany : Int32} {t_many : Int32} {t_late : Int32} {t_armNow : Int32} {t_barNow : Int32} {t_skips : Int32} {t_hallsRead : Int32} {t_turnedMany : Int32} {t_recordMany : Int32} {t_beganMany : Int32} {t_keptHall : Int32} {t_keptArm : Int32} {t_keptBar : Int32} {t_keptSkips : Int32} {t_keptRecordMany : Int32} {t_page : (Nat → Int32)} {t_rows : (Nat → Int32)} {t_sounds : (Nat → Int32)} {t_clapped : (Nat → Int32)} {t_records : (Nat → Int32)} {t_keptSounds : (Nat → Int32)} {t_keptClapped : (Nat → Int32)} {t_keptRecords : (Nat → Int32)} (t_now : (Nat → Int32)) (t_nowLong : (Nat → Int32)) (t_nowArm : Int32) (p1 : Int32) (p2 : Int32) (h : Rel N s_isKept s_hallsRead s_turnedDone s_beganDone s_page_length s_page_codes s_room_rows s_room_late s_room_kinds s_room_palms s_room_strengths s_night_recorded s_night_barsGone s_night_beatsLeftOut s_night_crowd_armRows s_night_crowd_sounds s_night_crowd_clapped s_night_rightBehindBar s_kept_recorded s_kept_barsGone s_kept_beatsLeftOut s_kept_crowd_armRows s_kept_crowd_sounds s_kept_crowd_clapped s_kept_rightBehindBar t_pageMany t_many t_late t_armNow t_barNow t_skips t_hallsRead t_turnedMany t_recordMany t_beganMany t_keptHall t_keptArm t_keptBar t_keptSkips t_keptRecordMany t_page t_rows t_sounds t_clapped t_records t_keptSounds t_keptClapped t_keptRecords) : ∃ (r : (Int32 × (Nat → Int32) × (Nat → Int32))) (r' : (Int32 × Int32 × (Nat → Int32) × (Nat → Int32) × (Nat → Int32) × (Nat → Int32))), fX5_clap s_room_rows s_room_late s_night_crowd_sounds s_night_crowd_clapped p1 p2 = some r ∧ fX6_clap t_many t_late t_armNow t_sounds t_clapped t_now t_nowLong t_nowArm p1 p2 = some r' ∧ r.1 = r'.1 ∧ Rel (N + 1) s_isKept s_hallsRead s_turnedDone s_beganDone s_page_length s_page_codes s_room_rows s_room_late s_room_kinds s_room_palms s_room_strengths s_night_recorded s_night_barsGone s_night_beatsLeftOut s_night_crowd_armRows r.2.1 r.2.2 s_night_rightBehindBar s_kept_recorded s_kept_barsGone s_kept_beatsLeftOut s_kept_crowd_armRows s_kept_crowd_sounds s_kept_crowd_clapped s_kept_rightBehindBar t_pageMany t_many t_late t_armNow t_barNow t_skips t_hallsRead t_turnedMany t_recordMany t_beganMany t_keptHall t_keptArm t_keptBar t_keptSkips t_keptRecordMany t_page t_rows r'.2.2.1 r'.2.2.2.1 t_records t_keptSounds t_keptClapped t_keptRecords := by
  obtain ⟨w, hr, hPg, hH, hNt, hCn, hTu, hBe, hKp⟩ := h
  have hup : Rel (N + 1) _ _ _ _ _ _ _ _ _ _ _ _ _ _ _ _ _ _ _ _ _ _ _ _ _ _ _ _ _ _ _ _ _ _ _ _ _ _ _ _ _ _ _ _ _ _ _ _ := ⟨w, hr, hPg, hH, hNt, ⟨by omega, hCn.2⟩, hTu, hBe, hKp⟩
  obtain ⟨hw, rfl, rfl, rfl, ⟨t, ht, rfl⟩, hh⟩ := id hH
  obtain ⟨hRec, hb, hs, harm, hcr⟩ := hNt
  have hw8 : w ≤ 8 := by omega
  have e : fX6_in (Int32.toInt64 p2) (0 : Int64) (3 : Int64) = fX5_within p2 0 3 := in_eq p2 0 3
  unfold fX5_clap fX6_clap
  rw [has_C hw8, row_spec hw8, e]
  by_cases h0 : p1 < 0
  · simp only [h0, kb, if_true]
    exact ⟨_, _, rfl, rfl, rfl, hup⟩
  · by_cases h1 : p1 < nI w
    · obtain ⟨k, hk, rfl⟩ := ix_of hw8 h0 h1
      have hk8 : k < 8 := by omega
      simp only [h0, h1, kb, i10, if_true, if_false]
      rcases wi_cases p2 0 3 with ⟨h2, h3⟩ | ⟨h2, h3, h4⟩
      · simp only [h2, kb, if_true]
        exact ⟨_, _, rfl, rfl, rfl, hup⟩
      · simp only [h2, kb, i10, if_false, soundOf_s hk8, heard_C ht, byLag_M ht, let_C _ _ hk8, kld_nI (f := t_sounds) hk8 (show 8 < 2 ^ 31 by omega), asIs_M, makes_M _ _ hk8, lay_M]
        refine ⟨_, _, rfl, rfl, by rw [(hcr k hk).1], w, hr, hPg, hH, ⟨hRec, hb, hs, harm, fun j hj => ?_⟩, ⟨by omega, hCn.2⟩, hTu, hBe, hKp⟩
        dsimp only
        rw [fill_in (by omega), fill_in (by omega)]
        have hc := hcr j hj
        by_cases hjk : j = k
        · subst hjk
          by_cases q : hdS (nI t) (nI j) p2 = 0
          · rw [if_pos q, if_pos q, pk_us, pk_us, pk_us, pk_us]; exact ⟨rfl, rfl⟩
          · rw [if_neg q, if_neg q, pk_us, pk_us, fill_in (by omega)]; exact ⟨rfl, hc.2⟩
        · by_cases q : hdS (nI t) (nI k) p2 = 0
          · rw [if_pos q, if_pos q, pk_un hjk, pk_un hjk, pk_un hjk, pk_un hjk, fill_in (by omega), fill_in (by omega)]; exact hc
          · rw [if_neg q, if_neg q, pk_un hjk, pk_un hjk, fill_in (by omega), fill_in (by omega)]; exact hc
    · simp only [h0, h1, kb, if_true, if_false]
      exact ⟨_, _, rfl, rfl, rfl, hup⟩
set_option maxHeartbeats 2000000 in
theorem T_arm {N : Nat} {s_isKept : Int32} {s_hallsRead : Int32} {s_turnedDone : Int32} {s_beganDone : Int32} {s_page_length : Int32} {s_page_codes : (Nat → Int32)} {s_room_rows : Int32} {s_room_late : Int32} {s_room_kinds : (Nat → Int32)} {s_room_palms : (Nat → Int32)} {s_room_strengths : (Nat → Int32)} {s_night_recorded : Int32} {s_night_barsGone : Int32} {s_night_beatsLeftOut : Int32} {s_night_crowd_armRows : Int32} {s_night_crowd_sounds : (Nat → Int32)} {s_night_crowd_clapped : (Nat → Int32)} {s_night_rightBehindBar : (Nat → Int32)} {s_kept_recorded : Int32} {s_kept_barsGone : Int32} {s_kept_beatsLeftOut : Int32} {s_kept_crowd_armRows : Int32} {s_kept_crowd_sounds : (Nat → Int32)} {s_kept_crowd_clapped : (Nat → Int32)} {s_kept_rightBehindBar : (Nat → Int32)} {t_pageMany : Int32} {t_many : Int32} {t_late : Int32} {t_armNow : Int32} {t_barNow : Int32} {t_skips : Int32} {t_hallsRead : Int32} {t_turnedMany : Int32} {t_recordMany : Int32} {t_beganMany : Int32} {t_keptHall : Int32} {t_keptArm : Int32} {t_keptBar : Int32} {t_keptSkips : Int32} {t_keptRecordMany : Int32} {t_page : (Nat → Int32)} {t_rows : (Nat → Int32)} {t_sounds : (Nat → Int32)} {t_clapped : (Nat → Int32)} {t_records : (Nat → Int32)} {t_keptSounds : (Nat → Int32)} {t_keptClapped : (Nat → Int32)} {t_keptRecords : (Nat → Int32)} (p1 : Int32) (h : Rel N s_isKept s_hallsRead s_turnedDone s_beganDone s_page_length s_page_codes s_room_rows s_room_late s_room_kinds s_room_palms s_room_strengths s_night_recorded s_night_barsGone s_night_beatsLeftOut s_night_crowd_armRows s_night_crowd_sounds s_night_crowd_clapped s_night_rightBehindBar s_kept_recorded s_kept_barsGone s_kept_beatsLeftOut s_kept_crowd_armRows s_kept_crowd_sounds s_kept_crowd_clapped s_kept_rightBehindBar t_pageMany t_many t_late t_armNow t_barNow t_skips t_hallsRead t_turnedMany t_recordMany t_beganMany t_keptHall t_keptArm t_keptBar t_keptSkips t_keptRecordMany t_page t_rows t_sounds t_clapped t_records t_keptSounds t_keptClapped t_keptRecords) : ∃ (r : (Int32 × Int32)) (r' : (Int32 × Int32)), fX5_arm s_room_rows s_night_crowd_armRows p1 = some r ∧ fX6_arm t_many t_armNow p1 = some r' ∧ r.1 = r'.1 ∧ Rel (N + 1) s_isKept s_hallsRead s_turnedDone s_beganDone s_page_length s_page_codes s_room_rows s_room_late s_room_kinds s_room_palms s_room_strengths s_night_recorded s_night_barsGone s_night_beatsLeftOut r.2 s_night_crowd_sounds s_night_crowd_clapped s_night_rightBehindBar s_kept_recorded s_kept_barsGone s_kept_beatsLeftOut s_kept_crowd_armRows s_kept_crowd_sounds s_kept_crowd_clapped s_kept_rightBehindBar t_pageMany t_many t_late r'.2 t_barNow t_skips t_hallsRead t_turnedMany t_recordMany t_beganMany t_keptHall t_keptArm t_keptBar t_keptSkips t_keptRecordMany t_page t_rows t_sounds t_clapped t_records t_keptSounds t_keptClapped t_keptRecords := by
  obtain ⟨w, hr, hPg, hH, hNt, hCn, hTu, hBe, hKp⟩ := h
  obtain ⟨hw, rfl, rfl, -⟩ := id hH
  obtain ⟨hRec, hb, hs, harm, hcr⟩ := hNt
  have e : fX6_in (Int32.toInt64 p1) (0 : Int64) (8 : Int64) = fX5_within p1 0 8 := in_eq p1 0 8
  unfold fX5_arm fX6_arm
  rw [e, there_C (by omega), lacks_M (by omega)]
  rcases wi_cases p1 0 8 with ⟨h1, -⟩ | ⟨h1, -, -⟩
  · simp only [h1, kb, if_true]
    exact ⟨_, _, rfl, rfl, rfl, w, hr, hPg, hH, ⟨hRec, hb, hs, harm, hcr⟩, ⟨by omega, hCn.2⟩, hTu, hBe, hKp⟩
  · by_cases h0 : w = 0
    · simp only [h1, kb, i10, h0, if_true, if_false]
      subst h0
      exact ⟨_, _, rfl, rfl, rfl, 0, hr, hPg, hH, ⟨hRec, hb, hs, harm, hcr⟩, ⟨by omega, hCn.2⟩, hTu, hBe, hKp⟩
    · simp only [h1, kb, i10, h0, if_true, if_false]
      exact ⟨_, _, rfl, rfl, harm, w, hr, hPg, hH, ⟨hRec, hb, hs, rfl, hcr⟩, ⟨by omega, hCn.2⟩, hTu, hBe, hKp⟩
set_option maxHeartbeats 2000000 in
theorem T_bar {N : Nat} {s_isKept : Int32} {s_hallsRead : Int32} {s_turnedDone : Int32} {s_beganDone : Int32} {s_page_length : Int32} {s_page_codes : (Nat → Int32)} {s_room_rows : Int32} {s_room_late : Int32} {s_room_kinds : (Nat → Int32)} {s_room_palms : (Nat → Int32)} {s_room_strengths : (Nat → Int32)} {s_night_recorded : Int32} {s_night_barsGone : Int32} {s_night_beatsLeftOut : Int32} {s_night_crowd_armRows : Int32} {s_night_crowd_sounds : (Nat → Int32)} {s_night_crowd_clapped : (Nat → Int32)} {s_night_rightBehindBar : (Nat → Int32)} {s_kept_recorded : Int32} {s_kept_barsGone : Int32} {s_kept_beatsLeftOut : Int32} {s_kept_crowd_armRows : Int32} {s_kept_crowd_sounds : (Nat → Int32)} {s_kept_crowd_clapped : (Nat → Int32)} {s_kept_rightBehindBar : (Nat → Int32)} {t_pageMany : Int32} {t_many : Int32} {t_late : Int32} {t_armNow : Int32} {t_barNow : Int32} {t_skips : Int32} {t_hallsRead : Int32} {t_turnedMany : Int32} {t_recordMany : Int32} {t_beganMany : Int32} {t_keptHall : Int32} {t_keptArm : Int32} {t_keptBar : Int32} {t_keptSkips : Int32} {t_keptRecordMany : Int32} {t_page : (Nat → Int32)} {t_rows : (Nat → Int32)} {t_sounds : (Nat → Int32)} {t_clapped : (Nat → Int32)} {t_records : (Nat → Int32)} {t_keptSounds : (Nat → Int32)} {t_keptClapped : (Nat → Int32)} {t_keptRecords : (Nat → Int32)} (s_night_crowd_next : (Nat → Int32)) (t_now : (Nat → Int32)) (t_nowLong : (Nat → Int32)) (t_ahead : (Nat → Int32)) (t_nowArm : Int32) (h : Rel N s_isKept s_hallsRead s_turnedDone s_beganDone s_page_length s_page_codes s_room_rows s_room_late s_room_kinds s_room_palms s_room_strengths s_night_recorded s_night_barsGone s_night_beatsLeftOut s_night_crowd_armRows s_night_crowd_sounds s_night_crowd_clapped s_night_rightBehindBar s_kept_recorded s_kept_barsGone s_kept_beatsLeftOut s_kept_crowd_armRows s_kept_crowd_sounds s_kept_crowd_clapped s_kept_rightBehindBar t_pageMany t_many t_late t_armNow t_barNow t_skips t_hallsRead t_turnedMany t_recordMany t_beganMany t_keptHall t_keptArm t_keptBar t_keptSkips t_keptRecordMany t_page t_rows t_sounds t_clapped t_records t_keptSounds t_keptClapped t_keptRecords) : ∃ (r : (Int32 × Int32 × (Nat → Int32) × (Nat → Int32) × (Nat → Int32))) (r' : (Int32 × Int32 × Int32 × (Nat → Int32) × (Nat → Int32) × (Nat → Int32) × (Nat → Int32) × (Nat → Int32))), fX5_bar s_room_kinds s_room_palms s_room_strengths s_room_rows s_night_crowd_sounds s_night_crowd_clapped s_night_crowd_next s_night_crowd_armRows s_night_barsGone = some r ∧ fX6_bar t_many t_armNow t_barNow t_rows t_sounds t_clapped t_now t_nowLong t_ahead t_nowArm = some r' ∧ r.1 = r'.1 ∧ Rel (N + 1) s_isKept s_hallsRead s_turnedDone s_beganDone s_page_length s_page_codes s_room_rows s_room_late s_room_kinds s_room_palms s_room_strengths s_night_recorded r.2.1 s_night_beatsLeftOut s_night_crowd_armRows r.2.2.1 r.2.2.2.1 s_night_rightBehindBar s_kept_recorded s_kept_barsGone s_kept_beatsLeftOut s_kept_crowd_armRows s_kept_crowd_sounds s_kept_crowd_clapped s_kept_rightBehindBar t_pageMany t_many t_late t_armNow r'.2.1 t_skips t_hallsRead t_turnedMany t_recordMany t_beganMany t_keptHall t_keptArm t_keptBar t_keptSkips t_keptRecordMany t_page t_rows r'.2.2.2.1 r'.2.2.2.2.1 t_records t_keptSounds t_keptClapped t_keptRecords := by
  obtain ⟨w, hr, hPg, hH, hNt, hCn, hTu, hBe, hKp⟩ := h
  obtain ⟨hw, rfl, rfl, he, ht, hh⟩ := id hH
  obtain ⟨hRec, hb, hs, harm, hcr⟩ := hNt
  have hw8 : w ≤ 8 := by omega
  unfold fX5_bar fX6_bar
  rw [there_C hw8, lacks_M hw8, kb, kb]
  by_cases h0 : w = 0
  · rw [if_pos h0, if_pos h0, if_pos rfl, if_neg i10]
    exact ⟨_, _, rfl, rfl, rfl, w, hr, hPg, hH, ⟨hRec, hb, hs, harm, hcr⟩, ⟨by omega, hCn.2⟩, hTu, hBe, hKp⟩
  · rw [if_neg h0, if_neg h0, if_neg i10, if_pos rfl, asIs_M, kb]
    subst harm
    obtain ⟨ch, sn1, cl1, nt1, now1, nl1, ah1, g1, g2, g3, -⟩ := go_pass (nt := s_night_crowd_next) (ah := t_ahead) hw8 s_night_crowd_armRows hh (SR_fillR (c := t_now) (d := t_nowLong) hw8 hcr)
    obtain ⟨v, v1, v2⟩ := right_sim hw8 hh g3
    rw [g1, kb, g2, kb, lay_M, kb, v1, kb, v2, kb]
    exact ⟨_, _, rfl, rfl, rfl, w, hr, hPg, hH, ⟨hRec, by rw [hb], hs, rfl, SR_fillR hw8 g3⟩, ⟨by omega, hCn.2⟩, hTu, hBe, hKp⟩
set_option maxHeartbeats 2000000 in
theorem T_skip {N : Nat} {s_isKept : Int32} {s_hallsRead : Int32} {s_turnedDone : Int32} {s_beganDone : Int32} {s_page_length : Int32} {s_page_codes : (Nat → Int32)} {s_room_rows : Int32} {s_room_late : Int32} {s_room_kinds : (Nat → Int32)} {s_room_palms : (Nat → Int32)} {s_room_strengths : (Nat → Int32)} {s_night_recorded : Int32} {s_night_barsGone : Int32} {s_night_beatsLeftOut : Int32} {s_night_crowd_armRows : Int32} {s_night_crowd_sounds : (Nat → Int32)} {s_night_crowd_clapped : (Nat → Int32)} {s_night_rightBehindBar : (Nat → Int32)} {s_kept_recorded : Int32} {s_kept_barsGone : Int32} {s_kept_beatsLeftOut : Int32} {s_kept_crowd_armRows : Int32} {s_kept_crowd_sounds : (Nat → Int32)} {s_kept_crowd_clapped : (Nat → Int32)} {s_kept_rightBehindBar : (Nat → Int32)} {t_pageMany : Int32} {t_many : Int32} {t_late : Int32} {t_armNow : Int32} {t_barNow : Int32} {t_skips : Int32} {t_hallsRead : Int32} {t_turnedMany : Int32} {t_recordMany : Int32} {t_beganMany : Int32} {t_keptHall : Int32} {t_keptArm : Int32} {t_keptBar : Int32} {t_keptSkips : Int32} {t_keptRecordMany : Int32} {t_page : (Nat → Int32)} {t_rows : (Nat → Int32)} {t_sounds : (Nat → Int32)} {t_clapped : (Nat → Int32)} {t_records : (Nat → Int32)} {t_keptSounds : (Nat → Int32)} {t_keptClapped : (Nat → Int32)} {t_keptRecords : (Nat → Int32)} (t_now : (Nat → Int32)) (t_nowLong : (Nat → Int32)) (t_nowArm : Int32) (h : Rel N s_isKept s_hallsRead s_turnedDone s_beganDone s_page_length s_page_codes s_room_rows s_room_late s_room_kinds s_room_palms s_room_strengths s_night_recorded s_night_barsGone s_night_beatsLeftOut s_night_crowd_armRows s_night_crowd_sounds s_night_crowd_clapped s_night_rightBehindBar s_kept_recorded s_kept_barsGone s_kept_beatsLeftOut s_kept_crowd_armRows s_kept_crowd_sounds s_kept_crowd_clapped s_kept_rightBehindBar t_pageMany t_many t_late t_armNow t_barNow t_skips t_hallsRead t_turnedMany t_recordMany t_beganMany t_keptHall t_keptArm t_keptBar t_keptSkips t_keptRecordMany t_page t_rows t_sounds t_clapped t_records t_keptSounds t_keptClapped t_keptRecords) : ∃ (r : (Int32 × Int32 × (Nat → Int32))) (r' : (Int32 × Int32 × Int32 × (Nat → Int32) × (Nat → Int32) × (Nat → Int32) × (Nat → Int32))), fX5_skip s_room_kinds s_room_palms s_room_rows s_night_crowd_sounds s_night_beatsLeftOut = some r ∧ fX6_skip t_many t_armNow t_skips t_rows t_sounds t_clapped t_now t_nowLong t_nowArm = some r' ∧ r.1 = r'.1 ∧ Rel (N + 1) s_isKept s_hallsRead s_turnedDone s_beganDone s_page_length s_page_codes s_room_rows s_room_late s_room_kinds s_room_palms s_room_strengths s_night_recorded s_night_barsGone r.2.1 s_night_crowd_armRows r.2.2 s_night_crowd_clapped s_night_rightBehindBar s_kept_recorded s_kept_barsGone s_kept_beatsLeftOut s_kept_crowd_armRows s_kept_crowd_sounds s_kept_crowd_clapped s_kept_rightBehindBar t_pageMany t_many t_late t_armNow t_barNow r'.2.1 t_hallsRead t_turnedMany t_recordMany t_beganMany t_keptHall t_keptArm t_keptBar t_keptSkips t_keptRecordMany t_page t_rows r'.2.2.2.1 r'.2.2.2.2.1 t_records t_keptSounds t_keptClapped t_keptRecords := by
  obtain ⟨w, hr, hPg, hH, hNt, hCn, hTu, hBe, hKp⟩ := h
  obtain ⟨hw, rfl, rfl, he, ht, hh⟩ := id hH
  obtain ⟨hRec, hb, hs, harm, hcr⟩ := hNt
  have hw8 : w ≤ 8 := by omega
  unfold fX5_skip fX6_skip
  rw [there_C hw8, lacks_M hw8, kb, kb]
  by_cases h0 : w = 0
  · rw [if_pos h0, if_pos h0, if_pos rfl, if_neg i10]
    exact ⟨_, _, rfl, rfl, rfl, w, hr, hPg, hH, ⟨hRec, hb, hs, harm, hcr⟩, ⟨by omega, hCn.2⟩, hTu, hBe, hKp⟩
  · rw [if_neg h0, if_neg h0, if_neg i10, if_pos rfl, asIs_M, kb]
    obtain ⟨sn1, now1, g1, g2, g3⟩ := leave_sim hw8 hh (SR_fillR (c := t_now) (d := t_nowLong) hw8 hcr)
    obtain ⟨v, v1, v2⟩ := right_sim hw8 hh g3
    rw [g1, kb, g2, kb, lay_M, kb, v1, kb, v2, kb]
    exact ⟨_, _, rfl, rfl, rfl, w, hr, hPg, hH, ⟨hRec, hb, by rw [hs], harm, SR_fillR hw8 g3⟩, ⟨by omega, hCn.2⟩, hTu, hBe, hKp⟩
set_option maxHeartbeats 2000000 in
theorem T_loud {N : Nat} {s_isKept : Int32} {s_hallsRead : Int32} {s_turnedDone : Int32} {s_beganDone : Int32} {s_page_length : Int32} {s_page_codes : (Nat → Int32)} {s_room_rows : Int32} {s_room_late : Int32} {s_room_kinds : (Nat → Int32)} {s_room_palms : (Nat → Int32)} {s_room_strengths : (Nat → Int32)} {s_night_recorded : Int32} {s_night_barsGone : Int32} {s_night_beatsLeftOut : Int32} {s_night_crowd_armRows : Int32} {s_night_crowd_sounds : (Nat → Int32)} {s_night_crowd_clapped : (Nat → Int32)} {s_night_rightBehindBar : (Nat → Int32)} {s_kept_recorded : Int32} {s_kept_barsGone : Int32} {s_kept_beatsLeftOut : Int32} {s_kept_crowd_armRows : Int32} {s_kept_crowd_sounds : (Nat → Int32)} {s_kept_crowd_clapped : (Nat → Int32)} {s_kept_rightBehindBar : (Nat → Int32)} {t_pageMany : Int32} {t_many : Int32} {t_late : Int32} {t_armNow : Int32} {t_barNow : Int32} {t_skips : Int32} {t_hallsRead : Int32} {t_turnedMany : Int32} {t_recordMany : Int32} {t_beganMany : Int32} {t_keptHall : Int32} {t_keptArm : Int32} {t_keptBar : Int32} {t_keptSkips : Int32} {t_keptRecordMany : Int32} {t_page : (Nat → Int32)} {t_rows : (Nat → Int32)} {t_sounds : (Nat → Int32)} {t_clapped : (Nat → Int32)} {t_records : (Nat → Int32)} {t_keptSounds : (Nat → Int32)} {t_keptClapped : (Nat → Int32)} {t_keptRecords : (Nat → Int32)} (p1 : Int32) (p2 : Int32) (h : Rel N s_isKept s_hallsRead s_turnedDone s_beganDone s_page_length s_page_codes s_room_rows s_room_late s_room_kinds s_room_palms s_room_strengths s_night_recorded s_night_barsGone s_night_beatsLeftOut s_night_crowd_armRows s_night_crowd_sounds s_night_crowd_clapped s_night_rightBehindBar s_kept_recorded s_kept_barsGone s_kept_beatsLeftOut s_kept_crowd_armRows s_kept_crowd_sounds s_kept_crowd_clapped s_kept_rightBehindBar t_pageMany t_many t_late t_armNow t_barNow t_skips t_hallsRead t_turnedMany t_recordMany t_beganMany t_keptHall t_keptArm t_keptBar t_keptSkips t_keptRecordMany t_page t_rows t_sounds t_clapped t_records t_keptSounds t_keptClapped t_keptRecords) : ∃ (r : Int32) (r' : Int32), fX5_loud s_room_palms s_room_rows s_night_crowd_sounds p1 p2 = some r ∧ fX6_loud t_many t_rows t_sounds p1 p2 = some r' ∧ r = r' ∧ Rel (N + 1) s_isKept s_hallsRead s_turnedDone s_beganDone s_page_length s_page_codes s_room_rows s_room_late s_room_kinds s_room_palms s_room_strengths s_night_recorded s_night_barsGone s_night_beatsLeftOut s_night_crowd_armRows s_night_crowd_sounds s_night_crowd_clapped s_night_rightBehindBar s_kept_recorded s_kept_barsGone s_kept_beatsLeftOut s_kept_crowd_armRows s_kept_crowd_sounds s_kept_crowd_clapped s_kept_rightBehindBar t_pageMany t_many t_late t_armNow t_barNow t_skips t_hallsRead t_turnedMany t_recordMany t_beganMany t_keptHall t_keptArm t_keptBar t_keptSkips t_keptRecordMany t_page t_rows t_sounds t_clapped t_records t_keptSounds t_keptClapped t_keptRecords := by
  obtain ⟨w, hr, hPg, hH, hNt, hCn, hTu, hBe, hKp⟩ := h
  have hup : Rel (N + 1) _ _ _ _ _ _ _ _ _ _ _ _ _ _ _ _ _ _ _ _ _ _ _ _ _ _ _ _ _ _ _ _ _ _ _ _ _ _ _ _ _ _ _ _ _ _ _ _ := ⟨w, hr, hPg, hH, hNt, ⟨by omega, hCn.2⟩, hTu, hBe, hKp⟩
  obtain ⟨hw, rfl, rfl, he, hlt, hh⟩ := id hH
  obtain ⟨hRec, hb, hs, harm, hcr⟩ := hNt
  have hw8 : w ≤ 8 := by omega
  have e : fX6_in (Int32.toInt64 p2) (0 : Int64) (3 : Int64) = fX5_within p2 0 3 := in_eq p2 0 3
  unfold fX5_loud fX6_loud
  rw [has_C hw8, row_spec hw8, e]
  by_cases h0 : p1 < 0
  · simp only [h0, kb, if_true]
    exact ⟨_, _, rfl, rfl, rfl, hup⟩
  · by_cases h1 : p1 < nI w
    · obtain ⟨k, hk, rfl⟩ := ix_of hw8 h0 h1
      simp only [h0, h1, kb, i10, if_true, if_false]
      rcases wi_cases p2 0 3 with ⟨h2, h3⟩ | ⟨h2, h3, h4⟩
      · simp only [h2, kb, if_true]
        exact ⟨_, _, rfl, rfl, rfl, hup⟩
      · obtain ⟨v, v1, v2⟩ := loud_sim hw8 hk hh hcr h3 (by rw [Int32.le_iff_toInt_le]; rw [Int32.lt_iff_toInt_lt] at h4; omega)
        simp only [h2, kb, i10, if_false, v1, v2]
        exact ⟨_, _, rfl, rfl, rfl, hup⟩
    · simp only [h0, h1, kb, if_true, if_false]
      exact ⟨_, _, rfl, rfl, rfl, hup⟩
set_option maxHeartbeats 2000000 in
theorem T_rest {N : Nat} {s_isKept : Int32} {s_hallsRead : Int32} {s_turnedDone : Int32} {s_beganDone : Int32} {s_page_length : Int32} {s_page_codes : (Nat → Int32)} {s_room_rows : Int32} {s_room_late : Int32} {s_room_kinds : (Nat → Int32)} {s_room_palms : (Nat → Int32)} {s_room_strengths : (Nat → Int32)} {s_night_recorded : Int32} {s_night_barsGone : Int32} {s_night_beatsLeftOut : Int32} {s_night_crowd_armRows : Int32} {s_night_crowd_sounds : (Nat → Int32)} {s_night_crowd_clapped : (Nat → Int32)} {s_night_rightBehindBar : (Nat → Int32)} {s_kept_recorded : Int32} {s_kept_barsGone : Int32} {s_kept_beatsLeftOut : Int32} {s_kept_crowd_armRows : Int32} {s_kept_crowd_sounds : (Nat → Int32)} {s_kept_crowd_clapped : (Nat → Int32)} {s_kept_rightBehindBar : (Nat → Int32)} {t_pageMany : Int32} {t_many : Int32} {t_late : Int32} {t_armNow : Int32} {t_barNow : Int32} {t_skips : Int32} {t_hallsRead : Int32} {t_turnedMany : Int32} {t_recordMany : Int32} {t_beganMany : Int32} {t_keptHall : Int32} {t_keptArm : Int32} {t_keptBar : Int32} {t_keptSkips : Int32} {t_keptRecordMany : Int32} {t_page : (Nat → Int32)} {t_rows : (Nat → Int32)} {t_sounds : (Nat → Int32)} {t_clapped : (Nat → Int32)} {t_records : (Nat → Int32)} {t_keptSounds : (Nat → Int32)} {t_keptClapped : (Nat → Int32)} {t_keptRecords : (Nat → Int32)} (s_trial_sounds : (Nat → Int32)) (s_trial_clapped : (Nat → Int32)) (s_trial_next : (Nat → Int32)) (s_trial_armRows : Int32) (t_now : (Nat → Int32)) (t_nowLong : (Nat → Int32)) (t_ahead : (Nat → Int32)) (t_nowArm : Int32) (h : Rel N s_isKept s_hallsRead s_turnedDone s_beganDone s_page_length s_page_codes s_room_rows s_room_late s_room_kinds s_room_palms s_room_strengths s_night_recorded s_night_barsGone s_night_beatsLeftOut s_night_crowd_armRows s_night_crowd_sounds s_night_crowd_clapped s_night_rightBehindBar s_kept_recorded s_kept_barsGone s_kept_beatsLeftOut s_kept_crowd_armRows s_kept_crowd_sounds s_kept_crowd_clapped s_kept_rightBehindBar t_pageMany t_many t_late t_armNow t_barNow t_skips t_hallsRead t_turnedMany t_recordMany t_beganMany t_keptHall t_keptArm t_keptBar t_keptSkips t_keptRecordMany t_page t_rows t_sounds t_clapped t_records t_keptSounds t_keptClapped t_keptRecords) : ∃ (r : (Int32 × Int32 × (Nat → Int32) × (Nat → Int32) × (Nat → Int32))) (r' : (Int32 × Int32 × (Nat → Int32) × (Nat → Int32) × (Nat → Int32))), fX5_rest s_room_kinds s_room_palms s_room_strengths s_room_rows s_night_crowd_sounds s_night_crowd_clapped s_night_crowd_armRows s_trial_sounds s_trial_clapped s_trial_next s_trial_armRows = some r ∧ fX6_rest t_many t_armNow t_rows t_sounds t_clapped t_now t_nowLong t_ahead t_nowArm = some r' ∧ r.1 = r'.1 ∧ Rel (N + 1) s_isKept s_hallsRead s_turnedDone s_beganDone s_page_length s_page_codes s_room_rows s_room_late s_room_kinds s_room_palms s_room_strengths s_night_recorded s_night_barsGone s_night_beatsLeftOut s_night_crowd_armRows s_night_crowd_sounds s_night_crowd_clapped s_night_rightBehindBar s_kept_recorded s_kept_barsGone s_kept_beatsLeftOut s_kept_crowd_armRows s_kept_crowd_sounds s_kept_crowd_clapped s_kept_rightBehindBar t_pageMany t_many t_late t_armNow t_barNow t_skips t_hallsRead t_turnedMany t_recordMany t_beganMany t_keptHall t_keptArm t_keptBar t_keptSkips t_keptRecordMany t_page t_rows t_sounds t_clapped t_records t_keptSounds t_keptClapped t_keptRecords := by
  obtain ⟨w, hr, hPg, hH, hNt, hCn, hTu, hBe, hKp⟩ := h
  have hup : Rel (N + 1) _ _ _ _ _ _ _ _ _ _ _ _ _ _ _ _ _ _ _ _ _ _ _ _ _ _ _ _ _ _ _ _ _ _ _ _ _ _ _ _ _ _ _ _ _ _ _ _ := ⟨w, hr, hPg, hH, hNt, ⟨by omega, hCn.2⟩, hTu, hBe, hKp⟩
  obtain ⟨hw, rfl, rfl, he, hlt, hh⟩ := id hH
  obtain ⟨hRec, hb, hs, rfl, hcr⟩ := hNt
  have hw8 : w ≤ 8 := by omega
  unfold fX5_rest fX6_rest
  rw [there_C hw8, lacks_M hw8]
  by_cases h0 : w = 0
  · simp only [kb, i10, h0, if_true, if_false]
    subst h0
    exact ⟨_, _, rfl, rfl, rfl, hup⟩
  · obtain ⟨r, r', a, b, c⟩ := rest_sim hw8 s_night_crowd_armRows hh hcr s_trial_sounds s_trial_clapped s_trial_next t_now t_nowLong t_ahead
    simp only [kb, i10, h0, if_true, if_false, a, b]
    exact ⟨_, _, rfl, rfl, c, hup⟩
set_option maxHeartbeats 2000000 in
theorem T_outcome {N : Nat} {s_isKept : Int32} {s_hallsRead : Int32} {s_turnedDone : Int32} {s_beganDone : Int32} {s_page_length : Int32} {s_page_codes : (Nat → Int32)} {s_room_rows : Int32} {s_room_late : Int32} {s_room_kinds : (Nat → Int32)} {s_room_palms : (Nat → Int32)} {s_room_strengths : (Nat → Int32)} {s_night_recorded : Int32} {s_night_barsGone : Int32} {s_night_beatsLeftOut : Int32} {s_night_crowd_armRows : Int32} {s_night_crowd_sounds : (Nat → Int32)} {s_night_crowd_clapped : (Nat → Int32)} {s_night_rightBehindBar : (Nat → Int32)} {s_kept_recorded : Int32} {s_kept_barsGone : Int32} {s_kept_beatsLeftOut : Int32} {s_kept_crowd_armRows : Int32} {s_kept_crowd_sounds : (Nat → Int32)} {s_kept_crowd_clapped : (Nat → Int32)} {s_kept_rightBehindBar : (Nat → Int32)} {t_pageMany : Int32} {t_many : Int32} {t_late : Int32} {t_armNow : Int32} {t_barNow : Int32} {t_skips : Int32} {t_hallsRead : Int32} {t_turnedMany : Int32} {t_recordMany : Int32} {t_beganMany : Int32} {t_keptHall : Int32} {t_keptArm : Int32} {t_keptBar : Int32} {t_keptSkips : Int32} {t_keptRecordMany : Int32} {t_page : (Nat → Int32)} {t_rows : (Nat → Int32)} {t_sounds : (Nat → Int32)} {t_clapped : (Nat → Int32)} {t_records : (Nat → Int32)} {t_keptSounds : (Nat → Int32)} {t_keptClapped : (Nat → Int32)} {t_keptRecords : (Nat → Int32)} (s_trial_sounds : (Nat → Int32)) (s_trial_clapped : (Nat → Int32)) (s_trial_next : (Nat → Int32)) (s_trial_armRows : Int32) (t_now : (Nat → Int32)) (t_nowLong : (Nat → Int32)) (t_ahead : (Nat → Int32)) (t_nowArm : Int32) (p1 : Int32) (h : Rel N s_isKept s_hallsRead s_turnedDone s_beganDone s_page_length s_page_codes s_room_rows s_room_late s_room_kinds s_room_palms s_room_strengths s_night_recorded s_night_barsGone s_night_beatsLeftOut s_night_crowd_armRows s_night_crowd_sounds s_night_crowd_clapped s_night_rightBehindBar s_kept_recorded s_kept_barsGone s_kept_beatsLeftOut s_kept_crowd_armRows s_kept_crowd_sounds s_kept_crowd_clapped s_kept_rightBehindBar t_pageMany t_many t_late t_armNow t_barNow t_skips t_hallsRead t_turnedMany t_recordMany t_beganMany t_keptHall t_keptArm t_keptBar t_keptSkips t_keptRecordMany t_page t_rows t_sounds t_clapped t_records t_keptSounds t_keptClapped t_keptRecords) : ∃ (r : (Int32 × Int32 × (Nat → Int32) × (Nat → Int32) × (Nat → Int32))) (r' : (Int32 × Int32 × (Nat → Int32) × (Nat → Int32) × (Nat → Int32))), fX5_outcome s_room_kinds s_room_palms s_room_strengths s_room_rows s_night_crowd_sounds s_night_crowd_clapped s_night_crowd_armRows s_trial_sounds s_trial_clapped s_trial_next s_trial_armRows p1 = some r ∧ fX6_outcome t_many t_armNow t_rows t_sounds t_clapped t_now t_nowLong t_ahead t_nowArm p1 = some r' ∧ r.1 = r'.1 ∧ Rel (N + 1) s_isKept s_hallsRead s_turnedDone s_beganDone s_page_length s_page_codes s_room_rows s_room_late s_room_kinds s_room_palms s_room_strengths s_night_recorded s_night_barsGone s_night_beatsLeftOut s_night_crowd_armRows s_night_crowd_sounds s_night_crowd_clapped s_night_rightBehindBar s_kept_recorded s_kept_barsGone s_kept_beatsLeftOut s_kept_crowd_armRows s_kept_crowd_sounds s_kept_crowd_clapped s_kept_rightBehindBar t_pageMany t_many t_late t_armNow t_barNow t_skips t_hallsRead t_turnedMany t_recordMany t_beganMany t_keptHall t_keptArm t_keptBar t_keptSkips t_keptRecordMany t_page t_rows t_sounds t_clapped t_records t_keptSounds t_keptClapped t_keptRecords := by
  obtain ⟨w, hr, hPg, hH, hNt, hCn, hTu, hBe, hKp⟩ := h
  have hup : Rel (N + 1) _ _ _ _ _ _ _ _ _ _ _ _ _ _ _ _ _ _ _ _ _ _ _ _ _ _ _ _ _ _ _ _ _ _ _ _ _ _ _ _ _ _ _ _ _ _ _ _ := ⟨w, hr, hPg, hH, hNt, ⟨by omega, hCn.2⟩, hTu, hBe, hKp⟩
  obtain ⟨hw, rfl, rfl, he, hlt, hh⟩ := id hH
  obtain ⟨hRec, hb, hs, rfl, hcr⟩ := hNt
  have hw8 : w ≤ 8 := by omega
  have e : fX6_in (Int32.toInt64 p1) (0 : Int64) (30 : Int64) = fX5_within p1 0 30 := in_eq p1 0 30
  unfold fX5_outcome fX6_outcome
  rw [e, there_C hw8, lacks_M hw8]
  rcases wi_cases p1 0 30 with ⟨h1, -⟩ | ⟨h1, h2, h3⟩
  · simp only [h1, kb, if_true]
    exact ⟨_, _, rfl, rfl, rfl, hup⟩
  · by_cases h0 : w = 0
    · simp only [h1, kb, i10, h0, if_true, if_false]
      subst h0
      exact ⟨_, _, rfl, rfl, rfl, hup⟩
    · obtain ⟨n, hn, rfl⟩ := nI_of2 (M := 30) (n := 30) (by decide) h2 (by rw [Int32.le_iff_toInt_le]; rw [Int32.lt_iff_toInt_lt] at h3; omega)
      obtain ⟨v, zC, zM, a, b⟩ := outcome_sim hw8 s_night_crowd_armRows hh hcr s_trial_sounds s_trial_clapped s_trial_next t_now t_nowLong t_ahead hn
      simp only [h1, kb, i10, h0, if_true, if_false, a, b]
      exact ⟨_, _, rfl, rfl, rfl, hup⟩
set_option maxHeartbeats 2000000 in
theorem T_trick {N : Nat} {s_isKept : Int32} {s_hallsRead : Int32} {s_turnedDone : Int32} {s_beganDone : Int32} {s_page_length : Int32} {s_page_codes : (Nat → Int32)} {s_room_rows : Int32} {s_room_late : Int32} {s_room_kinds : (Nat → Int32)} {s_room_palms : (Nat → Int32)} {s_room_strengths : (Nat → Int32)} {s_night_recorded : Int32} {s_night_barsGone : Int32} {s_night_beatsLeftOut : Int32} {s_night_crowd_armRows : Int32} {s_night_crowd_sounds : (Nat → Int32)} {s_night_crowd_clapped : (Nat → Int32)} {s_night_rightBehindBar : (Nat → Int32)} {s_kept_recorded : Int32} {s_kept_barsGone : Int32} {s_kept_beatsLeftOut : Int32} {s_kept_crowd_armRows : Int32} {s_kept_crowd_sounds : (Nat → Int32)} {s_kept_crowd_clapped : (Nat → Int32)} {s_kept_rightBehindBar : (Nat → Int32)} {t_pageMany : Int32} {t_many : Int32} {t_late : Int32} {t_armNow : Int32} {t_barNow : Int32} {t_skips : Int32} {t_hallsRead : Int32} {t_turnedMany : Int32} {t_recordMany : Int32} {t_beganMany : Int32} {t_keptHall : Int32} {t_keptArm : Int32} {t_keptBar : Int32} {t_keptSkips : Int32} {t_keptRecordMany : Int32} {t_page : (Nat → Int32)} {t_rows : (Nat → Int32)} {t_sounds : (Nat → Int32)} {t_clapped : (Nat → Int32)} {t_records : (Nat → Int32)} {t_keptSounds : (Nat → Int32)} {t_keptClapped : (Nat → Int32)} {t_keptRecords : (Nat → Int32)} (s_trial_sounds : (Nat → Int32)) (s_trial_clapped : (Nat → Int32)) (s_trial_next : (Nat → Int32)) (s_trial_armRows : Int32) (t_now : (Nat → Int32)) (t_nowLong : (Nat → Int32)) (t_ahead : (Nat → Int32)) (t_nowArm : Int32) (p1 : Int32) (p2 : Int32) (h : Rel N s_isKept s_hallsRead s_turnedDone s_beganDone s_page_length s_page_codes s_room_rows s_room_late s_room_kinds s_room_palms s_room_strengths s_night_recorded s_night_barsGone s_night_beatsLeftOut s_night_crowd_armRows s_night_crowd_sounds s_night_crowd_clapped s_night_rightBehindBar s_kept_recorded s_kept_barsGone s_kept_beatsLeftOut s_kept_crowd_armRows s_kept_crowd_sounds s_kept_crowd_clapped s_kept_rightBehindBar t_pageMany t_many t_late t_armNow t_barNow t_skips t_hallsRead t_turnedMany t_recordMany t_beganMany t_keptHall t_keptArm t_keptBar t_keptSkips t_keptRecordMany t_page t_rows t_sounds t_clapped t_records t_keptSounds t_keptClapped t_keptRecords) : ∃ (r : (Int32 × Int32 × (Nat → Int32) × (Nat → Int32) × (Nat → Int32))) (r' : (Int32 × Int32 × (Nat → Int32) × (Nat → Int32) × (Nat → Int32))), fX5_trick s_room_kinds s_room_palms s_room_strengths s_room_rows s_night_crowd_sounds s_night_crowd_clapped s_night_crowd_armRows s_trial_sounds s_trial_clapped s_trial_next s_trial_armRows p1 p2 = some r ∧ fX6_trick t_many t_armNow t_rows t_sounds t_clapped t_now t_nowLong t_ahead t_nowArm p1 p2 = some r' ∧ r.1 = r'.1 ∧ Rel (N + 1) s_isKept s_hallsRead s_turnedDone s_beganDone s_page_length s_page_codes s_room_rows s_room_late s_room_kinds s_room_palms s_room_strengths s_night_recorded s_night_barsGone s_night_beatsLeftOut s_night_crowd_armRows s_night_crowd_sounds s_night_crowd_clapped s_night_rightBehindBar s_kept_recorded s_kept_barsGone s_kept_beatsLeftOut s_kept_crowd_armRows s_kept_crowd_sounds s_kept_crowd_clapped s_kept_rightBehindBar t_pageMany t_many t_late t_armNow t_barNow t_skips t_hallsRead t_turnedMany t_recordMany t_beganMany t_keptHall t_keptArm t_keptBar t_keptSkips t_keptRecordMany t_page t_rows t_sounds t_clapped t_records t_keptSounds t_keptClapped t_keptRecords := by
  obtain ⟨w, hr, hPg, hH, hNt, hCn, hTu, hBe, hKp⟩ := h
  have hup : Rel (N + 1) _ _ _ _ _ _ _ _ _ _ _ _ _ _ _ _ _ _ _ _ _ _ _ _ _ _ _ _ _ _ _ _ _ _ _ _ _ _ _ _ _ _ _ _ _ _ _ _ := ⟨w, hr, hPg, hH, hNt, ⟨by omega, hCn.2⟩, hTu, hBe, hKp⟩
  obtain ⟨hw, rfl, rfl, he, hlt, hh⟩ := id hH
  obtain ⟨hRec, hb, hs, rfl, hcr⟩ := hNt
  have hw8 : w ≤ 8 := by omega
  have e : fX6_in (Int32.toInt64 p1) (1 : Int64) (12 : Int64) = fX5_within p1 1 12 := in_eq p1 1 12
  have e2 : fX6_in (Int32.toInt64 p2) (0 : Int64) (1 : Int64) = fX5_within p2 0 1 := in_eq p2 0 1
  unfold fX5_trick fX6_trick
  rw [e, e2, there_C hw8, lacks_M hw8]
  rcases wi_cases p1 1 12 with ⟨h1, -⟩ | ⟨h1, h2, h3⟩
  · simp only [h1, kb, if_true]
    exact ⟨_, _, rfl, rfl, rfl, hup⟩
  · rcases wi_cases p2 0 1 with ⟨g1, -⟩ | ⟨g1, -, -⟩
    · simp only [h1, g1, kb, i10, if_true, if_false]
      exact ⟨_, _, rfl, rfl, rfl, hup⟩
    · by_cases h0 : w = 0
      · simp only [h1, g1, kb, i10, h0, if_true, if_false]
        subst h0
        exact ⟨_, _, rfl, rfl, rfl, hup⟩
      · obtain ⟨n, hn, rfl⟩ := nI_of2 (x := p1) (M := 12) (n := 12) (by decide) (pos1 h2) (by rw [Int32.le_iff_toInt_le]; rw [Int32.lt_iff_toInt_lt] at h3; omega)
        obtain ⟨r, r', a, b, c⟩ := trick_sim hw8 s_night_crowd_armRows hh hcr s_trial_sounds s_trial_clapped s_trial_next t_now t_nowLong t_ahead hn p2
        simp only [h1, g1, kb, i10, h0, if_true, if_false, a, b]
        exact ⟨_, _, rfl, rfl, c, hup⟩
set_option maxHeartbeats 2000000 in
theorem T_turned {N : Nat} {s_isKept : Int32} {s_hallsRead : Int32} {s_turnedDone : Int32} {s_beganDone : Int32} {s_page_length : Int32} {s_page_codes : (Nat → Int32)} {s_room_rows : Int32} {s_room_late : Int32} {s_room_kinds : (Nat → Int32)} {s_room_palms : (Nat → Int32)} {s_room_strengths : (Nat → Int32)} {s_night_recorded : Int32} {s_night_barsGone : Int32} {s_night_beatsLeftOut : Int32} {s_night_crowd_armRows : Int32} {s_night_crowd_sounds : (Nat → Int32)} {s_night_crowd_clapped : (Nat → Int32)} {s_night_rightBehindBar : (Nat → Int32)} {s_kept_recorded : Int32} {s_kept_barsGone : Int32} {s_kept_beatsLeftOut : Int32} {s_kept_crowd_armRows : Int32} {s_kept_crowd_sounds : (Nat → Int32)} {s_kept_crowd_clapped : (Nat → Int32)} {s_kept_rightBehindBar : (Nat → Int32)} {t_pageMany : Int32} {t_many : Int32} {t_late : Int32} {t_armNow : Int32} {t_barNow : Int32} {t_skips : Int32} {t_hallsRead : Int32} {t_turnedMany : Int32} {t_recordMany : Int32} {t_beganMany : Int32} {t_keptHall : Int32} {t_keptArm : Int32} {t_keptBar : Int32} {t_keptSkips : Int32} {t_keptRecordMany : Int32} {t_page : (Nat → Int32)} {t_rows : (Nat → Int32)} {t_sounds : (Nat → Int32)} {t_clapped : (Nat → Int32)} {t_records : (Nat → Int32)} {t_keptSounds : (Nat → Int32)} {t_keptClapped : (Nat → Int32)} {t_keptRecords : (Nat → Int32)} (s_trial_sounds : (Nat → Int32)) (s_trial_clapped : (Nat → Int32)) (s_trial_next : (Nat → Int32)) (s_trial_armRows : Int32) (t_now : (Nat → Int32)) (t_nowLong : (Nat → Int32)) (t_ahead : (Nat → Int32)) (t_nowArm : Int32) (p1 : Int32) (p2 : Int32) (h : Rel N s_isKept s_hallsRead s_turnedDone s_beganDone s_page_length s_page_codes s_room_rows s_room_late s_room_kinds s_room_palms s_room_strengths s_night_recorded s_night_barsGone s_night_beatsLeftOut s_night_crowd_armRows s_night_crowd_sounds s_night_crowd_clapped s_night_rightBehindBar s_kept_recorded s_kept_barsGone s_kept_beatsLeftOut s_kept_crowd_armRows s_kept_crowd_sounds s_kept_crowd_clapped s_kept_rightBehindBar t_pageMany t_many t_late t_armNow t_barNow t_skips t_hallsRead t_turnedMany t_recordMany t_beganMany t_keptHall t_keptArm t_keptBar t_keptSkips t_keptRecordMany t_page t_rows t_sounds t_clapped t_records t_keptSounds t_keptClapped t_keptRecords) : ∃ (r : (Int32 × Int32 × Int32 × (Nat → Int32) × (Nat → Int32) × (Nat → Int32))) (r' : (Int32 × Int32 × Int32 × (Nat → Int32) × (Nat → Int32) × (Nat → Int32))), fX5_turned s_room_kinds s_room_palms s_room_strengths s_room_rows s_night_crowd_sounds s_night_crowd_clapped s_night_crowd_armRows s_trial_sounds s_trial_clapped s_trial_next s_trial_armRows s_turnedDone p1 p2 = some r ∧ fX6_turned t_many t_armNow t_rows t_sounds t_clapped t_now t_nowLong t_ahead t_nowArm t_turnedMany p1 p2 = some r' ∧ r.1 = r'.1 ∧ Rel (N + 1) s_isKept s_hallsRead r.2.1 s_beganDone s_page_length s_page_codes s_room_rows s_room_late s_room_kinds s_room_palms s_room_strengths s_night_recorded s_night_barsGone s_night_beatsLeftOut s_night_crowd_armRows s_night_crowd_sounds s_night_crowd_clapped s_night_rightBehindBar s_kept_recorded s_kept_barsGone s_kept_beatsLeftOut s_kept_crowd_armRows s_kept_crowd_sounds s_kept_crowd_clapped s_kept_rightBehindBar t_pageMany t_many t_late t_armNow t_barNow t_skips t_hallsRead r'.2.2.1 t_recordMany t_beganMany t_keptHall t_keptArm t_keptBar t_keptSkips t_keptRecordMany t_page t_rows t_sounds t_clapped t_records t_keptSounds t_keptClapped t_keptRecords := by
  obtain ⟨w, hr, hPg, hH, hNt, hCn, hTu, hBe, hKp⟩ := h
  have hup : Rel (N + 1) _ _ _ _ _ _ _ _ _ _ _ _ _ _ _ _ _ _ _ _ _ _ _ _ _ _ _ _ _ _ _ _ _ _ _ _ _ _ _ _ _ _ _ _ _ _ _ _ := ⟨w, hr, hPg, hH, hNt, ⟨by omega, hCn.2⟩, hTu, hBe, hKp⟩
  have hup2 := fun x y (q : RCnt x y) => (⟨w, hr, hPg, hH, hNt, ⟨by omega, hCn.2⟩, q, hBe, hKp⟩ : Rel (N + 1) _ _ x _ _ _ _ _ _ _ _ _ _ _ _ _ _ _ _ _ _ _ _ _ _ _ _ _ _ _ _ _ y _ _ _ _ _ _ _ _ _ _ _ _ _ _ _)
  obtain ⟨hw, rfl, rfl, he, hlt, hh⟩ := id hH
  obtain ⟨hRec, hb, hs, rfl, hcr⟩ := id hNt
  obtain ⟨t, ht, rfl, rfl⟩ := id hTu
  have hw8 : w ≤ 8 := by omega
  have e : fX6_in (Int32.toInt64 p1) (0 : Int64) (12 : Int64) = fX5_within p1 0 12 := in_eq p1 0 12
  have e2 : fX6_in (Int32.toInt64 p2) (0 : Int64) (1 : Int64) = fX5_within p2 0 1 := in_eq p2 0 1
  unfold fX5_turned fX6_turned
  rw [e, e2, there_C hw8, lacks_M hw8]
  rcases wi_cases p1 0 12 with ⟨h1, -⟩ | ⟨h1, h2, h3⟩
  · simp only [h1, kb, if_true]
    exact ⟨_, _, rfl, rfl, rfl, hup⟩
  · rcases wi_cases p2 0 1 with ⟨g1, -⟩ | ⟨g1, g2, g3⟩
    · simp only [h1, g1, kb, i10, if_true, if_false]
      exact ⟨_, _, rfl, rfl, rfl, hup⟩
    · by_cases h0 : w = 0
      · simp only [h1, g1, kb, i10, h0, if_true, if_false]
        subst h0
        exact ⟨_, _, rfl, rfl, rfl, hup⟩
      · by_cases q : t < 30
        · have q1 : nI t < (30 : Int32) := nI_lt (a := t) (b := 30) q (by omega)
          have q2 : ¬ nI t = (30 : Int32) := fun g => by
            rw [g] at q1; exact absurd q1 (by decide)
          have q3 : RCnt (nI t + 1) (nI t + 1) := ⟨t + 1, by omega, nI_1 t, nI_1 t⟩
          obtain ⟨n, hn, rfl⟩ := nI_of2 (x := p1) (M := 12) (n := 12) (by decide) h2 (by rw [Int32.le_iff_toInt_le]; rw [Int32.lt_iff_toInt_lt] at h3; omega)
          obtain ⟨r, r', k1, k2, k3, k4⟩ := few_sim hw8 (show n < 100 by omega) s_night_crowd_armRows hh hcr s_trial_sounds s_trial_clapped s_trial_next s_trial_armRows t_now t_nowLong t_ahead t_nowArm
          simp only [h1, g1, kb, i10, h0, q1, q2, if_true, if_false, k1, k2]
          rw [← k3]
          rcases k4 with k4 | ⟨b, hb, k4⟩
          · simp only [k4, if_true]
            exact ⟨_, _, rfl, rfl, rfl, hup2 _ _ q3⟩
          · have hz : ¬ r.1 = -1 := by
              rw [k4]; exact fun g => nI_pos (n := b) (by omega) (by rw [g]; decide)
            obtain ⟨c, hc, -⟩ := bits_le 8 (by omega) b hb
            have ho : fX6_ones (nI b) = some c := by rw [bits_eq b hb, hc]
            have hp2 : p2 = 0 ∨ p2 = 1 := by
              obtain ⟨m, hm, rfl⟩ := nI_of2 (x := p2) (M := 1) (n := 1) (by decide) g2 (by rw [Int32.le_iff_toInt_le]; rw [Int32.lt_iff_toInt_lt] at g3; omega)
              rcases (show m = 0 ∨ m = 1 by omega) with rfl | rfl
              · exact Or.inl rfl
              · exact Or.inr rfl
            rcases hp2 with rfl | rfl
            · simp only [if_neg hz, show ¬ (0 : Int32) = 1 by decide, if_true, if_false]
              rw [k4, hc, ho]
              exact ⟨_, _, rfl, rfl, rfl, hup2 _ _ q3⟩
            · simp only [if_neg hz, i10, if_true, if_false]
              exact ⟨_, _, rfl, rfl, rfl, hup2 _ _ q3⟩
        · have q0 : t = 30 := by omega
          subst q0
          simp only [h1, g1, kb, i10, h0, show ¬ nI 30 < (30 : Int32) by decide, show nI 30 = (30 : Int32) by rfl, if_true, if_false]
          exact ⟨_, _, rfl, rfl, rfl, hup⟩
set_option maxHeartbeats 2000000 in
theorem T_record {N : Nat} {s_isKept : Int32} {s_hallsRead : Int32} {s_turnedDone : Int32} {s_beganDone : Int32} {s_page_length : Int32} {s_page_codes : (Nat → Int32)} {s_room_rows : Int32} {s_room_late : Int32} {s_room_kinds : (Nat → Int32)} {s_room_palms : (Nat → Int32)} {s_room_strengths : (Nat → Int32)} {s_night_recorded : Int32} {s_night_barsGone : Int32} {s_night_beatsLeftOut : Int32} {s_night_crowd_armRows : Int32} {s_night_crowd_sounds : (Nat → Int32)} {s_night_crowd_clapped : (Nat → Int32)} {s_night_rightBehindBar : (Nat → Int32)} {s_kept_recorded : Int32} {s_kept_barsGone : Int32} {s_kept_beatsLeftOut : Int32} {s_kept_crowd_armRows : Int32} {s_kept_crowd_sounds : (Nat → Int32)} {s_kept_crowd_clapped : (Nat → Int32)} {s_kept_rightBehindBar : (Nat → Int32)} {t_pageMany : Int32} {t_many : Int32} {t_late : Int32} {t_armNow : Int32} {t_barNow : Int32} {t_skips : Int32} {t_hallsRead : Int32} {t_turnedMany : Int32} {t_recordMany : Int32} {t_beganMany : Int32} {t_keptHall : Int32} {t_keptArm : Int32} {t_keptBar : Int32} {t_keptSkips : Int32} {t_keptRecordMany : Int32} {t_page : (Nat → Int32)} {t_rows : (Nat → Int32)} {t_sounds : (Nat → Int32)} {t_clapped : (Nat → Int32)} {t_records : (Nat → Int32)} {t_keptSounds : (Nat → Int32)} {t_keptClapped : (Nat → Int32)} {t_keptRecords : (Nat → Int32)} (p1 : Int32) (h : Rel N s_isKept s_hallsRead s_turnedDone s_beganDone s_page_length s_page_codes s_room_rows s_room_late s_room_kinds s_room_palms s_room_strengths s_night_recorded s_night_barsGone s_night_beatsLeftOut s_night_crowd_armRows s_night_crowd_sounds s_night_crowd_clapped s_night_rightBehindBar s_kept_recorded s_kept_barsGone s_kept_beatsLeftOut s_kept_crowd_armRows s_kept_crowd_sounds s_kept_crowd_clapped s_kept_rightBehindBar t_pageMany t_many t_late t_armNow t_barNow t_skips t_hallsRead t_turnedMany t_recordMany t_beganMany t_keptHall t_keptArm t_keptBar t_keptSkips t_keptRecordMany t_page t_rows t_sounds t_clapped t_records t_keptSounds t_keptClapped t_keptRecords) : ∃ (r : (Int32 × Int32 × (Nat → Int32))) (r' : (Int32 × Int32 × (Nat → Int32))), fX5_record s_night_rightBehindBar s_night_recorded p1 = some r ∧ fX6_record t_recordMany t_records p1 = some r' ∧ r.1 = r'.1 ∧ Rel (N + 1) s_isKept s_hallsRead s_turnedDone s_beganDone s_page_length s_page_codes s_room_rows s_room_late s_room_kinds s_room_palms s_room_strengths r.2.1 s_night_barsGone s_night_beatsLeftOut s_night_crowd_armRows s_night_crowd_sounds s_night_crowd_clapped r.2.2 s_kept_recorded s_kept_barsGone s_kept_beatsLeftOut s_kept_crowd_armRows s_kept_crowd_sounds s_kept_crowd_clapped s_kept_rightBehindBar t_pageMany t_many t_late t_armNow t_barNow t_skips t_hallsRead t_turnedMany r'.2.1 t_beganMany t_keptHall t_keptArm t_keptBar t_keptSkips t_keptRecordMany t_page t_rows t_sounds t_clapped r'.2.2 t_keptSounds t_keptClapped t_keptRecords := by
  obtain ⟨w, hr, hPg, hH, hNt, hCn, hTu, hBe, hKp⟩ := h
  obtain ⟨r, r', a, b, c, d⟩ := L_record hNt.1 p1
  exact ⟨r, r', a, b, c, w, hr, hPg, hH, ⟨d, hNt.2⟩, ⟨by omega, hCn.2⟩, hTu, hBe, hKp⟩
set_option maxHeartbeats 2000000 in
theorem T_forget {N : Nat} {s_isKept : Int32} {s_hallsRead : Int32} {s_turnedDone : Int32} {s_beganDone : Int32} {s_page_length : Int32} {s_page_codes : (Nat → Int32)} {s_room_rows : Int32} {s_room_late : Int32} {s_room_kinds : (Nat → Int32)} {s_room_palms : (Nat → Int32)} {s_room_strengths : (Nat → Int32)} {s_night_recorded : Int32} {s_night_barsGone : Int32} {s_night_beatsLeftOut : Int32} {s_night_crowd_armRows : Int32} {s_night_crowd_sounds : (Nat → Int32)} {s_night_crowd_clapped : (Nat → Int32)} {s_night_rightBehindBar : (Nat → Int32)} {s_kept_recorded : Int32} {s_kept_barsGone : Int32} {s_kept_beatsLeftOut : Int32} {s_kept_crowd_armRows : Int32} {s_kept_crowd_sounds : (Nat → Int32)} {s_kept_crowd_clapped : (Nat → Int32)} {s_kept_rightBehindBar : (Nat → Int32)} {t_pageMany : Int32} {t_many : Int32} {t_late : Int32} {t_armNow : Int32} {t_barNow : Int32} {t_skips : Int32} {t_hallsRead : Int32} {t_turnedMany : Int32} {t_recordMany : Int32} {t_beganMany : Int32} {t_keptHall : Int32} {t_keptArm : Int32} {t_keptBar : Int32} {t_keptSkips : Int32} {t_keptRecordMany : Int32} {t_page : (Nat → Int32)} {t_rows : (Nat → Int32)} {t_sounds : (Nat → Int32)} {t_clapped : (Nat → Int32)} {t_records : (Nat → Int32)} {t_keptSounds : (Nat → Int32)} {t_keptClapped : (Nat → Int32)} {t_keptRecords : (Nat → Int32)}  (h : Rel N s_isKept s_hallsRead s_turnedDone s_beganDone s_page_length s_page_codes s_room_rows s_room_late s_room_kinds s_room_palms s_room_strengths s_night_recorded s_night_barsGone s_night_beatsLeftOut s_night_crowd_armRows s_night_crowd_sounds s_night_crowd_clapped s_night_rightBehindBar s_kept_recorded s_kept_barsGone s_kept_beatsLeftOut s_kept_crowd_armRows s_kept_crowd_sounds s_kept_crowd_clapped s_kept_rightBehindBar t_pageMany t_many t_late t_armNow t_barNow t_skips t_hallsRead t_turnedMany t_recordMany t_beganMany t_keptHall t_keptArm t_keptBar t_keptSkips t_keptRecordMany t_page t_rows t_sounds t_clapped t_records t_keptSounds t_keptClapped t_keptRecords) : ∃ (r : (Int32 × Int32)) (r' : (Int32 × Int32)), fX5_forget s_night_recorded = some r ∧ fX6_forget t_recordMany = some r' ∧ r.1 = r'.1 ∧ Rel (N + 1) s_isKept s_hallsRead s_turnedDone s_beganDone s_page_length s_page_codes s_room_rows s_room_late s_room_kinds s_room_palms s_room_strengths r.2 s_night_barsGone s_night_beatsLeftOut s_night_crowd_armRows s_night_crowd_sounds s_night_crowd_clapped s_night_rightBehindBar s_kept_recorded s_kept_barsGone s_kept_beatsLeftOut s_kept_crowd_armRows s_kept_crowd_sounds s_kept_crowd_clapped s_kept_rightBehindBar t_pageMany t_many t_late t_armNow t_barNow t_skips t_hallsRead t_turnedMany r'.2 t_beganMany t_keptHall t_keptArm t_keptBar t_keptSkips t_keptRecordMany t_page t_rows t_sounds t_clapped t_records t_keptSounds t_keptClapped t_keptRecords := by
  obtain ⟨w, hr, hPg, hH, hNt, hCn, hTu, hBe, hKp⟩ := h
  obtain ⟨n, hn, e1, e2, -⟩ := id hNt.1
  exact ⟨_, _, rfl, rfl, e1.trans e2.symm, w, hr, hPg, hH, ⟨⟨0, by omega, rfl, rfl, fun k h => absurd h (Nat.not_lt_zero k)⟩, hNt.2⟩, ⟨by omega, hCn.2⟩, hTu, hBe, hKp⟩
set_option maxHeartbeats 2000000 in
theorem T_began {N : Nat} {s_isKept : Int32} {s_hallsRead : Int32} {s_turnedDone : Int32} {s_beganDone : Int32} {s_page_length : Int32} {s_page_codes : (Nat → Int32)} {s_room_rows : Int32} {s_room_late : Int32} {s_room_kinds : (Nat → Int32)} {s_room_palms : (Nat → Int32)} {s_room_strengths : (Nat → Int32)} {s_night_recorded : Int32} {s_night_barsGone : Int32} {s_night_beatsLeftOut : Int32} {s_night_crowd_armRows : Int32} {s_night_crowd_sounds : (Nat → Int32)} {s_night_crowd_clapped : (Nat → Int32)} {s_night_rightBehindBar : (Nat → Int32)} {s_kept_recorded : Int32} {s_kept_barsGone : Int32} {s_kept_beatsLeftOut : Int32} {s_kept_crowd_armRows : Int32} {s_kept_crowd_sounds : (Nat → Int32)} {s_kept_crowd_clapped : (Nat → Int32)} {s_kept_rightBehindBar : (Nat → Int32)} {t_pageMany : Int32} {t_many : Int32} {t_late : Int32} {t_armNow : Int32} {t_barNow : Int32} {t_skips : Int32} {t_hallsRead : Int32} {t_turnedMany : Int32} {t_recordMany : Int32} {t_beganMany : Int32} {t_keptHall : Int32} {t_keptArm : Int32} {t_keptBar : Int32} {t_keptSkips : Int32} {t_keptRecordMany : Int32} {t_page : (Nat → Int32)} {t_rows : (Nat → Int32)} {t_sounds : (Nat → Int32)} {t_clapped : (Nat → Int32)} {t_records : (Nat → Int32)} {t_keptSounds : (Nat → Int32)} {t_keptClapped : (Nat → Int32)} {t_keptRecords : (Nat → Int32)} (s_trial_sounds : (Nat → Int32)) (s_trial_clapped : (Nat → Int32)) (s_trial_next : (Nat → Int32)) (s_trial_armRows : Int32) (t_now : (Nat → Int32)) (t_nowLong : (Nat → Int32)) (t_ahead : (Nat → Int32)) (t_nowArm : Int32) (p1 : Int32) (h : Rel N s_isKept s_hallsRead s_turnedDone s_beganDone s_page_length s_page_codes s_room_rows s_room_late s_room_kinds s_room_palms s_room_strengths s_night_recorded s_night_barsGone s_night_beatsLeftOut s_night_crowd_armRows s_night_crowd_sounds s_night_crowd_clapped s_night_rightBehindBar s_kept_recorded s_kept_barsGone s_kept_beatsLeftOut s_kept_crowd_armRows s_kept_crowd_sounds s_kept_crowd_clapped s_kept_rightBehindBar t_pageMany t_many t_late t_armNow t_barNow t_skips t_hallsRead t_turnedMany t_recordMany t_beganMany t_keptHall t_keptArm t_keptBar t_keptSkips t_keptRecordMany t_page t_rows t_sounds t_clapped t_records t_keptSounds t_keptClapped t_keptRecords) : ∃ (r : (Int32 × Int32 × Int32 × (Nat → Int32) × (Nat → Int32) × (Nat → Int32))) (r' : (Int32 × Int32 × Int32 × (Nat → Int32) × (Nat → Int32) × (Nat → Int32))), fX5_began s_room_kinds s_room_palms s_room_strengths s_room_rows s_night_crowd_armRows s_night_rightBehindBar s_night_recorded s_trial_sounds s_trial_clapped s_trial_next s_trial_armRows s_beganDone p1 = some r ∧ fX6_began t_many t_armNow t_rows t_now t_nowLong t_ahead t_nowArm t_recordMany t_records t_beganMany p1 = some r' ∧ r.1 = r'.1 ∧ Rel (N + 1) s_isKept s_hallsRead s_turnedDone r.2.1 s_page_length s_page_codes s_room_rows s_room_late s_room_kinds s_room_palms s_room_strengths s_night_recorded s_night_barsGone s_night_beatsLeftOut s_night_crowd_armRows s_night_crowd_sounds s_night_crowd_clapped s_night_rightBehindBar s_kept_recorded s_kept_barsGone s_kept_beatsLeftOut s_kept_crowd_armRows s_kept_crowd_sounds s_kept_crowd_clapped s_kept_rightBehindBar t_pageMany t_many t_late t_armNow t_barNow t_skips t_hallsRead t_turnedMany t_recordMany r'.2.2.1 t_keptHall t_keptArm t_keptBar t_keptSkips t_keptRecordMany t_page t_rows t_sounds t_clapped t_records t_keptSounds t_keptClapped t_keptRecords := by
  obtain ⟨w, hr, hPg, hH, hNt, hCn, hTu, hBe, hKp⟩ := h
  have hup : Rel (N + 1) _ _ _ _ _ _ _ _ _ _ _ _ _ _ _ _ _ _ _ _ _ _ _ _ _ _ _ _ _ _ _ _ _ _ _ _ _ _ _ _ _ _ _ _ _ _ _ _ := ⟨w, hr, hPg, hH, hNt, ⟨by omega, hCn.2⟩, hTu, hBe, hKp⟩
  have hup2 := fun x y (q : RCnt x y) => (⟨w, hr, hPg, hH, hNt, ⟨by omega, hCn.2⟩, hTu, q, hKp⟩ : Rel (N + 1) _ _ _ x _ _ _ _ _ _ _ _ _ _ _ _ _ _ _ _ _ _ _ _ _ _ _ _ _ _ _ _ _ _ y _ _ _ _ _ _ _ _ _ _ _ _ _)
  obtain ⟨hw, rfl, rfl, he, hlt, hh⟩ := id hH
  obtain ⟨⟨n, hn, rfl, rfl, hrs⟩, hb, hs, rfl, hcr⟩ := id hNt
  obtain ⟨t, ht, rfl, rfl⟩ := id hBe
  have hw8 : w ≤ 8 := by omega
  have e : fX6_in (Int32.toInt64 p1) (0 : Int64) (1 : Int64) = fX5_within p1 0 1 := in_eq p1 0 1
  obtain ⟨B, hB⟩ := try_all hw8 hn s_night_crowd_armRows hh hrs
  obtain ⟨r1, a1, a2⟩ := ways_C (fun m hm => ⟨(hB m hm).1, (hB m hm).2.1⟩) s_trial_sounds s_trial_clapped s_trial_next s_trial_armRows
  obtain ⟨r2, b1, b2⟩ := least_C (fun m hm => ⟨(hB m hm).1, (hB m hm).2.1⟩) s_trial_sounds s_trial_clapped s_trial_next s_trial_armRows
  obtain ⟨r3, c1, c2, c3⟩ := began_M (fun m hm => ⟨(hB m hm).1, (hB m hm).2.2⟩) t_now t_nowLong t_ahead t_nowArm
  unfold fX5_began fX6_began
  rw [e, there_C hw8, lacks_M hw8, a1, b1, c1]
  rcases wi_cases p1 0 1 with ⟨h1, -⟩ | ⟨h1, h2, h3⟩
  · simp only [h1, kb, if_true]
    exact ⟨_, _, rfl, rfl, rfl, hup⟩
  · by_cases h0 : w = 0
    · simp only [h1, kb, i10, h0, if_true, if_false]
      subst h0
      exact ⟨_, _, rfl, rfl, rfl, hup⟩
    · by_cases q : t < 30
      · have q1 : nI t < (30 : Int32) := nI_lt (a := t) (b := 30) q (by omega)
        have q2 : ¬ nI t = (30 : Int32) := fun g => by
          rw [g] at q1; exact absurd q1 (by decide)
        have q3 : RCnt (nI t + 1) (nI t + 1) := ⟨t + 1, by omega, nI_1 t, nI_1 t⟩
        simp only [h1, kb, i10, h0, q1, q2, if_true, if_false]
        by_cases g : p1 = 0
        · simp only [g, if_true]
          exact ⟨_, _, rfl, rfl, a2.trans c2.symm, hup2 _ _ q3⟩
        · simp only [g, if_false]
          exact ⟨_, _, rfl, rfl, b2.trans c3.symm, hup2 _ _ q3⟩
      · have q0 : t = 30 := by omega
        subst q0
        simp only [h1, kb, i10, h0, show ¬ nI 30 < (30 : Int32) by decide, show nI 30 = (30 : Int32) by rfl, if_true, if_false]
        exact ⟨_, _, rfl, rfl, rfl, hup⟩
set_option maxHeartbeats 2000000 in
theorem T_nights {N : Nat} {s_isKept : Int32} {s_hallsRead : Int32} {s_turnedDone : Int32} {s_beganDone : Int32} {s_page_length : Int32} {s_page_codes : (Nat → Int32)} {s_room_rows : Int32} {s_room_late : Int32} {s_room_kinds : (Nat → Int32)} {s_room_palms : (Nat → Int32)} {s_room_strengths : (Nat → Int32)} {s_night_recorded : Int32} {s_night_barsGone : Int32} {s_night_beatsLeftOut : Int32} {s_night_crowd_armRows : Int32} {s_night_crowd_sounds : (Nat → Int32)} {s_night_crowd_clapped : (Nat → Int32)} {s_night_rightBehindBar : (Nat → Int32)} {s_kept_recorded : Int32} {s_kept_barsGone : Int32} {s_kept_beatsLeftOut : Int32} {s_kept_crowd_armRows : Int32} {s_kept_crowd_sounds : (Nat → Int32)} {s_kept_crowd_clapped : (Nat → Int32)} {s_kept_rightBehindBar : (Nat → Int32)} {t_pageMany : Int32} {t_many : Int32} {t_late : Int32} {t_armNow : Int32} {t_barNow : Int32} {t_skips : Int32} {t_hallsRead : Int32} {t_turnedMany : Int32} {t_recordMany : Int32} {t_beganMany : Int32} {t_keptHall : Int32} {t_keptArm : Int32} {t_keptBar : Int32} {t_keptSkips : Int32} {t_keptRecordMany : Int32} {t_page : (Nat → Int32)} {t_rows : (Nat → Int32)} {t_sounds : (Nat → Int32)} {t_clapped : (Nat → Int32)} {t_records : (Nat → Int32)} {t_keptSounds : (Nat → Int32)} {t_keptClapped : (Nat → Int32)} {t_keptRecords : (Nat → Int32)} (s_trial_sounds : (Nat → Int32)) (s_trial_clapped : (Nat → Int32)) (s_trial_next : (Nat → Int32)) (s_trial_armRows : Int32) (t_now : (Nat → Int32)) (t_nowLong : (Nat → Int32)) (t_ahead : (Nat → Int32)) (t_nowArm : Int32) (t_seedNow : Int32) (p1 : Int32) (p2 : Int32) (p3 : Int32) (h : Rel N s_isKept s_hallsRead s_turnedDone s_beganDone s_page_length s_page_codes s_room_rows s_room_late s_room_kinds s_room_palms s_room_strengths s_night_recorded s_night_barsGone s_night_beatsLeftOut s_night_crowd_armRows s_night_crowd_sounds s_night_crowd_clapped s_night_rightBehindBar s_kept_recorded s_kept_barsGone s_kept_beatsLeftOut s_kept_crowd_armRows s_kept_crowd_sounds s_kept_crowd_clapped s_kept_rightBehindBar t_pageMany t_many t_late t_armNow t_barNow t_skips t_hallsRead t_turnedMany t_recordMany t_beganMany t_keptHall t_keptArm t_keptBar t_keptSkips t_keptRecordMany t_page t_rows t_sounds t_clapped t_records t_keptSounds t_keptClapped t_keptRecords) : ∃ (r : (Int32 × Int32 × (Nat → Int32) × (Nat → Int32) × (Nat → Int32))) (r' : (Int32 × Int32 × Int32 × (Nat → Int32) × (Nat → Int32) × (Nat → Int32))), fX5_nights s_room_kinds s_room_palms s_room_strengths s_room_rows s_night_crowd_sounds s_night_crowd_clapped s_night_crowd_armRows s_trial_sounds s_trial_clapped s_trial_next s_trial_armRows p1 p2 p3 = some r ∧ fX6_nights t_many t_armNow t_rows t_sounds t_clapped t_now t_nowLong t_ahead t_nowArm t_seedNow p1 p2 p3 = some r' ∧ r.1 = r'.1 ∧ Rel (N + 1) s_isKept s_hallsRead s_turnedDone s_beganDone s_page_length s_page_codes s_room_rows s_room_late s_room_kinds s_room_palms s_room_strengths s_night_recorded s_night_barsGone s_night_beatsLeftOut s_night_crowd_armRows s_night_crowd_sounds s_night_crowd_clapped s_night_rightBehindBar s_kept_recorded s_kept_barsGone s_kept_beatsLeftOut s_kept_crowd_armRows s_kept_crowd_sounds s_kept_crowd_clapped s_kept_rightBehindBar t_pageMany t_many t_late t_armNow t_barNow t_skips t_hallsRead t_turnedMany t_recordMany t_beganMany t_keptHall t_keptArm t_keptBar t_keptSkips t_keptRecordMany t_page t_rows t_sounds t_clapped t_records t_keptSounds t_keptClapped t_keptRecords := by
  obtain ⟨w, hr, hPg, hH, hNt, hCn, hTu, hBe, hKp⟩ := h
  have hup : Rel (N + 1) _ _ _ _ _ _ _ _ _ _ _ _ _ _ _ _ _ _ _ _ _ _ _ _ _ _ _ _ _ _ _ _ _ _ _ _ _ _ _ _ _ _ _ _ _ _ _ _ := ⟨w, hr, hPg, hH, hNt, ⟨by omega, hCn.2⟩, hTu, hBe, hKp⟩
  obtain ⟨hw, rfl, rfl, he, hlt, hh⟩ := id hH
  obtain ⟨hRec, hb, hs, rfl, hcr⟩ := hNt
  have hw8 : w ≤ 8 := by omega
  have e : fX6_in (Int32.toInt64 p1) (1 : Int64) (60 : Int64) = fX5_within p1 1 60 := in_eq p1 1 60
  have e2 : fX6_in (Int32.toInt64 p3) (0 : Int64) (2 : Int64) = fX5_within p3 0 2 := in_eq p3 0 2
  unfold fX5_nights fX6_nights
  rw [e, e2, there_C hw8, lacks_M hw8]
  rcases wi_cases p1 1 60 with ⟨h1, -⟩ | ⟨h1, h2, h3⟩
  · simp only [h1, kb, if_true]
    exact ⟨_, _, rfl, rfl, rfl, hup⟩
  · by_cases hp : p2 < 0
    · simp only [h1, hp, kb, i10, if_true, if_false]
      exact ⟨_, _, rfl, rfl, rfl, hup⟩
    · rcases wi_cases p3 0 2 with ⟨g1, -⟩ | ⟨g1, -, -⟩
      · simp only [h1, hp, g1, kb, i10, if_true, if_false]
        exact ⟨_, _, rfl, rfl, rfl, hup⟩
      · by_cases h0 : w = 0
        · simp only [h1, hp, g1, kb, i10, h0, if_true, if_false]
          subst h0
          exact ⟨_, _, rfl, rfl, rfl, hup⟩
        · obtain ⟨n, hn, rfl⟩ := nI_of2 (x := p1) (M := 60) (n := 60) (by decide) (pos1 h2) (by rw [Int32.le_iff_toInt_le]; rw [Int32.lt_iff_toInt_lt] at h3; omega)
          obtain ⟨a, ha, rfl⟩ := nI_of hp
          obtain ⟨r, r', k1, k2, k3, k4, k5⟩ := nights_sim hw8 (by omega) s_night_crowd_armRows hh hcr s_trial_sounds s_trial_clapped s_trial_next t_now t_nowLong t_ahead hn ha
          obtain ⟨v, v1, v2⟩ := right_sim hw8 hh k5
          have ei : fX1_init (nI a) = some (nI a) := rfl
          simp only [h1, hp, g1, kb, i10, h0, if_true, if_false, asIs_M, k2]
          unfold fX5_nightsTold
          simp only [ei, kb, take_C, k1]
          by_cases c0 : p3 = 0
          · simp only [c0, if_true, v1, v2, kb]
            exact ⟨_, _, rfl, rfl, rfl, hup⟩
          · by_cases c1 : p3 = 1
            · simp only [if_neg c0, if_pos c1, kb]
              exact ⟨_, _, rfl, rfl, k3, hup⟩
            · simp only [if_neg c0, if_neg c1, kb]
              exact ⟨_, _, rfl, rfl, k4, hup⟩
set_option maxHeartbeats 2000000 in
theorem T_image {N : Nat} {s_isKept : Int32} {s_hallsRead : Int32} {s_turnedDone : Int32} {s_beganDone : Int32} {s_page_length : Int32} {s_page_codes : (Nat → Int32)} {s_room_rows : Int32} {s_room_late : Int32} {s_room_kinds : (Nat → Int32)} {s_room_palms : (Nat → Int32)} {s_room_strengths : (Nat → Int32)} {s_night_recorded : Int32} {s_night_barsGone : Int32} {s_night_beatsLeftOut : Int32} {s_night_crowd_armRows : Int32} {s_night_crowd_sounds : (Nat → Int32)} {s_night_crowd_clapped : (Nat → Int32)} {s_night_rightBehindBar : (Nat → Int32)} {s_kept_recorded : Int32} {s_kept_barsGone : Int32} {s_kept_beatsLeftOut : Int32} {s_kept_crowd_armRows : Int32} {s_kept_crowd_sounds : (Nat → Int32)} {s_kept_crowd_clapped : (Nat → Int32)} {s_kept_rightBehindBar : (Nat → Int32)} {t_pageMany : Int32} {t_many : Int32} {t_late : Int32} {t_armNow : Int32} {t_barNow : Int32} {t_skips : Int32} {t_hallsRead : Int32} {t_turnedMany : Int32} {t_recordMany : Int32} {t_beganMany : Int32} {t_keptHall : Int32} {t_keptArm : Int32} {t_keptBar : Int32} {t_keptSkips : Int32} {t_keptRecordMany : Int32} {t_page : (Nat → Int32)} {t_rows : (Nat → Int32)} {t_sounds : (Nat → Int32)} {t_clapped : (Nat → Int32)} {t_records : (Nat → Int32)} {t_keptSounds : (Nat → Int32)} {t_keptClapped : (Nat → Int32)} {t_keptRecords : (Nat → Int32)}  (h : Rel N s_isKept s_hallsRead s_turnedDone s_beganDone s_page_length s_page_codes s_room_rows s_room_late s_room_kinds s_room_palms s_room_strengths s_night_recorded s_night_barsGone s_night_beatsLeftOut s_night_crowd_armRows s_night_crowd_sounds s_night_crowd_clapped s_night_rightBehindBar s_kept_recorded s_kept_barsGone s_kept_beatsLeftOut s_kept_crowd_armRows s_kept_crowd_sounds s_kept_crowd_clapped s_kept_rightBehindBar t_pageMany t_many t_late t_armNow t_barNow t_skips t_hallsRead t_turnedMany t_recordMany t_beganMany t_keptHall t_keptArm t_keptBar t_keptSkips t_keptRecordMany t_page t_rows t_sounds t_clapped t_records t_keptSounds t_keptClapped t_keptRecords) : ∃ (r : (Int32 × Int32 × Int32 × Int32 × Int32 × Int32 × (Nat → Int32) × (Nat → Int32) × (Nat → Int32))) (r' : (Int32 × Int32 × Int32 × Int32 × Int32 × Int32 × (Nat → Int32) × (Nat → Int32) × (Nat → Int32))), fX5_image s_room_rows s_night_crowd_sounds s_night_crowd_clapped s_night_crowd_armRows s_night_rightBehindBar s_night_recorded s_night_barsGone s_night_beatsLeftOut s_kept_crowd_sounds s_kept_crowd_clapped s_kept_crowd_armRows s_kept_rightBehindBar s_kept_recorded s_kept_barsGone s_kept_beatsLeftOut s_isKept = some r ∧ fX6_image t_many t_armNow t_barNow t_skips t_hallsRead t_sounds t_clapped t_recordMany t_records t_keptHall t_keptArm t_keptBar t_keptSkips t_keptRecordMany t_keptSounds t_keptClapped t_keptRecords = some r' ∧ r.1 = r'.1 ∧ Rel (N + 1) r.2.1 s_hallsRead s_turnedDone s_beganDone s_page_length s_page_codes s_room_rows s_room_late s_room_kinds s_room_palms s_room_strengths s_night_recorded s_night_barsGone s_night_beatsLeftOut s_night_crowd_armRows s_night_crowd_sounds s_night_crowd_clapped s_night_rightBehindBar r.2.2.1 r.2.2.2.1 r.2.2.2.2.1 r.2.2.2.2.2.1 r.2.2.2.2.2.2.1 r.2.2.2.2.2.2.2.1 r.2.2.2.2.2.2.2.2 t_pageMany t_many t_late t_armNow t_barNow t_skips t_hallsRead t_turnedMany t_recordMany t_beganMany r'.2.1 r'.2.2.1 r'.2.2.2.1 r'.2.2.2.2.1 r'.2.2.2.2.2.1 t_page t_rows t_sounds t_clapped t_records r'.2.2.2.2.2.2.1 r'.2.2.2.2.2.2.2.1 r'.2.2.2.2.2.2.2.2 := by
  obtain ⟨w, hr, hPg, hH, hNt, hCn, hTu, hBe, hKp⟩ := h
  obtain ⟨hw, rfl, rfl, he, hlt, hh⟩ := id hH
  have hw8 : w ≤ 8 := by omega
  unfold fX5_image fX6_image
  rw [there_C hw8, lacks_M hw8]
  by_cases h0 : w = 0
  · simp only [kb, i10, h0, if_true, if_false]
    subst h0
    exact ⟨_, _, rfl, rfl, rfl, 0, hr, hPg, hH, hNt, ⟨by omega, hCn.2⟩, hTu, hBe, hKp⟩
  · simp only [kb, i10, h0, if_true, if_false, ntake_C, copy_M]
    obtain ⟨⟨n, hn, e1, e2, e3⟩, hb, hs, harm, hcr⟩ := id hNt
    exact ⟨_, _, rfl, rfl, hb, w, hr, hPg, hH, hNt, ⟨by omega, hCn.2⟩, hTu, hBe, Or.inr ⟨hr, Nat.le_refl hr, hCn.2.2⟩, Or.inr ⟨rfl, hCn.2.2, ⟨n, hn, e1, e2, fun k hk => by dsimp only; rw [fill_in (by omega), fill_in (by omega)]; exact e3 k hk⟩, hb, hs, harm, SR_fill hw8 hcr⟩⟩
set_option maxHeartbeats 2000000 in
theorem T_restore {N : Nat} {s_isKept : Int32} {s_hallsRead : Int32} {s_turnedDone : Int32} {s_beganDone : Int32} {s_page_length : Int32} {s_page_codes : (Nat → Int32)} {s_room_rows : Int32} {s_room_late : Int32} {s_room_kinds : (Nat → Int32)} {s_room_palms : (Nat → Int32)} {s_room_strengths : (Nat → Int32)} {s_night_recorded : Int32} {s_night_barsGone : Int32} {s_night_beatsLeftOut : Int32} {s_night_crowd_armRows : Int32} {s_night_crowd_sounds : (Nat → Int32)} {s_night_crowd_clapped : (Nat → Int32)} {s_night_rightBehindBar : (Nat → Int32)} {s_kept_recorded : Int32} {s_kept_barsGone : Int32} {s_kept_beatsLeftOut : Int32} {s_kept_crowd_armRows : Int32} {s_kept_crowd_sounds : (Nat → Int32)} {s_kept_crowd_clapped : (Nat → Int32)} {s_kept_rightBehindBar : (Nat → Int32)} {t_pageMany : Int32} {t_many : Int32} {t_late : Int32} {t_armNow : Int32} {t_barNow : Int32} {t_skips : Int32} {t_hallsRead : Int32} {t_turnedMany : Int32} {t_recordMany : Int32} {t_beganMany : Int32} {t_keptHall : Int32} {t_keptArm : Int32} {t_keptBar : Int32} {t_keptSkips : Int32} {t_keptRecordMany : Int32} {t_page : (Nat → Int32)} {t_rows : (Nat → Int32)} {t_sounds : (Nat → Int32)} {t_clapped : (Nat → Int32)} {t_records : (Nat → Int32)} {t_keptSounds : (Nat → Int32)} {t_keptClapped : (Nat → Int32)} {t_keptRecords : (Nat → Int32)}  (h : Rel N s_isKept s_hallsRead s_turnedDone s_beganDone s_page_length s_page_codes s_room_rows s_room_late s_room_kinds s_room_palms s_room_strengths s_night_recorded s_night_barsGone s_night_beatsLeftOut s_night_crowd_armRows s_night_crowd_sounds s_night_crowd_clapped s_night_rightBehindBar s_kept_recorded s_kept_barsGone s_kept_beatsLeftOut s_kept_crowd_armRows s_kept_crowd_sounds s_kept_crowd_clapped s_kept_rightBehindBar t_pageMany t_many t_late t_armNow t_barNow t_skips t_hallsRead t_turnedMany t_recordMany t_beganMany t_keptHall t_keptArm t_keptBar t_keptSkips t_keptRecordMany t_page t_rows t_sounds t_clapped t_records t_keptSounds t_keptClapped t_keptRecords) : ∃ (r : (Int32 × Int32 × Int32 × Int32 × Int32 × (Nat → Int32) × (Nat → Int32) × (Nat → Int32))) (r' : (Int32 × Int32 × Int32 × Int32 × Int32 × (Nat → Int32) × (Nat → Int32) × (Nat → Int32))), fX5_restore s_night_crowd_sounds s_night_crowd_clapped s_night_crowd_armRows s_night_rightBehindBar s_night_recorded s_night_barsGone s_night_beatsLeftOut s_kept_crowd_sounds s_kept_crowd_clapped s_kept_crowd_armRows s_kept_rightBehindBar s_kept_recorded s_kept_barsGone s_kept_beatsLeftOut s_isKept = some r ∧ fX6_restore t_armNow t_barNow t_skips t_hallsRead t_sounds t_clapped t_recordMany t_records t_keptHall t_keptArm t_keptBar t_keptSkips t_keptRecordMany t_keptSounds t_keptClapped t_keptRecords = some r' ∧ r.1 = r'.1 ∧ Rel (N + 1) s_isKept s_hallsRead s_turnedDone s_beganDone s_page_length s_page_codes s_room_rows s_room_late s_room_kinds s_room_palms s_room_strengths r.2.1 r.2.2.1 r.2.2.2.1 r.2.2.2.2.1 r.2.2.2.2.2.1 r.2.2.2.2.2.2.1 r.2.2.2.2.2.2.2 s_kept_recorded s_kept_barsGone s_kept_beatsLeftOut s_kept_crowd_armRows s_kept_crowd_sounds s_kept_crowd_clapped s_kept_rightBehindBar t_pageMany t_many t_late r'.2.1 r'.2.2.1 r'.2.2.2.1 t_hallsRead t_turnedMany r'.2.2.2.2.1 t_beganMany t_keptHall t_keptArm t_keptBar t_keptSkips t_keptRecordMany t_page t_rows r'.2.2.2.2.2.1 r'.2.2.2.2.2.2.1 r'.2.2.2.2.2.2.2 t_keptSounds t_keptClapped t_keptRecords := by
  obtain ⟨w, hr, hPg, hH, hNt, hCn, hTu, hBe, hKp⟩ := h
  obtain ⟨hw, -⟩ := id hH
  have hw8 : w ≤ 8 := by omega
  unfold fX5_restore fX6_restore
  rw [hCn.2.2]
  rcases id hKp.2 with ⟨k1, k2⟩ | ⟨k1, k2, k3⟩
  · rw [if_pos k1, if_neg k2]
    exact ⟨_, _, rfl, rfl, rfl, w, hr, hPg, hH, hNt, ⟨by omega, hCn.2.1, rfl⟩, hTu, hBe, hKp⟩
  · rw [if_neg (by rw [k1]; decide), if_pos k2]
    simp only [kb, ntake_C, copy_M]
    obtain ⟨⟨n, hn, e1, e2, e3⟩, hb, hs, harm, hcr⟩ := id k3
    exact ⟨_, _, rfl, rfl, hb, w, hr, hPg, hH, ⟨⟨n, hn, e1, e2, fun k hk => by dsimp only; rw [fill_in (by omega), fill_in (by omega)]; exact e3 k hk⟩, hb, hs, harm, SR_fill hw8 hcr⟩, ⟨by omega, hCn.2.1, rfl⟩, hTu, hBe, hKp⟩
set_option maxHeartbeats 2000000 in
theorem T_count {N : Nat} {s_isKept : Int32} {s_hallsRead : Int32} {s_turnedDone : Int32} {s_beganDone : Int32} {s_page_length : Int32} {s_page_codes : (Nat → Int32)} {s_room_rows : Int32} {s_room_late : Int32} {s_room_kinds : (Nat → Int32)} {s_room_palms : (Nat → Int32)} {s_room_strengths : (Nat → Int32)} {s_night_recorded : Int32} {s_night_barsGone : Int32} {s_night_beatsLeftOut : Int32} {s_night_crowd_armRows : Int32} {s_night_crowd_sounds : (Nat → Int32)} {s_night_crowd_clapped : (Nat → Int32)} {s_night_rightBehindBar : (Nat → Int32)} {s_kept_recorded : Int32} {s_kept_barsGone : Int32} {s_kept_beatsLeftOut : Int32} {s_kept_crowd_armRows : Int32} {s_kept_crowd_sounds : (Nat → Int32)} {s_kept_crowd_clapped : (Nat → Int32)} {s_kept_rightBehindBar : (Nat → Int32)} {t_pageMany : Int32} {t_many : Int32} {t_late : Int32} {t_armNow : Int32} {t_barNow : Int32} {t_skips : Int32} {t_hallsRead : Int32} {t_turnedMany : Int32} {t_recordMany : Int32} {t_beganMany : Int32} {t_keptHall : Int32} {t_keptArm : Int32} {t_keptBar : Int32} {t_keptSkips : Int32} {t_keptRecordMany : Int32} {t_page : (Nat → Int32)} {t_rows : (Nat → Int32)} {t_sounds : (Nat → Int32)} {t_clapped : (Nat → Int32)} {t_records : (Nat → Int32)} {t_keptSounds : (Nat → Int32)} {t_keptClapped : (Nat → Int32)} {t_keptRecords : (Nat → Int32)} (t_now : (Nat → Int32)) (t_nowLong : (Nat → Int32)) (t_nowArm : Int32) (p1 : Int32) (h : Rel N s_isKept s_hallsRead s_turnedDone s_beganDone s_page_length s_page_codes s_room_rows s_room_late s_room_kinds s_room_palms s_room_strengths s_night_recorded s_night_barsGone s_night_beatsLeftOut s_night_crowd_armRows s_night_crowd_sounds s_night_crowd_clapped s_night_rightBehindBar s_kept_recorded s_kept_barsGone s_kept_beatsLeftOut s_kept_crowd_armRows s_kept_crowd_sounds s_kept_crowd_clapped s_kept_rightBehindBar t_pageMany t_many t_late t_armNow t_barNow t_skips t_hallsRead t_turnedMany t_recordMany t_beganMany t_keptHall t_keptArm t_keptBar t_keptSkips t_keptRecordMany t_page t_rows t_sounds t_clapped t_records t_keptSounds t_keptClapped t_keptRecords) : ∃ (r : Int32) (r' : (Int32 × Int32 × (Nat → Int32) × (Nat → Int32))), fX5_count s_page_length s_room_palms s_room_rows s_room_late s_night_crowd_sounds s_night_crowd_armRows s_night_recorded s_night_barsGone s_night_beatsLeftOut s_hallsRead s_turnedDone s_beganDone p1 = some r ∧ fX6_count t_pageMany t_many t_late t_armNow t_barNow t_skips t_hallsRead t_rows t_sounds t_clapped t_now t_nowLong t_nowArm t_turnedMany t_recordMany t_beganMany p1 = some r' ∧ r = r'.1 ∧ Rel (N + 1) s_isKept s_hallsRead s_turnedDone s_beganDone s_page_length s_page_codes s_room_rows s_room_late s_room_kinds s_room_palms s_room_strengths s_night_recorded s_night_barsGone s_night_beatsLeftOut s_night_crowd_armRows s_night_crowd_sounds s_night_crowd_clapped s_night_rightBehindBar s_kept_recorded s_kept_barsGone s_kept_beatsLeftOut s_kept_crowd_armRows s_kept_crowd_sounds s_kept_crowd_clapped s_kept_rightBehindBar t_pageMany t_many t_late t_armNow t_barNow t_skips t_hallsRead t_turnedMany t_recordMany t_beganMany t_keptHall t_keptArm t_keptBar t_keptSkips t_keptRecordMany t_page t_rows t_sounds t_clapped t_records t_keptSounds t_keptClapped t_keptRecords := by
  obtain ⟨w, hr, hPg, hH, hNt, hCn, hTu, hBe, hKp⟩ := h
  have hup : Rel (N + 1) _ _ _ _ _ _ _ _ _ _ _ _ _ _ _ _ _ _ _ _ _ _ _ _ _ _ _ _ _ _ _ _ _ _ _ _ _ _ _ _ _ _ _ _ _ _ _ _ := ⟨w, hr, hPg, hH, hNt, ⟨by omega, hCn.2⟩, hTu, hBe, hKp⟩
  obtain ⟨r, r', a, b, c⟩ := count_eq t_now t_nowLong t_nowArm hPg hH hNt hCn.2 hTu hBe p1
  exact ⟨r, r', a, b, c, hup⟩
set_option maxHeartbeats 2000000 in
theorem T_digest {N : Nat} {s_isKept : Int32} {s_hallsRead : Int32} {s_turnedDone : Int32} {s_beganDone : Int32} {s_page_length : Int32} {s_page_codes : (Nat → Int32)} {s_room_rows : Int32} {s_room_late : Int32} {s_room_kinds : (Nat → Int32)} {s_room_palms : (Nat → Int32)} {s_room_strengths : (Nat → Int32)} {s_night_recorded : Int32} {s_night_barsGone : Int32} {s_night_beatsLeftOut : Int32} {s_night_crowd_armRows : Int32} {s_night_crowd_sounds : (Nat → Int32)} {s_night_crowd_clapped : (Nat → Int32)} {s_night_rightBehindBar : (Nat → Int32)} {s_kept_recorded : Int32} {s_kept_barsGone : Int32} {s_kept_beatsLeftOut : Int32} {s_kept_crowd_armRows : Int32} {s_kept_crowd_sounds : (Nat → Int32)} {s_kept_crowd_clapped : (Nat → Int32)} {s_kept_rightBehindBar : (Nat → Int32)} {t_pageMany : Int32} {t_many : Int32} {t_late : Int32} {t_armNow : Int32} {t_barNow : Int32} {t_skips : Int32} {t_hallsRead : Int32} {t_turnedMany : Int32} {t_recordMany : Int32} {t_beganMany : Int32} {t_keptHall : Int32} {t_keptArm : Int32} {t_keptBar : Int32} {t_keptSkips : Int32} {t_keptRecordMany : Int32} {t_page : (Nat → Int32)} {t_rows : (Nat → Int32)} {t_sounds : (Nat → Int32)} {t_clapped : (Nat → Int32)} {t_records : (Nat → Int32)} {t_keptSounds : (Nat → Int32)} {t_keptClapped : (Nat → Int32)} {t_keptRecords : (Nat → Int32)} (s_trial_sounds : (Nat → Int32)) (s_trial_clapped : (Nat → Int32)) (s_trial_next : (Nat → Int32)) (s_trial_armRows : Int32) (t_now : (Nat → Int32)) (t_nowLong : (Nat → Int32)) (t_ahead : (Nat → Int32)) (t_nowArm : Int32) (h : Rel N s_isKept s_hallsRead s_turnedDone s_beganDone s_page_length s_page_codes s_room_rows s_room_late s_room_kinds s_room_palms s_room_strengths s_night_recorded s_night_barsGone s_night_beatsLeftOut s_night_crowd_armRows s_night_crowd_sounds s_night_crowd_clapped s_night_rightBehindBar s_kept_recorded s_kept_barsGone s_kept_beatsLeftOut s_kept_crowd_armRows s_kept_crowd_sounds s_kept_crowd_clapped s_kept_rightBehindBar t_pageMany t_many t_late t_armNow t_barNow t_skips t_hallsRead t_turnedMany t_recordMany t_beganMany t_keptHall t_keptArm t_keptBar t_keptSkips t_keptRecordMany t_page t_rows t_sounds t_clapped t_records t_keptSounds t_keptClapped t_keptRecords) : ∃ (r : (Int64 × Int32 × (Nat → Int32) × (Nat → Int32) × (Nat → Int32))) (r' : (Int64 × Int32 × Int64 × (Nat → Int32) × (Nat → Int32) × (Nat → Int32))), fX5_digest s_page_codes s_page_length s_room_kinds s_room_palms s_room_strengths s_room_rows s_room_late s_night_crowd_sounds s_night_crowd_clapped s_night_crowd_armRows s_night_recorded s_night_barsGone s_night_beatsLeftOut s_trial_sounds s_trial_clapped s_trial_next s_trial_armRows s_hallsRead s_turnedDone s_beganDone = some r ∧ fX6_digest t_page t_pageMany t_many t_late t_armNow t_barNow t_skips t_hallsRead t_rows t_sounds t_clapped t_now t_nowLong t_ahead t_nowArm t_turnedMany t_recordMany t_beganMany = some r' ∧ r.1 = r'.1 ∧ Rel (N + 1) s_isKept s_hallsRead s_turnedDone s_beganDone s_page_length s_page_codes s_room_rows s_room_late s_room_kinds s_room_palms s_room_strengths s_night_recorded s_night_barsGone s_night_beatsLeftOut s_night_crowd_armRows s_night_crowd_sounds s_night_crowd_clapped s_night_rightBehindBar s_kept_recorded s_kept_barsGone s_kept_beatsLeftOut s_kept_crowd_armRows s_kept_crowd_sounds s_kept_crowd_clapped s_kept_rightBehindBar t_pageMany t_many t_late t_armNow t_barNow t_skips t_hallsRead t_turnedMany t_recordMany t_beganMany t_keptHall t_keptArm t_keptBar t_keptSkips t_keptRecordMany t_page t_rows t_sounds t_clapped t_records t_keptSounds t_keptClapped t_keptRecords := by
  obtain ⟨w, hr, hPg, hH, hNt, hCn, hTu, hBe, hKp⟩ := h
  have hup : Rel (N + 1) _ _ _ _ _ _ _ _ _ _ _ _ _ _ _ _ _ _ _ _ _ _ _ _ _ _ _ _ _ _ _ _ _ _ _ _ _ _ _ _ _ _ _ _ _ _ _ _ := ⟨w, hr, hPg, hH, hNt, ⟨by omega, hCn.2⟩, hTu, hBe, hKp⟩
  have k5 := fun (a b : Nat → Int32) (c : Int32) (h0 : Int64) => dg5 hPg hH hNt hCn.2 hTu hBe a b c h0
  obtain ⟨n, hn, rfl, rfl, hc⟩ := id hPg
  have k4 := fun (h0 : Int64) => dg4 hn (fun k hk => (hc k hk).1) h0
  obtain ⟨hw, rfl, rfl, rfl, ⟨t, ht, rfl⟩, hh⟩ := id hH
  obtain ⟨hRec, hb, hs, rfl, hcr⟩ := id hNt
  have hw8 : w ≤ 8 := by omega
  obtain ⟨g1, a1, a2⟩ := dg1 (arm := s_night_crowd_armRows) hw8 ht hh hcr 773
  unfold fX5_digest fX6_digest
  rw [there_C hw8, lacks_M hw8, a1, kb, a2, kb, kb, kb]
  by_cases h0 : w = 0
  · rw [if_pos h0, if_pos h0, if_pos rfl, if_neg i10, kb, kb]
    dsimp only
    obtain ⟨g4, b1, b2⟩ := k4 g1
    obtain ⟨g5, c1, na, nw, nl, c2⟩ := k5 t_now t_nowLong t_nowArm g4
    rw [b1, kb, b2, kb]
    dsimp only
    rw [c1, kb, c2, kb]
    exact ⟨_, _, rfl, rfl, rfl, hup⟩
  · rw [if_neg h0, if_neg h0, if_neg i10, if_pos rfl]
    obtain ⟨r, r', x1, x2, x3⟩ := rest_sim hw8 s_night_crowd_armRows hh hcr s_trial_sounds s_trial_clapped s_trial_next t_now t_nowLong t_ahead
    obtain ⟨v, zC, zM, y1, y2⟩ := outcome_sim hw8 s_night_crowd_armRows hh hcr r.2.2.1 r.2.2.2.1 r.2.2.2.2 r'.2.2.1 r'.2.2.2.1 r'.2.2.2.2 (n := 4) (by omega)
    obtain ⟨q, q', z1, z2, z3⟩ := trick_sim hw8 s_night_crowd_armRows hh hcr zC.1 zC.2.1 zC.2.2 zM.1 zM.2.1 zM.2.2 (n := 4) (by omega) 0
    obtain ⟨o, o', w1, w2, w3⟩ := trick_sim hw8 s_night_crowd_armRows hh hcr q.2.2.1 q.2.2.2.1 q.2.2.2.2 q'.2.2.1 q'.2.2.2.1 q'.2.2.2.2 (n := 4) (by omega) 1
    have y1' : fX5_rightBehind s_room_kinds s_room_palms s_room_strengths (nI w) s_night_crowd_sounds s_night_crowd_clapped s_night_crowd_armRows r.2.2.1 r.2.2.2.1 r.2.2.2.2 4 (-1) = _ := y1
    have y2' : fX6_outcomeOf (nI w) s_night_crowd_armRows t_rows t_sounds t_clapped r'.2.2.1 r'.2.2.2.1 r'.2.2.2.2 4 = _ := y2
    have z1' : fX5_trickTold s_room_kinds s_room_palms s_room_strengths (nI w) s_night_crowd_sounds s_night_crowd_clapped s_night_crowd_armRows zC.1 zC.2.1 zC.2.2 4 0 = _ := z1
    have z2' : fX6_trickOf (nI w) s_night_crowd_armRows t_rows t_sounds t_clapped zM.1 zM.2.1 zM.2.2 4 0 = _ := z2
    have w1' : fX5_trickTold s_room_kinds s_room_palms s_room_strengths (nI w) s_night_crowd_sounds s_night_crowd_clapped s_night_crowd_armRows q.2.2.1 q.2.2.2.1 q.2.2.2.2 4 1 = _ := w1
    have w2' : fX6_trickOf (nI w) s_night_crowd_armRows t_rows t_sounds t_clapped q'.2.2.1 q'.2.2.2.1 q'.2.2.2.2 4 1 = _ := w2
    simp only [x1, x2, kb, mix_s, say_s, y1', y2', z1', z2', w1', w2']
    rw [x3, z3, w3]
    obtain ⟨g4, b1, b2⟩ := k4 (31 * (31 * (31 * (31 * g1 + r'.1.toInt64) + v.toInt64) + q'.1.toInt64) + o'.1.toInt64)
    obtain ⟨g5, c1, na, nw, nl, c2⟩ := k5 o'.2.2.1 o'.2.2.2.1 o'.2.1 g4
    rw [b1, kb, b2, kb]
    dsimp only
    rw [c1, kb, c2, kb]
    exact ⟨_, _, rfl, rfl, rfl, hup⟩
