theorem kdn {t k k1 hi : Int} (e : k + 1 = k1) (hne : ¬ t = k) (h : t < k1 ∨ hi < t) : t < k ∨ hi < t := by omega
theorem kdb {k1 hi : Int} (e : hi + 1 = k1) (t : Int) : t < k1 ∨ hi < t := by omega
theorem kn_bo0 : narrow .boolean (.int 0) = .int 0 := by decide
theorem kn_bo1 : narrow .boolean (.int 1) = .int 1 := by decide
theorem kn_by0 : narrow .byte (.int 0) = .int 0 := by decide
abbrev wT (cI : ClassId) (q0 q1 q2 q3 q4 q5 q6 q7 q8 q9 q10 q11 q12 q13 q14 q15 q16 q17 q18 q19 q20 q21 q22 : Nat) (s_isKept : Int32) (s_hallsRead : Int32) (s_turnedDone : Int32) (s_beganDone : Int32) (s_page_length : Int32) (s_page_codes : (Nat → Int32)) (s_room_rows : Int32) (s_room_late : Int32) (s_room_kinds : (Nat → Int32)) (s_room_palms : (Nat → Int32)) (s_room_strengths : (Nat → Int32)) (s_night_recorded : Int32) (s_night_barsGone : Int32) (s_night_beatsLeftOut : Int32) (s_night_crowd_armRows : Int32) (s_night_crowd_sounds : (Nat → Int32)) (s_night_crowd_clapped : (Nat → Int32)) (s_night_crowd_next : (Nat → Int32)) (s_night_rightBehindBar : (Nat → Int32)) (s_kept_recorded : Int32) (s_kept_barsGone : Int32) (s_kept_beatsLeftOut : Int32) (s_kept_crowd_armRows : Int32) (s_kept_crowd_sounds : (Nat → Int32)) (s_kept_crowd_clapped : (Nat → Int32)) (s_kept_crowd_next : (Nat → Int32)) (s_kept_rightBehindBar : (Nat → Int32)) (s_trial_armRows : Int32) (s_trial_sounds : (Nat → Int32)) (s_trial_clapped : (Nat → Int32)) (s_trial_next : (Nat → Int32)) : va_W := [(q0, .inr (5, [.ref q1, .ref q3, .ref q7, .ref q13, .ref q19, .int s_isKept, .int s_hallsRead, .int s_turnedDone, .int s_beganDone])), (q1, .inr (4, [.ref q2, .int s_page_length])), (q2, .inl (cI, 36, .inl s_page_codes)), (q3, .inr (2, [.ref q4, .ref q5, .ref q6, .int s_room_rows, .int s_room_late])), (q4, .inl (cI, 8, .inl s_room_kinds)), (q5, .inl (cI, 8, .inl s_room_palms)), (q6, .inl (cI, 8, .inl s_room_strengths)), (q7, .inr (3, [.ref q8, .ref q12, .int s_night_recorded, .int s_night_barsGone, .int s_night_beatsLeftOut])), (q8, .inr (0, [.ref q9, .ref q10, .ref q11, .int s_night_crowd_armRows])), (q9, .inl (cI, 8, .inl s_night_crowd_sounds)), (q10, .inl (cI, 8, .inl s_night_crowd_clapped)), (q11, .inl (cI, 8, .inl s_night_crowd_next)), (q12, .inl (cI, 8, .inl s_night_rightBehindBar)), (q13, .inr (3, [.ref q14, .ref q18, .int s_kept_recorded, .int s_kept_barsGone, .int s_kept_beatsLeftOut])), (q14, .inr (0, [.ref q15, .ref q16, .ref q17, .int s_kept_crowd_armRows])), (q15, .inl (cI, 8, .inl s_kept_crowd_sounds)), (q16, .inl (cI, 8, .inl s_kept_crowd_clapped)), (q17, .inl (cI, 8, .inl s_kept_crowd_next)), (q18, .inl (cI, 8, .inl s_kept_rightBehindBar)), (q19, .inr (0, [.ref q20, .ref q21, .ref q22, .int s_trial_armRows])), (q20, .inl (cI, 8, .inl s_trial_sounds)), (q21, .inl (cI, 8, .inl s_trial_clapped)), (q22, .inl (cI, 8, .inl s_trial_next))]
abbrev wM (cI : ClassId) (q0 q1 q2 q3 q4 q5 q6 q7 q8 q9 q10 q11 q12 : Nat) (s_pageMany : Int32) (s_readMany : Int32) (s_readLate : Int32) (s_state : Int32) (s_many : Int32) (s_late : Int32) (s_armNow : Int32) (s_barNow : Int32) (s_skips : Int32) (s_hallsRead : Int32) (s_nowArm : Int32) (s_turnedMany : Int32) (s_recordMany : Int32) (s_beganMany : Int32) (s_seedNow : Int32) (s_keptHall : Int32) (s_keptArm : Int32) (s_keptBar : Int32) (s_keptSkips : Int32) (s_keptRecordMany : Int32) (s_hash : Int64) (s_page : (Nat → Int32)) (s_read : (Nat → Int32)) (s_rows : (Nat → Int32)) (s_sounds : (Nat → Int32)) (s_clapped : (Nat → Int32)) (s_now : (Nat → Int32)) (s_nowLong : (Nat → Int32)) (s_ahead : (Nat → Int32)) (s_records : (Nat → Int32)) (s_keptSounds : (Nat → Int32)) (s_keptClapped : (Nat → Int32)) (s_keptRecords : (Nat → Int32)) : va_W := [(q0, .inr (6, [.ref q1, .int s_pageMany, .ref q2, .int s_readMany, .int s_readLate, .int s_state, .int s_many, .int s_late, .int s_armNow, .int s_barNow, .int s_skips, .int s_hallsRead, .ref q3, .ref q4, .ref q5, .ref q6, .ref q7, .ref q8, .int s_nowArm, .int s_turnedMany, .int s_recordMany, .ref q9, .int s_beganMany, .int s_seedNow, .int s_keptHall, .int s_keptArm, .int s_keptBar, .int s_keptSkips, .int s_keptRecordMany, .ref q10, .ref q11, .ref q12, .long s_hash])), (q1, .inl (cI, 36, .inl s_page)), (q2, .inl (cI, 24, .inl s_read)), (q3, .inl (cI, 24, .inl s_rows)), (q4, .inl (cI, 8, .inl s_sounds)), (q5, .inl (cI, 8, .inl s_clapped)), (q6, .inl (cI, 8, .inl s_now)), (q7, .inl (cI, 8, .inl s_nowLong)), (q8, .inl (cI, 8, .inl s_ahead)), (q9, .inl (cI, 8, .inl s_records)), (q10, .inl (cI, 8, .inl s_keptSounds)), (q11, .inl (cI, 8, .inl s_keptClapped)), (q12, .inl (cI, 8, .inl s_keptRecords))]
abbrev wC (cI : ClassId) (q0 q1 q2 q3 : Nat) (s_armRows : Int32) (s_sounds : (Nat → Int32)) (s_clapped : (Nat → Int32)) (s_next : (Nat → Int32)) : va_W := [(q0, .inr (0, [.ref q1, .ref q2, .ref q3, .int s_armRows])), (q1, .inl (cI, 8, .inl s_sounds)), (q2, .inl (cI, 8, .inl s_clapped)), (q3, .inl (cI, 8, .inl s_next))]
abbrev wH (cI : ClassId) (q0 q1 q2 q3 : Nat) (s_rows : Int32) (s_late : Int32) (s_kinds : (Nat → Int32)) (s_palms : (Nat → Int32)) (s_strengths : (Nat → Int32)) : va_W := [(q0, .inr (2, [.ref q1, .ref q2, .ref q3, .int s_rows, .int s_late])), (q1, .inl (cI, 8, .inl s_kinds)), (q2, .inl (cI, 8, .inl s_palms)), (q3, .inl (cI, 8, .inl s_strengths))]
abbrev wP (cI : ClassId) (q0 q1 : Nat) (s_length : Int32) (s_codes : (Nat → Int32)) : va_W := [(q0, .inr (4, [.ref q1, .int s_length])), (q1, .inl (cI, 36, .inl s_codes))]
abbrev wN (cI : ClassId) (q0 q1 q2 q3 q4 q5 : Nat) (s_recorded : Int32) (s_barsGone : Int32) (s_beatsLeftOut : Int32) (s_crowd_armRows : Int32) (s_crowd_sounds : (Nat → Int32)) (s_crowd_clapped : (Nat → Int32)) (s_crowd_next : (Nat → Int32)) (s_rightBehindBar : (Nat → Int32)) : va_W := [(q0, .inr (3, [.ref q1, .ref q5, .int s_recorded, .int s_barsGone, .int s_beatsLeftOut])), (q1, .inr (0, [.ref q2, .ref q3, .ref q4, .int s_crowd_armRows])), (q2, .inl (cI, 8, .inl s_crowd_sounds)), (q3, .inl (cI, 8, .inl s_crowd_clapped)), (q4, .inl (cI, 8, .inl s_crowd_next)), (q5, .inl (cI, 8, .inl s_rightBehindBar))]
abbrev wCH (cI : ClassId) (q0 q1 q2 q3 q4 q5 q6 q7 : Nat) (s_armRows : Int32) (s_sounds : (Nat → Int32)) (s_clapped : (Nat → Int32)) (s_next : (Nat → Int32)) (s_o_rows : Int32) (s_o_late : Int32) (s_o_kinds : (Nat → Int32)) (s_o_palms : (Nat → Int32)) (s_o_strengths : (Nat → Int32)) : va_W := [(q0, .inr (0, [.ref q1, .ref q2, .ref q3, .int s_armRows])), (q1, .inl (cI, 8, .inl s_sounds)), (q2, .inl (cI, 8, .inl s_clapped)), (q3, .inl (cI, 8, .inl s_next)), (q4, .inr (2, [.ref q5, .ref q6, .ref q7, .int s_o_rows, .int s_o_late])), (q5, .inl (cI, 8, .inl s_o_kinds)), (q6, .inl (cI, 8, .inl s_o_palms)), (q7, .inl (cI, 8, .inl s_o_strengths))]
abbrev wCC (cI : ClassId) (q0 q1 q2 q3 q4 q5 q6 q7 : Nat) (s_armRows : Int32) (s_sounds : (Nat → Int32)) (s_clapped : (Nat → Int32)) (s_next : (Nat → Int32)) (s_o_armRows : Int32) (s_o_sounds : (Nat → Int32)) (s_o_clapped : (Nat → Int32)) (s_o_next : (Nat → Int32)) : va_W := [(q0, .inr (0, [.ref q1, .ref q2, .ref q3, .int s_armRows])), (q1, .inl (cI, 8, .inl s_sounds)), (q2, .inl (cI, 8, .inl s_clapped)), (q3, .inl (cI, 8, .inl s_next)), (q4, .inr (0, [.ref q5, .ref q6, .ref q7, .int s_o_armRows])), (q5, .inl (cI, 8, .inl s_o_sounds)), (q6, .inl (cI, 8, .inl s_o_clapped)), (q7, .inl (cI, 8, .inl s_o_next))]
abbrev wNH (cI : ClassId) (q0 q1 q2 q3 q4 q5 q6 q7 q8 q9 : Nat) (s_recorded : Int32) (s_barsGone : Int32) (s_beatsLeftOut : Int32) (s_crowd_armRows : Int32) (s_crowd_sounds : (Nat → Int32)) (s_crowd_clapped : (Nat → Int32)) (s_crowd_next : (Nat → Int32)) (s_rightBehindBar : (Nat → Int32)) (s_o_rows : Int32) (s_o_late : Int32) (s_o_kinds : (Nat → Int32)) (s_o_palms : (Nat → Int32)) (s_o_strengths : (Nat → Int32)) : va_W := [(q0, .inr (3, [.ref q1, .ref q5, .int s_recorded, .int s_barsGone, .int s_beatsLeftOut])), (q1, .inr (0, [.ref q2, .ref q3, .ref q4, .int s_crowd_armRows])), (q2, .inl (cI, 8, .inl s_crowd_sounds)), (q3, .inl (cI, 8, .inl s_crowd_clapped)), (q4, .inl (cI, 8, .inl s_crowd_next)), (q5, .inl (cI, 8, .inl s_rightBehindBar)), (q6, .inr (2, [.ref q7, .ref q8, .ref q9, .int s_o_rows, .int s_o_late])), (q7, .inl (cI, 8, .inl s_o_kinds)), (q8, .inl (cI, 8, .inl s_o_palms)), (q9, .inl (cI, 8, .inl s_o_strengths))]
abbrev wNN (cI : ClassId) (q0 q1 q2 q3 q4 q5 q6 q7 q8 q9 q10 q11 : Nat) (s_recorded : Int32) (s_barsGone : Int32) (s_beatsLeftOut : Int32) (s_crowd_armRows : Int32) (s_crowd_sounds : (Nat → Int32)) (s_crowd_clapped : (Nat → Int32)) (s_crowd_next : (Nat → Int32)) (s_rightBehindBar : (Nat → Int32)) (s_o_recorded : Int32) (s_o_barsGone : Int32) (s_o_beatsLeftOut : Int32) (s_o_crowd_armRows : Int32) (s_o_crowd_sounds : (Nat → Int32)) (s_o_crowd_clapped : (Nat → Int32)) (s_o_crowd_next : (Nat → Int32)) (s_o_rightBehindBar : (Nat → Int32)) : va_W := [(q0, .inr (3, [.ref q1, .ref q5, .int s_recorded, .int s_barsGone, .int s_beatsLeftOut])), (q1, .inr (0, [.ref q2, .ref q3, .ref q4, .int s_crowd_armRows])), (q2, .inl (cI, 8, .inl s_crowd_sounds)), (q3, .inl (cI, 8, .inl s_crowd_clapped)), (q4, .inl (cI, 8, .inl s_crowd_next)), (q5, .inl (cI, 8, .inl s_rightBehindBar)), (q6, .inr (3, [.ref q7, .ref q11, .int s_o_recorded, .int s_o_barsGone, .int s_o_beatsLeftOut])), (q7, .inr (0, [.ref q8, .ref q9, .ref q10, .int s_o_crowd_armRows])), (q8, .inl (cI, 8, .inl s_o_crowd_sounds)), (q9, .inl (cI, 8, .inl s_o_crowd_clapped)), (q10, .inl (cI, 8, .inl s_o_crowd_next)), (q11, .inl (cI, 8, .inl s_o_rightBehindBar))]
abbrev wHP (cI : ClassId) (q0 q1 q2 q3 q4 q5 : Nat) (s_rows : Int32) (s_late : Int32) (s_kinds : (Nat → Int32)) (s_palms : (Nat → Int32)) (s_strengths : (Nat → Int32)) (s_o_length : Int32) (s_o_codes : (Nat → Int32)) : va_W := [(q0, .inr (2, [.ref q1, .ref q2, .ref q3, .int s_rows, .int s_late])), (q1, .inl (cI, 8, .inl s_kinds)), (q2, .inl (cI, 8, .inl s_palms)), (q3, .inl (cI, 8, .inl s_strengths)), (q4, .inr (4, [.ref q5, .int s_o_length])), (q5, .inl (cI, 36, .inl s_o_codes))]
abbrev wTD (cI : ClassId) (q0 q1 q2 q3 q4 q5 q6 q7 q8 q9 q10 q11 q12 q13 q14 q15 q16 q17 q18 q19 q20 q21 q22 q23 : Nat) (s_isKept : Int32) (s_hallsRead : Int32) (s_turnedDone : Int32) (s_beganDone : Int32) (s_page_length : Int32) (s_page_codes : (Nat → Int32)) (s_room_rows : Int32) (s_room_late : Int32) (s_room_kinds : (Nat → Int32)) (s_room_palms : (Nat → Int32)) (s_room_strengths : (Nat → Int32)) (s_night_recorded : Int32) (s_night_barsGone : Int32) (s_night_beatsLeftOut : Int32) (s_night_crowd_armRows : Int32) (s_night_crowd_sounds : (Nat → Int32)) (s_night_crowd_clapped : (Nat → Int32)) (s_night_crowd_next : (Nat → Int32)) (s_night_rightBehindBar : (Nat → Int32)) (s_kept_recorded : Int32) (s_kept_barsGone : Int32) (s_kept_beatsLeftOut : Int32) (s_kept_crowd_armRows : Int32) (s_kept_crowd_sounds : (Nat → Int32)) (s_kept_crowd_clapped : (Nat → Int32)) (s_kept_crowd_next : (Nat → Int32)) (s_kept_rightBehindBar : (Nat → Int32)) (s_trial_armRows : Int32) (s_trial_sounds : (Nat → Int32)) (s_trial_clapped : (Nat → Int32)) (s_trial_next : (Nat → Int32)) (s_o_seed : Int32) : va_W := [(q0, .inr (5, [.ref q1, .ref q3, .ref q7, .ref q13, .ref q19, .int s_isKept, .int s_hallsRead, .int s_turnedDone, .int s_beganDone])), (q1, .inr (4, [.ref q2, .int s_page_length])), (q2, .inl (cI, 36, .inl s_page_codes)), (q3, .inr (2, [.ref q4, .ref q5, .ref q6, .int s_room_rows, .int s_room_late])), (q4, .inl (cI, 8, .inl s_room_kinds)), (q5, .inl (cI, 8, .inl s_room_palms)), (q6, .inl (cI, 8, .inl s_room_strengths)), (q7, .inr (3, [.ref q8, .ref q12, .int s_night_recorded, .int s_night_barsGone, .int s_night_beatsLeftOut])), (q8, .inr (0, [.ref q9, .ref q10, .ref q11, .int s_night_crowd_armRows])), (q9, .inl (cI, 8, .inl s_night_crowd_sounds)), (q10, .inl (cI, 8, .inl s_night_crowd_clapped)), (q11, .inl (cI, 8, .inl s_night_crowd_next)), (q12, .inl (cI, 8, .inl s_night_rightBehindBar)), (q13, .inr (3, [.ref q14, .ref q18, .int s_kept_recorded, .int s_kept_barsGone, .int s_kept_beatsLeftOut])), (q14, .inr (0, [.ref q15, .ref q16, .ref q17, .int s_kept_crowd_armRows])), (q15, .inl (cI, 8, .inl s_kept_crowd_sounds)), (q16, .inl (cI, 8, .inl s_kept_crowd_clapped)), (q17, .inl (cI, 8, .inl s_kept_crowd_next)), (q18, .inl (cI, 8, .inl s_kept_rightBehindBar)), (q19, .inr (0, [.ref q20, .ref q21, .ref q22, .int s_trial_armRows])), (q20, .inl (cI, 8, .inl s_trial_sounds)), (q21, .inl (cI, 8, .inl s_trial_clapped)), (q22, .inl (cI, 8, .inl s_trial_next)), (q23, .inr (1, [.int s_o_seed]))]
theorem iX0_init_X0 : ∀ w ∈ wsX00, w ∈ wsX0_init := by decide +kernel
def rX0_init : Room := { frames := 1, cells := 3, slots := 24, locals := 20 }
set_option maxHeartbeats 4000000 in
set_option maxRecDepth 100000 in
theorem mX0_init (l : Launch) (D : va_G) (cI : ClassId) (ad : Nat × Nat) (q0 : Nat) (sz : Nat) : Met l yX0_init wsX0_init rX0_init (kPre D cI ad [.ref q0] [(q0, .inr (0, [.null, .null, .null, .int 0]))] sz) (kQn D cI (fun (u : (Nat × Nat × Nat)) => (wC cI q0 u.1 u.2.1 u.2.2 0 (fun _ => 0) (fun _ => 0) (fun _ => 0))) (va_A [(q0, .inr (0, [.null, .null, .null, .int 0]))] sz)) 3 24 (va_A [(q0, .inr (0, [.null, .null, .null, .int 0]))] sz) := by
  refine kStart (cc := cX0_init) (maxL := 1) (ret := none) (Qc := fun A => kQn D cI (fun (u : (Nat × Nat × Nat)) => (wC cI q0 u.1 u.2.1 u.2.2 0 (fun _ => 0) (fun _ => 0) (fun _ => 0))) A) (by decide) rfl (Nat.le_of_ble_eq_true rfl) ?_
  intro p e s m args below meth c A ls hx hb hr hts hown hlocks hin hml hN hST hA hS hP hK hD hl
  have hown : s.vm.findClass RX0 = some m.cls := hown
  have hl : lv_has ls 1 [(0, .ref q0)] := hl
  refine lv_aload_n hx hb dX0_init_0 rfl (lv_at hl 0 rfl) ?_
  refine W.objInit hx hb hown (hts (.methodLink RX0 3 objectInit) (by decide +kernel)) (hts (.instanceMethod objectInit) (by decide +kernel)) (hts (.code objectInit ⟨#[0xb1]⟩ 1 none) (by decide +kernel)) rfl (by rw [hml]; exact hl.1) rfl dX0_init_1 (Nat.le_of_ble_eq_true rfl) (Nat.le_of_ble_eq_true rfl) ?_
  refine lv_aload_n hx hb dX0_init_4 rfl (lv_at hl 0 rfl) ?_
  refine lv_bipush (v := 8) hx hb dX0_init_5 (by decide) ?_
  refine k_newa 8 (k2 := 1) (n2 := 8) hx hb (hts (.arrayClass .int) (by decide +kernel)) hK hP hD hS hA (by decide) (by decide) (by decide) (Nat.le_of_ble_eq_true rfl) (Nat.le_of_ble_eq_true rfl) dX0_init_7 (fun q1 => [(q0, .inr (0, [.null, .null, .null, .int 0])), (q1, .inl (cI, 8, .inl (fun _ => 0)))]) (fun _ => rfl) rfl rfl (fun q1 H hP hD hS => ?_)
  refine va_putF (D := D) (ci := 0) (v := .ref q1) (ty := (.array .int)) (C := RX0) (T := TX0) (N := 4) hx hb hts iX0_init_X0 tyX0 tyX0_ok nmX0 hown hK hP hD hS 0 rfl rfl 0 (by decide) (hts (.fieldLink RX0 9 "ClappedWrong$Crowd" "sounds" "[I") (by decide +kernel)) (fun _ h9 => h9) rfl hin rfl (by decide +kernel) rfl rfl (Nat.le_of_ble_eq_true rfl) dX0_init_9 (fun H locs hP hD hS => ?_)
  have hP : va_P D vwCl [(q0, .inr (0, [.ref q1, .null, .null, .int 0])), (q1, .inl (cI, 8, .inl (fun _ => 0)))] H := hP
  have hD : va_D A [(q0, .inr (0, [.ref q1, .null, .null, .int 0])), (q1, .inl (cI, 8, .inl (fun _ => 0)))] := hD
  refine lv_aload_n hx hb dX0_init_12 rfl (lv_at hl 0 rfl) ?_
  refine lv_bipush (v := 8) hx hb dX0_init_13 (by decide) ?_
  refine k_newa 8 (k2 := 2) (n2 := 16) hx hb (hts (.arrayClass .int) (by decide +kernel)) hK hP hD hS hA (by decide) (by decide) (by decide) (Nat.le_of_ble_eq_true rfl) (Nat.le_of_ble_eq_true rfl) dX0_init_15 (fun q2 => [(q0, .inr (0, [.ref q1, .null, .null, .int 0])), (q1, .inl (cI, 8, .inl (fun _ => 0))), (q2, .inl (cI, 8, .inl (fun _ => 0)))]) (fun _ => rfl) rfl rfl (fun q2 H hP hD hS => ?_)
  refine va_putF (D := D) (ci := 0) (v := .ref q2) (ty := (.array .int)) (C := RX0) (T := TX0) (N := 4) hx hb hts iX0_init_X0 tyX0 tyX0_ok nmX0 hown hK hP hD hS 0 rfl rfl 1 (by decide) (hts (.fieldLink RX0 15 "ClappedWrong$Crowd" "clapped" "[I") (by decide +kernel)) (fun _ h9 => h9) rfl hin rfl (by decide +kernel) rfl rfl (Nat.le_of_ble_eq_true rfl) dX0_init_17 (fun H locs hP hD hS => ?_)
  have hP : va_P D vwCl [(q0, .inr (0, [.ref q1, .ref q2, .null, .int 0])), (q1, .inl (cI, 8, .inl (fun _ => 0))), (q2, .inl (cI, 8, .inl (fun _ => 0)))] H := hP
  have hD : va_D A [(q0, .inr (0, [.ref q1, .ref q2, .null, .int 0])), (q1, .inl (cI, 8, .inl (fun _ => 0))), (q2, .inl (cI, 8, .inl (fun _ => 0)))] := hD
  refine lv_aload_n hx hb dX0_init_20 rfl (lv_at hl 0 rfl) ?_
  refine lv_bipush (v := 8) hx hb dX0_init_21 (by decide) ?_
  refine k_newa 8 (k2 := 3) (n2 := 24) hx hb (hts (.arrayClass .int) (by decide +kernel)) hK hP hD hS hA (by decide) (by decide) (by decide) (Nat.le_of_ble_eq_true rfl) (Nat.le_of_ble_eq_true rfl) dX0_init_23 (fun q3 => [(q0, .inr (0, [.ref q1, .ref q2, .null, .int 0])), (q1, .inl (cI, 8, .inl (fun _ => 0))), (q2, .inl (cI, 8, .inl (fun _ => 0))), (q3, .inl (cI, 8, .inl (fun _ => 0)))]) (fun _ => rfl) rfl rfl (fun q3 H hP hD hS => ?_)
  refine va_putF (D := D) (ci := 0) (v := .ref q3) (ty := (.array .int)) (C := RX0) (T := TX0) (N := 4) hx hb hts iX0_init_X0 tyX0 tyX0_ok nmX0 hown hK hP hD hS 0 rfl rfl 2 (by decide) (hts (.fieldLink RX0 18 "ClappedWrong$Crowd" "next" "[I") (by decide +kernel)) (fun _ h9 => h9) rfl hin rfl (by decide +kernel) rfl rfl (Nat.le_of_ble_eq_true rfl) dX0_init_25 (fun H locs hP hD hS => ?_)
  have hP : va_P D vwCl (wC cI q0 q1 q2 q3 0 (fun _ => 0) (fun _ => 0) (fun _ => 0)) H := hP
  have hD : va_D A (wC cI q0 q1 q2 q3 0 (fun _ => 0) (fun _ => 0) (fun _ => 0)) := hD
  refine lv_aload_n hx hb dX0_init_28 rfl (lv_at hl 0 rfl) ?_
  refine lv_iconst (v := 0) hx hb dX0_init_29 (by decide) ?_
  refine va_put (D := D) (ci := 0) (v := .int 0) (ty := .int) (C := RX0) (T := TX0) (N := 4) hx hb hts iX0_init_X0 tyX0 tyX0_ok nmX0 hown hK hP hD hS 0 rfl rfl 3 (by decide) (hts (.fieldLink RX0 21 "ClappedWrong$Crowd" "armRows" "I") (by decide +kernel)) (fun _ h9 => h9) rfl (by decide +kernel) rfl rfl (Nat.le_of_ble_eq_true rfl) dX0_init_30 (fun H locs hP hD hS => ?_)
  have hP : va_P D vwCl (wC cI q0 q1 q2 q3 0 (fun _ => 0) (fun _ => 0) (fun _ => 0)) H := hP
  have hD : va_D A (wC cI q0 q1 q2 q3 0 (fun _ => 0) (fun _ => 0) (fun _ => 0)) := hD
  have hP := hP.sub (ws' := (wC cI q0 q1 q2 q3 0 (fun _ => 0) (fun _ => 0) (fun _ => 0))) [0, 1, 2, 3] rfl
  have hD := hD.sub (ws' := (wC cI q0 q1 q2 q3 0 (fun _ => 0) (fun _ => 0) (fun _ => 0))) [0, 1, 2, 3] (by decide) rfl
  exact k_nret (wn := (fun (u : (Nat × Nat × Nat)) => (wC cI q0 u.1 u.2.1 u.2.2 0 (fun _ => 0) (fun _ => 0) (fun _ => 0)))) (q1, q2, q3) hx hb hr hlocks hK hP hD hS dX0_init_33
theorem iX0_takeFrom_X0 : ∀ w ∈ wsX00, w ∈ wsX0_takeFrom := by decide +kernel
def rX0_takeFrom : Room := { frames := 0, cells := 0, slots := 0, locals := 0 }
set_option maxHeartbeats 4000000 in
set_option maxRecDepth 100000 in
theorem mX0_takeFrom (l : Launch) (D : va_G) (cI : ClassId) (ad : Nat × Nat) (q0 q1 q2 q3 q4 q5 q6 q7 : Nat) (sz : Nat) (s_armRows : Int32) (s_sounds : (Nat → Int32)) (s_clapped : (Nat → Int32)) (s_next : (Nat → Int32)) (s_other_armRows : Int32) (s_other_sounds : (Nat → Int32)) (s_other_clapped : (Nat → Int32)) (s_other_next : (Nat → Int32)) (r : (Int32 × (Nat → Int32) × (Nat → Int32))) (h : fX0_takeFrom s_sounds s_clapped s_other_sounds s_other_clapped s_other_armRows = some r) : Met l yX0_takeFrom wsX0_takeFrom rX0_takeFrom (kPre D cI ad [.ref q0, .ref q4] (wCC cI q0 q1 q2 q3 q4 q5 q6 q7 s_armRows s_sounds s_clapped s_next s_other_armRows s_other_sounds s_other_clapped s_other_next) sz) (kQv D cI (wCC cI q0 q1 q2 q3 q4 q5 q6 q7 r.1 r.2.1 r.2.2 s_next s_other_armRows s_other_sounds s_other_clapped s_other_next) (va_A (wCC cI q0 q1 q2 q3 q4 q5 q6 q7 s_armRows s_sounds s_clapped s_next s_other_armRows s_other_sounds s_other_clapped s_other_next) sz)) 0 0 (va_A (wCC cI q0 q1 q2 q3 q4 q5 q6 q7 s_armRows s_sounds s_clapped s_next s_other_armRows s_other_sounds s_other_clapped s_other_next) sz) := by
  refine kStart (cc := cX0_takeFrom) (maxL := 3) (ret := none) (Qc := fun A => kQv D cI (wCC cI q0 q1 q2 q3 q4 q5 q6 q7 r.1 r.2.1 r.2.2 s_next s_other_armRows s_other_sounds s_other_clapped s_other_next) A) (by decide) rfl (Nat.le_of_ble_eq_true rfl) ?_
  intro p e s m args below meth c A ls hx hb hr hts hown hlocks hin hml hN hST hA hS hP hK hD hl
  have hown : s.vm.findClass RX0 = some m.cls := hown
  have hl : lv_has ls 3 [(0, .ref q0), (1, .ref q4)] := hl
  have hRet : ∀ (H : Heap) (locs : List Loc) (ls : Array Slot) (pc : Nat), va_P D vwCl (wCC cI q0 q1 q2 q3 q4 q5 q6 q7 r.1 r.2.1 r.2.2 s_next s_other_armRows s_other_sounds s_other_clapped s_other_next) H → va_D A (wCC cI q0 q1 q2 q3 q4 q5 q6 q7 r.1 r.2.1 r.2.2 s_next s_other_armRows s_other_sounds s_other_clapped s_other_next) → va_S A s.heap H locs → decode cX0_takeFrom pc = .ok (.return_, 1) → W p l e rX0_takeFrom s m args below meth c H locs 0 0 (MQ below (kQv D cI (wCC cI q0 q1 q2 q3 q4 q5 q6 q7 r.1 r.2.1 r.2.2 s_next s_other_armRows s_other_sounds s_other_clapped s_other_next) A) args s 0 0 A) (F0 m pc ls []) := fun H locs ls pc hP hD hS hd => k_vret hx hb hr hlocks hK hP hD hS hd
  generalize MQ below (kQv D cI (wCC cI q0 q1 q2 q3 q4 q5 q6 q7 r.1 r.2.1 r.2.2 s_next s_other_armRows s_other_sounds s_other_clapped s_other_next) A) args s 0 0 A = Q at hRet ⊢
  unfold fX0_takeFrom at h
  refine lv_iconst (v := 0) hx hb dX0_takeFrom_0 (by decide) ?_
  refine lv_istore_n (lv' := [(2, .int 0), (0, .ref q0), (1, .ref q4)]) hx hb dX0_takeFrom_1 rfl hl (by decide) rfl (fun ls hl => ?_)
  obtain ⟨u2, hu2, h⟩ := k_bs h
  refine kIter_ind (fun (z1 : (Int32 × (Nat → Int32) × (Nat → Int32))) (u2 : (Int32 × (Nat → Int32) × (Nat → Int32))) => ∀ (H : Heap) (locs : List Loc) (ls : Array Slot), va_P D vwCl (wCC cI q0 q1 q2 q3 q4 q5 q6 q7 s_armRows z1.2.1 z1.2.2 s_next s_other_armRows s_other_sounds s_other_clapped s_other_next) H → va_D A (wCC cI q0 q1 q2 q3 q4 q5 q6 q7 s_armRows z1.2.1 z1.2.2 s_next s_other_armRows s_other_sounds s_other_clapped s_other_next) → va_S A s.heap H locs → lv_has ls 3 [(0, .ref q0), (1, .ref q4), (2, .int z1.1)] → (∀ (H : Heap) (locs : List Loc) (ls : Array Slot), va_P D vwCl (wCC cI q0 q1 q2 q3 q4 q5 q6 q7 s_armRows u2.2.1 u2.2.2 s_next s_other_armRows s_other_sounds s_other_clapped s_other_next) H → va_D A (wCC cI q0 q1 q2 q3 q4 q5 q6 q7 s_armRows u2.2.1 u2.2.2 s_next s_other_armRows s_other_sounds s_other_clapped s_other_next) → va_S A s.heap H locs → lv_has ls 3 [(0, .ref q0), (1, .ref q4), (2, .int u2.1)] → W p l e rX0_takeFrom s m args below meth c H locs 0 0 Q (F0 m 38 ls [])) → W p l e rX0_takeFrom s m args below meth c H locs 0 0 Q (F0 m 2 ls [])) ?_ _ _ _ hu2 _ _ _ hP hD hS (lv_sub hl [1, 2, 0] rfl) ?_
  · intro rc1 ih1 z1 u2 h H locs ls hP hD hS hl kx1
    unfold fX0_takeFrom_L1 at h
    refine lv_iload_n hx hb dX0_takeFrom_2 rfl (lv_at hl 2 rfl) ?_
    refine lv_bipush (v := 8) hx hb dX0_takeFrom_3 (by decide) ?_
    refine lv_icmp_ge (tgt := 38) hx hb dX0_takeFrom_5 (by decide) (fun c0 => ?_) (fun c0 => ?_)
    · have h := (if_pos c0).symm.trans h
      have h := Option.some.inj h
      subst h
      exact kx1 _ _ _ hP hD hS (lv_sub hl [0, 1, 2] rfl)
    · have h := (if_neg c0).symm.trans h
      refine lv_aload_n hx hb dX0_takeFrom_8 rfl (lv_at hl 0 rfl) ?_
      refine va_get (D := D) (ci := 0) (v := .ref q1) (C := RX0) (T := TX0) (N := 4) hx hb hts iX0_takeFrom_X0 hown hK hP 0 rfl rfl 0 (by decide) (hts (.fieldLink RX0 9 "ClappedWrong$Crowd" "sounds" "[I") (by decide +kernel)) (fun _ h9 => h9) rfl dX0_takeFrom_9 ?_
      refine lv_iload_n hx hb dX0_takeFrom_12 rfl (lv_at hl 2 rfl) ?_
      refine lv_aload_n hx hb dX0_takeFrom_13 rfl (lv_at hl 1 rfl) ?_
      refine va_get (D := D) (ci := 0) (v := .ref q5) (C := RX0) (T := TX0) (N := 4) hx hb hts iX0_takeFrom_X0 hown hK hP 4 rfl rfl 0 (by decide) (hts (.fieldLink RX0 9 "ClappedWrong$Crowd" "sounds" "[I") (by decide +kernel)) (fun _ h9 => h9) rfl dX0_takeFrom_14 ?_
      refine lv_iload_n hx hb dX0_takeFrom_17 rfl (lv_at hl 2 rfl) ?_
      refine k_iald hx hb hK hP 5 rfl dX0_takeFrom_18 h (fun v3 h => ?_)
      refine k_iast hx hb hK hP hD hS 1 rfl dX0_takeFrom_19 h (fun g4 => (wCC cI q0 q1 q2 q3 q4 q5 q6 q7 s_armRows g4 z1.2.2 s_next s_other_armRows s_other_sounds s_other_clapped s_other_next)) (fun _ => rfl) (fun g4 H locs h hP hD hS => ?_)
      refine lv_aload_n hx hb dX0_takeFrom_20 rfl (lv_at hl 0 rfl) ?_
      refine va_get (D := D) (ci := 0) (v := .ref q2) (C := RX0) (T := TX0) (N := 4) hx hb hts iX0_takeFrom_X0 hown hK hP 0 rfl rfl 1 (by decide) (hts (.fieldLink RX0 15 "ClappedWrong$Crowd" "clapped" "[I") (by decide +kernel)) (fun _ h9 => h9) rfl dX0_takeFrom_21 ?_
      refine lv_iload_n hx hb dX0_takeFrom_24 rfl (lv_at hl 2 rfl) ?_
      refine lv_aload_n hx hb dX0_takeFrom_25 rfl (lv_at hl 1 rfl) ?_
      refine va_get (D := D) (ci := 0) (v := .ref q6) (C := RX0) (T := TX0) (N := 4) hx hb hts iX0_takeFrom_X0 hown hK hP 4 rfl rfl 1 (by decide) (hts (.fieldLink RX0 15 "ClappedWrong$Crowd" "clapped" "[I") (by decide +kernel)) (fun _ h9 => h9) rfl dX0_takeFrom_26 ?_
      refine lv_iload_n hx hb dX0_takeFrom_29 rfl (lv_at hl 2 rfl) ?_
      refine k_iald hx hb hK hP 6 rfl dX0_takeFrom_30 h (fun v5 h => ?_)
      refine k_iast hx hb hK hP hD hS 2 rfl dX0_takeFrom_31 h (fun g6 => (wCC cI q0 q1 q2 q3 q4 q5 q6 q7 s_armRows g4 g6 s_next s_other_armRows s_other_sounds s_other_clapped s_other_next)) (fun _ => rfl) (fun g6 H locs h hP hD hS => ?_)
      refine lv_iinc (v := (z1.1 + 1)) (lv' := [(2, .int (z1.1 + 1)), (0, .ref q0), (1, .ref q4)]) hx hb dX0_takeFrom_32 hl (k := 2) rfl rfl (by decide) rfl (fun ls hl => ?_)
      refine lv_goto (tgt := 2) hx hb dX0_takeFrom_35 (by decide) ?_
      exact ih1 _ _ h _ _ _ hP hD hS (lv_sub hl [1, 2, 0] rfl) kx1
  · intro H locs ls hP hD hS hl
    refine lv_aload_n hx hb dX0_takeFrom_38 rfl (lv_at hl 0 rfl) ?_
    refine lv_aload_n hx hb dX0_takeFrom_39 rfl (lv_at hl 1 rfl) ?_
    refine va_get (D := D) (ci := 0) (v := .int s_other_armRows) (C := RX0) (T := TX0) (N := 4) hx hb hts iX0_takeFrom_X0 hown hK hP 4 rfl rfl 3 (by decide) (hts (.fieldLink RX0 21 "ClappedWrong$Crowd" "armRows" "I") (by decide +kernel)) (fun _ h9 => h9) rfl dX0_takeFrom_40 ?_
    refine va_put (D := D) (ci := 0) (v := .int s_other_armRows) (ty := .int) (C := RX0) (T := TX0) (N := 4) hx hb hts iX0_takeFrom_X0 tyX0 tyX0_ok nmX0 hown hK hP hD hS 0 rfl rfl 3 (by decide) (hts (.fieldLink RX0 21 "ClappedWrong$Crowd" "armRows" "I") (by decide +kernel)) (fun _ h9 => h9) rfl (by decide +kernel) rfl rfl (Nat.le_of_ble_eq_true rfl) dX0_takeFrom_43 (fun H locs hP hD hS => ?_)
    have hP : va_P D vwCl (wCC cI q0 q1 q2 q3 q4 q5 q6 q7 s_other_armRows u2.2.1 u2.2.2 s_next s_other_armRows s_other_sounds s_other_clapped s_other_next) H := hP
    have hD : va_D A (wCC cI q0 q1 q2 q3 q4 q5 q6 q7 s_other_armRows u2.2.1 u2.2.2 s_next s_other_armRows s_other_sounds s_other_clapped s_other_next) := hD
    have h := Option.some.inj h
    subst h
    exact hRet _ _ _ _ hP hD hS dX0_takeFrom_46
theorem iX0_beginWith_X0 : ∀ w ∈ wsX00, w ∈ wsX0_beginWith := by decide +kernel
def rX0_beginWith : Room := { frames := 0, cells := 0, slots := 0, locals := 0 }
set_option maxHeartbeats 4000000 in
set_option maxRecDepth 100000 in
theorem mX0_beginWith (l : Launch) (D : va_G) (cI : ClassId) (ad : Nat × Nat) (q0 q1 q2 q3 : Nat) (sz : Nat) (s_armRows : Int32) (s_sounds : (Nat → Int32)) (s_clapped : (Nat → Int32)) (s_next : (Nat → Int32)) (p1 : Int32) (r : (Int32 × (Nat → Int32) × (Nat → Int32))) (h : fX0_beginWith s_sounds s_clapped p1 = some r) : Met l yX0_beginWith wsX0_beginWith rX0_beginWith (kPre D cI ad [.ref q0, .int p1] (wC cI q0 q1 q2 q3 s_armRows s_sounds s_clapped s_next) sz) (kQv D cI (wC cI q0 q1 q2 q3 r.1 r.2.1 r.2.2 s_next) (va_A (wC cI q0 q1 q2 q3 s_armRows s_sounds s_clapped s_next) sz)) 0 0 (va_A (wC cI q0 q1 q2 q3 s_armRows s_sounds s_clapped s_next) sz) := by
  refine kStart (cc := cX0_beginWith) (maxL := 3) (ret := none) (Qc := fun A => kQv D cI (wC cI q0 q1 q2 q3 r.1 r.2.1 r.2.2 s_next) A) (by decide) rfl (Nat.le_of_ble_eq_true rfl) ?_
  intro p e s m args below meth c A ls hx hb hr hts hown hlocks hin hml hN hST hA hS hP hK hD hl
  have hown : s.vm.findClass RX0 = some m.cls := hown
  have hl : lv_has ls 3 [(0, .ref q0), (1, .int p1)] := hl
  have hRet : ∀ (H : Heap) (locs : List Loc) (ls : Array Slot) (pc : Nat), va_P D vwCl (wC cI q0 q1 q2 q3 r.1 r.2.1 r.2.2 s_next) H → va_D A (wC cI q0 q1 q2 q3 r.1 r.2.1 r.2.2 s_next) → va_S A s.heap H locs → decode cX0_beginWith pc = .ok (.return_, 1) → W p l e rX0_beginWith s m args below meth c H locs 0 0 (MQ below (kQv D cI (wC cI q0 q1 q2 q3 r.1 r.2.1 r.2.2 s_next) A) args s 0 0 A) (F0 m pc ls []) := fun H locs ls pc hP hD hS hd => k_vret hx hb hr hlocks hK hP hD hS hd
  generalize MQ below (kQv D cI (wC cI q0 q1 q2 q3 r.1 r.2.1 r.2.2 s_next) A) args s 0 0 A = Q at hRet ⊢
  unfold fX0_beginWith at h
  refine lv_iconst (v := 0) hx hb dX0_beginWith_0 (by decide) ?_
  refine lv_istore_n (lv' := [(2, .int 0), (0, .ref q0), (1, .int p1)]) hx hb dX0_beginWith_1 rfl hl (by decide) rfl (fun ls hl => ?_)
  obtain ⟨u2, hu2, h⟩ := k_bs h
  refine kIter_ind (fun (z1 : (Int32 × (Nat → Int32) × (Nat → Int32))) (u2 : (Int32 × (Nat → Int32) × (Nat → Int32))) => ∀ (H : Heap) (locs : List Loc) (ls : Array Slot), va_P D vwCl (wC cI q0 q1 q2 q3 s_armRows z1.2.1 z1.2.2 s_next) H → va_D A (wC cI q0 q1 q2 q3 s_armRows z1.2.1 z1.2.2 s_next) → va_S A s.heap H locs → lv_has ls 3 [(0, .ref q0), (1, .int p1), (2, .int z1.1)] → (∀ (H : Heap) (locs : List Loc) (ls : Array Slot), va_P D vwCl (wC cI q0 q1 q2 q3 s_armRows u2.2.1 u2.2.2 s_next) H → va_D A (wC cI q0 q1 q2 q3 s_armRows u2.2.1 u2.2.2 s_next) → va_S A s.heap H locs → lv_has ls 3 [(0, .ref q0), (1, .int p1), (2, .int u2.1)] → W p l e rX0_beginWith s m args below meth c H locs 0 0 Q (F0 m 28 ls [])) → W p l e rX0_beginWith s m args below meth c H locs 0 0 Q (F0 m 2 ls [])) ?_ _ _ _ hu2 _ _ _ hP hD hS (lv_sub hl [1, 2, 0] rfl) ?_
  · intro rc1 ih1 z1 u2 h H locs ls hP hD hS hl kx1
    unfold fX0_beginWith_L1 at h
    refine lv_iload_n hx hb dX0_beginWith_2 rfl (lv_at hl 2 rfl) ?_
    refine lv_bipush (v := 8) hx hb dX0_beginWith_3 (by decide) ?_
    refine lv_icmp_ge (tgt := 28) hx hb dX0_beginWith_5 (by decide) (fun c0 => ?_) (fun c0 => ?_)
    · have h := (if_pos c0).symm.trans h
      have h := Option.some.inj h
      subst h
      exact kx1 _ _ _ hP hD hS (lv_sub hl [0, 1, 2] rfl)
    · have h := (if_neg c0).symm.trans h
      refine lv_aload_n hx hb dX0_beginWith_8 rfl (lv_at hl 0 rfl) ?_
      refine va_get (D := D) (ci := 0) (v := .ref q1) (C := RX0) (T := TX0) (N := 4) hx hb hts iX0_beginWith_X0 hown hK hP 0 rfl rfl 0 (by decide) (hts (.fieldLink RX0 9 "ClappedWrong$Crowd" "sounds" "[I") (by decide +kernel)) (fun _ h9 => h9) rfl dX0_beginWith_9 ?_
      refine lv_iload_n hx hb dX0_beginWith_12 rfl (lv_at hl 2 rfl) ?_
      refine lv_iconst (v := 3) hx hb dX0_beginWith_13 (by decide) ?_
      refine k_iast hx hb hK hP hD hS 1 rfl dX0_beginWith_14 h (fun g3 => (wC cI q0 q1 q2 q3 s_armRows g3 z1.2.2 s_next)) (fun _ => rfl) (fun g3 H locs h hP hD hS => ?_)
      refine lv_aload_n hx hb dX0_beginWith_15 rfl (lv_at hl 0 rfl) ?_
      refine va_get (D := D) (ci := 0) (v := .ref q2) (C := RX0) (T := TX0) (N := 4) hx hb hts iX0_beginWith_X0 hown hK hP 0 rfl rfl 1 (by decide) (hts (.fieldLink RX0 15 "ClappedWrong$Crowd" "clapped" "[I") (by decide +kernel)) (fun _ h9 => h9) rfl dX0_beginWith_16 ?_
      refine lv_iload_n hx hb dX0_beginWith_19 rfl (lv_at hl 2 rfl) ?_
      refine lv_iconst (v := 0) hx hb dX0_beginWith_20 (by decide) ?_
      refine k_iast hx hb hK hP hD hS 2 rfl dX0_beginWith_21 h (fun g4 => (wC cI q0 q1 q2 q3 s_armRows g3 g4 s_next)) (fun _ => rfl) (fun g4 H locs h hP hD hS => ?_)
      refine lv_iinc (v := (z1.1 + 1)) (lv' := [(2, .int (z1.1 + 1)), (0, .ref q0), (1, .int p1)]) hx hb dX0_beginWith_22 hl (k := 2) rfl rfl (by decide) rfl (fun ls hl => ?_)
      refine lv_goto (tgt := 2) hx hb dX0_beginWith_25 (by decide) ?_
      exact ih1 _ _ h _ _ _ hP hD hS (lv_sub hl [1, 2, 0] rfl) kx1
  · intro H locs ls hP hD hS hl
    refine lv_aload_n hx hb dX0_beginWith_28 rfl (lv_at hl 0 rfl) ?_
    refine lv_iload_n hx hb dX0_beginWith_29 rfl (lv_at hl 1 rfl) ?_
    refine va_put (D := D) (ci := 0) (v := .int p1) (ty := .int) (C := RX0) (T := TX0) (N := 4) hx hb hts iX0_beginWith_X0 tyX0 tyX0_ok nmX0 hown hK hP hD hS 0 rfl rfl 3 (by decide) (hts (.fieldLink RX0 21 "ClappedWrong$Crowd" "armRows" "I") (by decide +kernel)) (fun _ h9 => h9) rfl (by decide +kernel) rfl rfl (Nat.le_of_ble_eq_true rfl) dX0_beginWith_30 (fun H locs hP hD hS => ?_)
    have hP : va_P D vwCl (wC cI q0 q1 q2 q3 p1 u2.2.1 u2.2.2 s_next) H := hP
    have hD : va_D A (wC cI q0 q1 q2 q3 p1 u2.2.1 u2.2.2 s_next) := hD
    have h := Option.some.inj h
    subst h
    exact hRet _ _ _ _ hP hD hS dX0_beginWith_33
theorem iX0_soundOf_X0 : ∀ w ∈ wsX00, w ∈ wsX0_soundOf := by decide +kernel
def rX0_soundOf : Room := { frames := 0, cells := 0, slots := 0, locals := 0 }
set_option maxHeartbeats 4000000 in
set_option maxRecDepth 100000 in
theorem mX0_soundOf (l : Launch) (D : va_G) (cI : ClassId) (ad : Nat × Nat) (q0 q1 q2 q3 : Nat) (sz : Nat) (s_armRows : Int32) (s_sounds : (Nat → Int32)) (s_clapped : (Nat → Int32)) (s_next : (Nat → Int32)) (p1 : Int32) (r : Int32) (h : fX0_soundOf s_sounds p1 = some r) : Met l yX0_soundOf wsX0_soundOf rX0_soundOf (kPre D cI ad [.ref q0, .int p1] (wC cI q0 q1 q2 q3 s_armRows s_sounds s_clapped s_next) sz) (kQi D cI r (wC cI q0 q1 q2 q3 s_armRows s_sounds s_clapped s_next) (va_A (wC cI q0 q1 q2 q3 s_armRows s_sounds s_clapped s_next) sz)) 0 0 (va_A (wC cI q0 q1 q2 q3 s_armRows s_sounds s_clapped s_next) sz) := by
  refine kStart (cc := cX0_soundOf) (maxL := 2) (ret := (some .int)) (Qc := fun A => kQi D cI r (wC cI q0 q1 q2 q3 s_armRows s_sounds s_clapped s_next) A) (by decide) rfl (Nat.le_of_ble_eq_true rfl) ?_
  intro p e s m args below meth c A ls hx hb hr hts hown hlocks hin hml hN hST hA hS hP hK hD hl
  have hown : s.vm.findClass RX0 = some m.cls := hown
  have hl : lv_has ls 2 [(0, .ref q0), (1, .int p1)] := hl
  have hRet : ∀ (H : Heap) (locs : List Loc) (ls : Array Slot) (pc : Nat), va_P D vwCl (wC cI q0 q1 q2 q3 s_armRows s_sounds s_clapped s_next) H → va_D A (wC cI q0 q1 q2 q3 s_armRows s_sounds s_clapped s_next) → va_S A s.heap H locs → decode cX0_soundOf pc = .ok (.ireturn, 1) → W p l e rX0_soundOf s m args below meth c H locs 0 0 (MQ below (kQi D cI r (wC cI q0 q1 q2 q3 s_armRows s_sounds s_clapped s_next) A) args s 0 0 A) (F0 m pc ls [.int r]) := fun H locs ls pc hP hD hS hd => k_iret hx hb hr hlocks hK hP hD hS hd
  generalize MQ below (kQi D cI r (wC cI q0 q1 q2 q3 s_armRows s_sounds s_clapped s_next) A) args s 0 0 A = Q at hRet ⊢
  unfold fX0_soundOf at h
  refine lv_iload_n hx hb dX0_soundOf_0 rfl (lv_at hl 1 rfl) ?_
  refine lv_if_lt (tgt := 19) hx hb dX0_soundOf_1 (by decide) (fun c0 => ?_) (fun c0 => ?_)
  · have h := (if_pos c0).symm.trans h
    refine lv_iconst (v := 0) hx hb dX0_soundOf_19 (by decide) ?_
    have h := Option.some.inj h
    subst h
    exact hRet _ _ _ _ hP hD hS dX0_soundOf_20
  · have h := (if_neg c0).symm.trans h
    refine lv_iload_n hx hb dX0_soundOf_4 rfl (lv_at hl 1 rfl) ?_
    refine lv_bipush (v := 8) hx hb dX0_soundOf_5 (by decide) ?_
    refine lv_icmp_ge (tgt := 19) hx hb dX0_soundOf_7 (by decide) (fun c0 => ?_) (fun c0 => ?_)
    · have h := (if_pos c0).symm.trans h
      refine lv_iconst (v := 0) hx hb dX0_soundOf_19 (by decide) ?_
      have h := Option.some.inj h
      subst h
      exact hRet _ _ _ _ hP hD hS dX0_soundOf_20
    · have h := (if_neg c0).symm.trans h
      refine lv_aload_n hx hb dX0_soundOf_10 rfl (lv_at hl 0 rfl) ?_
      refine va_get (D := D) (ci := 0) (v := .ref q1) (C := RX0) (T := TX0) (N := 4) hx hb hts iX0_soundOf_X0 hown hK hP 0 rfl rfl 0 (by decide) (hts (.fieldLink RX0 9 "ClappedWrong$Crowd" "sounds" "[I") (by decide +kernel)) (fun _ h9 => h9) rfl dX0_soundOf_11 ?_
      refine lv_iload_n hx hb dX0_soundOf_14 rfl (lv_at hl 1 rfl) ?_
      refine k_iald hx hb hK hP 1 rfl dX0_soundOf_15 h (fun v1 h => ?_)
      refine lv_goto (tgt := 20) hx hb dX0_soundOf_16 (by decide) ?_
      have h := Option.some.inj h
      subst h
      exact hRet _ _ _ _ hP hD hS dX0_soundOf_20
theorem iX0_clappedOf_X0 : ∀ w ∈ wsX00, w ∈ wsX0_clappedOf := by decide +kernel
def rX0_clappedOf : Room := { frames := 0, cells := 0, slots := 0, locals := 0 }
set_option maxHeartbeats 4000000 in
set_option maxRecDepth 100000 in
theorem mX0_clappedOf (l : Launch) (D : va_G) (cI : ClassId) (ad : Nat × Nat) (q0 q1 q2 q3 : Nat) (sz : Nat) (s_armRows : Int32) (s_sounds : (Nat → Int32)) (s_clapped : (Nat → Int32)) (s_next : (Nat → Int32)) (p1 : Int32) (r : Int32) (h : fX0_clappedOf s_clapped p1 = some r) : Met l yX0_clappedOf wsX0_clappedOf rX0_clappedOf (kPre D cI ad [.ref q0, .int p1] (wC cI q0 q1 q2 q3 s_armRows s_sounds s_clapped s_next) sz) (kQi D cI r (wC cI q0 q1 q2 q3 s_armRows s_sounds s_clapped s_next) (va_A (wC cI q0 q1 q2 q3 s_armRows s_sounds s_clapped s_next) sz)) 0 0 (va_A (wC cI q0 q1 q2 q3 s_armRows s_sounds s_clapped s_next) sz) := by
  refine kStart (cc := cX0_clappedOf) (maxL := 2) (ret := (some .int)) (Qc := fun A => kQi D cI r (wC cI q0 q1 q2 q3 s_armRows s_sounds s_clapped s_next) A) (by decide) rfl (Nat.le_of_ble_eq_true rfl) ?_
  intro p e s m args below meth c A ls hx hb hr hts hown hlocks hin hml hN hST hA hS hP hK hD hl
  have hown : s.vm.findClass RX0 = some m.cls := hown
  have hl : lv_has ls 2 [(0, .ref q0), (1, .int p1)] := hl
  have hRet : ∀ (H : Heap) (locs : List Loc) (ls : Array Slot) (pc : Nat), va_P D vwCl (wC cI q0 q1 q2 q3 s_armRows s_sounds s_clapped s_next) H → va_D A (wC cI q0 q1 q2 q3 s_armRows s_sounds s_clapped s_next) → va_S A s.heap H locs → decode cX0_clappedOf pc = .ok (.ireturn, 1) → W p l e rX0_clappedOf s m args below meth c H locs 0 0 (MQ below (kQi D cI r (wC cI q0 q1 q2 q3 s_armRows s_sounds s_clapped s_next) A) args s 0 0 A) (F0 m pc ls [.int r]) := fun H locs ls pc hP hD hS hd => k_iret hx hb hr hlocks hK hP hD hS hd
  generalize MQ below (kQi D cI r (wC cI q0 q1 q2 q3 s_armRows s_sounds s_clapped s_next) A) args s 0 0 A = Q at hRet ⊢
  unfold fX0_clappedOf at h
  refine lv_iload_n hx hb dX0_clappedOf_0 rfl (lv_at hl 1 rfl) ?_
  refine lv_if_lt (tgt := 19) hx hb dX0_clappedOf_1 (by decide) (fun c0 => ?_) (fun c0 => ?_)
  · have h := (if_pos c0).symm.trans h
    refine lv_iconst (v := 0) hx hb dX0_clappedOf_19 (by decide) ?_
    have h := Option.some.inj h
    subst h
    exact hRet _ _ _ _ hP hD hS dX0_clappedOf_20
  · have h := (if_neg c0).symm.trans h
    refine lv_iload_n hx hb dX0_clappedOf_4 rfl (lv_at hl 1 rfl) ?_
    refine lv_bipush (v := 8) hx hb dX0_clappedOf_5 (by decide) ?_
    refine lv_icmp_ge (tgt := 19) hx hb dX0_clappedOf_7 (by decide) (fun c0 => ?_) (fun c0 => ?_)
    · have h := (if_pos c0).symm.trans h
      refine lv_iconst (v := 0) hx hb dX0_clappedOf_19 (by decide) ?_
      have h := Option.some.inj h
      subst h
      exact hRet _ _ _ _ hP hD hS dX0_clappedOf_20
    · have h := (if_neg c0).symm.trans h
      refine lv_aload_n hx hb dX0_clappedOf_10 rfl (lv_at hl 0 rfl) ?_
      refine va_get (D := D) (ci := 0) (v := .ref q2) (C := RX0) (T := TX0) (N := 4) hx hb hts iX0_clappedOf_X0 hown hK hP 0 rfl rfl 1 (by decide) (hts (.fieldLink RX0 15 "ClappedWrong$Crowd" "clapped" "[I") (by decide +kernel)) (fun _ h9 => h9) rfl dX0_clappedOf_11 ?_
      refine lv_iload_n hx hb dX0_clappedOf_14 rfl (lv_at hl 1 rfl) ?_
      refine k_iald hx hb hK hP 2 rfl dX0_clappedOf_15 h (fun v1 h => ?_)
      refine lv_goto (tgt := 20) hx hb dX0_clappedOf_16 (by decide) ?_
      have h := Option.some.inj h
      subst h
      exact hRet _ _ _ _ hP hD hS dX0_clappedOf_20
theorem iX0_let_X0 : ∀ w ∈ wsX00, w ∈ wsX0_let := by decide +kernel
def rX0_let : Room := { frames := 0, cells := 0, slots := 0, locals := 0 }
set_option maxHeartbeats 4000000 in
set_option maxRecDepth 100000 in
theorem mX0_let (l : Launch) (D : va_G) (cI : ClassId) (ad : Nat × Nat) (q0 q1 q2 q3 : Nat) (sz : Nat) (s_armRows : Int32) (s_sounds : (Nat → Int32)) (s_clapped : (Nat → Int32)) (s_next : (Nat → Int32)) (p1 : Int32) (p2 : Int32) (r : ((Nat → Int32) × (Nat → Int32))) (h : fX0_let s_sounds s_clapped p1 p2 = some r) : Met l yX0_let wsX0_let rX0_let (kPre D cI ad [.ref q0, .int p1, .int p2] (wC cI q0 q1 q2 q3 s_armRows s_sounds s_clapped s_next) sz) (kQv D cI (wC cI q0 q1 q2 q3 s_armRows r.1 r.2 s_next) (va_A (wC cI q0 q1 q2 q3 s_armRows s_sounds s_clapped s_next) sz)) 0 0 (va_A (wC cI q0 q1 q2 q3 s_armRows s_sounds s_clapped s_next) sz) := by
  refine kStart (cc := cX0_let) (maxL := 3) (ret := none) (Qc := fun A => kQv D cI (wC cI q0 q1 q2 q3 s_armRows r.1 r.2 s_next) A) (by decide) rfl (Nat.le_of_ble_eq_true rfl) ?_
  intro p e s m args below meth c A ls hx hb hr hts hown hlocks hin hml hN hST hA hS hP hK hD hl
  have hown : s.vm.findClass RX0 = some m.cls := hown
  have hl : lv_has ls 3 [(0, .ref q0), (1, .int p1), (2, .int p2)] := hl
  have hRet : ∀ (H : Heap) (locs : List Loc) (ls : Array Slot) (pc : Nat), va_P D vwCl (wC cI q0 q1 q2 q3 s_armRows r.1 r.2 s_next) H → va_D A (wC cI q0 q1 q2 q3 s_armRows r.1 r.2 s_next) → va_S A s.heap H locs → decode cX0_let pc = .ok (.return_, 1) → W p l e rX0_let s m args below meth c H locs 0 0 (MQ below (kQv D cI (wC cI q0 q1 q2 q3 s_armRows r.1 r.2 s_next) A) args s 0 0 A) (F0 m pc ls []) := fun H locs ls pc hP hD hS hd => k_vret hx hb hr hlocks hK hP hD hS hd
  generalize MQ below (kQv D cI (wC cI q0 q1 q2 q3 s_armRows r.1 r.2 s_next) A) args s 0 0 A = Q at hRet ⊢
  unfold fX0_let at h
  refine lv_iload_n hx hb dX0_let_0 rfl (lv_at hl 1 rfl) ?_
  refine lv_if_lt (tgt := 10) hx hb dX0_let_1 (by decide) (fun c0 => ?_) (fun c0 => ?_)
  · have h := (if_pos c0).symm.trans h
    have h := Option.some.inj h
    subst h
    exact hRet _ _ _ _ hP hD hS dX0_let_10
  · have h := (if_neg c0).symm.trans h
    refine lv_iload_n hx hb dX0_let_4 rfl (lv_at hl 1 rfl) ?_
    refine lv_bipush (v := 8) hx hb dX0_let_5 (by decide) ?_
    refine lv_icmp_lt (tgt := 11) hx hb dX0_let_7 (by decide) (fun c0 => ?_) (fun c0 => ?_)
    · have h := (if_pos c0).symm.trans h
      refine lv_aload_n hx hb dX0_let_11 rfl (lv_at hl 0 rfl) ?_
      refine va_get (D := D) (ci := 0) (v := .ref q1) (C := RX0) (T := TX0) (N := 4) hx hb hts iX0_let_X0 hown hK hP 0 rfl rfl 0 (by decide) (hts (.fieldLink RX0 9 "ClappedWrong$Crowd" "sounds" "[I") (by decide +kernel)) (fun _ h9 => h9) rfl dX0_let_12 ?_
      refine lv_iload_n hx hb dX0_let_15 rfl (lv_at hl 1 rfl) ?_
      refine lv_iload_n hx hb dX0_let_16 rfl (lv_at hl 2 rfl) ?_
      refine k_iast hx hb hK hP hD hS 1 rfl dX0_let_17 h (fun g1 => (wC cI q0 q1 q2 q3 s_armRows g1 s_clapped s_next)) (fun _ => rfl) (fun g1 H locs h hP hD hS => ?_)
      refine lv_iload_n hx hb dX0_let_18 rfl (lv_at hl 2 rfl) ?_
      refine lv_if_ne (tgt := 29) hx hb dX0_let_19 (by decide) (fun c0 => ?_) (fun c0 => ?_)
      · have h := (if_neg c0).symm.trans h
        have h := Option.some.inj h
        subst h
        exact hRet _ _ _ _ hP hD hS dX0_let_29
      · have h := (if_pos c0).symm.trans h
        refine lv_aload_n hx hb dX0_let_22 rfl (lv_at hl 0 rfl) ?_
        refine va_get (D := D) (ci := 0) (v := .ref q2) (C := RX0) (T := TX0) (N := 4) hx hb hts iX0_let_X0 hown hK hP 0 rfl rfl 1 (by decide) (hts (.fieldLink RX0 15 "ClappedWrong$Crowd" "clapped" "[I") (by decide +kernel)) (fun _ h9 => h9) rfl dX0_let_23 ?_
        refine lv_iload_n hx hb dX0_let_26 rfl (lv_at hl 1 rfl) ?_
        refine lv_iconst (v := 0) hx hb dX0_let_27 (by decide) ?_
        refine k_iast hx hb hK hP hD hS 2 rfl dX0_let_28 h (fun g2 => (wC cI q0 q1 q2 q3 s_armRows g1 g2 s_next)) (fun _ => rfl) (fun g2 H locs h hP hD hS => ?_)
        have h := Option.some.inj h
        subst h
        exact hRet _ _ _ _ hP hD hS dX0_let_29
    · have h := (if_neg c0).symm.trans h
      have h := Option.some.inj h
      subst h
      exact hRet _ _ _ _ hP hD hS dX0_let_10
theorem iX2_strengthOf_X2 : ∀ w ∈ wsX20, w ∈ wsX2_strengthOf := by decide +kernel
def rX2_strengthOf : Room := { frames := 0, cells := 0, slots := 0, locals := 0 }
set_option maxHeartbeats 4000000 in
set_option maxRecDepth 100000 in
theorem mX2_strengthOf (l : Launch) (D : va_G) (cI : ClassId) (ad : Nat × Nat) (q0 q1 q2 q3 : Nat) (sz : Nat) (s_rows : Int32) (s_late : Int32) (s_kinds : (Nat → Int32)) (s_palms : (Nat → Int32)) (s_strengths : (Nat → Int32)) (p1 : Int32) (r : Int32) (h : fX2_strengthOf s_strengths s_rows p1 = some r) : Met l yX2_strengthOf wsX2_strengthOf rX2_strengthOf (kPre D cI ad [.ref q0, .int p1] (wH cI q0 q1 q2 q3 s_rows s_late s_kinds s_palms s_strengths) sz) (kQi D cI r (wH cI q0 q1 q2 q3 s_rows s_late s_kinds s_palms s_strengths) (va_A (wH cI q0 q1 q2 q3 s_rows s_late s_kinds s_palms s_strengths) sz)) 0 0 (va_A (wH cI q0 q1 q2 q3 s_rows s_late s_kinds s_palms s_strengths) sz) := by
  refine kStart (cc := cX2_strengthOf) (maxL := 2) (ret := (some .int)) (Qc := fun A => kQi D cI r (wH cI q0 q1 q2 q3 s_rows s_late s_kinds s_palms s_strengths) A) (by decide) rfl (Nat.le_of_ble_eq_true rfl) ?_
  intro p e s m args below meth c A ls hx hb hr hts hown hlocks hin hml hN hST hA hS hP hK hD hl
  have hown : s.vm.findClass RX2 = some m.cls := hown
  have hl : lv_has ls 2 [(0, .ref q0), (1, .int p1)] := hl
  have hRet : ∀ (H : Heap) (locs : List Loc) (ls : Array Slot) (pc : Nat), va_P D vwCl (wH cI q0 q1 q2 q3 s_rows s_late s_kinds s_palms s_strengths) H → va_D A (wH cI q0 q1 q2 q3 s_rows s_late s_kinds s_palms s_strengths) → va_S A s.heap H locs → decode cX2_strengthOf pc = .ok (.ireturn, 1) → W p l e rX2_strengthOf s m args below meth c H locs 0 0 (MQ below (kQi D cI r (wH cI q0 q1 q2 q3 s_rows s_late s_kinds s_palms s_strengths) A) args s 0 0 A) (F0 m pc ls [.int r]) := fun H locs ls pc hP hD hS hd => k_iret hx hb hr hlocks hK hP hD hS hd
  generalize MQ below (kQi D cI r (wH cI q0 q1 q2 q3 s_rows s_late s_kinds s_palms s_strengths) A) args s 0 0 A = Q at hRet ⊢
  unfold fX2_strengthOf at h
  refine lv_iload_n hx hb dX2_strengthOf_0 rfl (lv_at hl 1 rfl) ?_
  refine lv_if_lt (tgt := 21) hx hb dX2_strengthOf_1 (by decide) (fun c0 => ?_) (fun c0 => ?_)
  · have h := (if_pos c0).symm.trans h
    refine lv_iconst (v := 0) hx hb dX2_strengthOf_21 (by decide) ?_
    have h := Option.some.inj h
    subst h
    exact hRet _ _ _ _ hP hD hS dX2_strengthOf_22
  · have h := (if_neg c0).symm.trans h
    refine lv_iload_n hx hb dX2_strengthOf_4 rfl (lv_at hl 1 rfl) ?_
    refine lv_aload_n hx hb dX2_strengthOf_5 rfl (lv_at hl 0 rfl) ?_
    refine va_get (D := D) (ci := 2) (v := .int s_rows) (C := RX2) (T := TX2) (N := 5) hx hb hts iX2_strengthOf_X2 hown hK hP 0 rfl rfl 3 (by decide) (hts (.fieldLink RX2 21 "ClappedWrong$Hall" "rows" "I") (by decide +kernel)) (fun _ h9 => h9) rfl dX2_strengthOf_6 ?_
    refine lv_icmp_ge (tgt := 21) hx hb dX2_strengthOf_9 (by decide) (fun c0 => ?_) (fun c0 => ?_)
    · have h := (if_pos c0).symm.trans h
      refine lv_iconst (v := 0) hx hb dX2_strengthOf_21 (by decide) ?_
      have h := Option.some.inj h
      subst h
      exact hRet _ _ _ _ hP hD hS dX2_strengthOf_22
    · have h := (if_neg c0).symm.trans h
      refine lv_aload_n hx hb dX2_strengthOf_12 rfl (lv_at hl 0 rfl) ?_
      refine va_get (D := D) (ci := 2) (v := .ref q3) (C := RX2) (T := TX2) (N := 5) hx hb hts iX2_strengthOf_X2 hown hK hP 0 rfl rfl 2 (by decide) (hts (.fieldLink RX2 18 "ClappedWrong$Hall" "strengths" "[I") (by decide +kernel)) (fun _ h9 => h9) rfl dX2_strengthOf_13 ?_
      refine lv_iload_n hx hb dX2_strengthOf_16 rfl (lv_at hl 1 rfl) ?_
      refine k_iald hx hb hK hP 3 rfl dX2_strengthOf_17 h (fun v1 h => ?_)
      refine lv_goto (tgt := 22) hx hb dX2_strengthOf_18 (by decide) ?_
      have h := Option.some.inj h
      subst h
      exact hRet _ _ _ _ hP hD hS dX2_strengthOf_22
def rX0_isTired : Room := { frames := 1, cells := 0, slots := 0, locals := 21 }
set_option maxHeartbeats 4000000 in
set_option maxRecDepth 100000 in
theorem mX0_isTired (l : Launch) (D : va_G) (cI : ClassId) (ad : Nat × Nat) (q0 q1 q2 q3 q4 q5 q6 q7 : Nat) (sz : Nat) (s_armRows : Int32) (s_sounds : (Nat → Int32)) (s_clapped : (Nat → Int32)) (s_next : (Nat → Int32)) (s_hall_rows : Int32) (s_hall_late : Int32) (s_hall_kinds : (Nat → Int32)) (s_hall_palms : (Nat → Int32)) (s_hall_strengths : (Nat → Int32)) (p2 : Int32) (r : Int32) (h : fX0_isTired s_clapped s_hall_strengths s_hall_rows p2 = some r) : Met l yX0_isTired wsX0_isTired rX0_isTired (kPre D cI ad [.ref q0, .ref q4, .int p2] (wCH cI q0 q1 q2 q3 q4 q5 q6 q7 s_armRows s_sounds s_clapped s_next s_hall_rows s_hall_late s_hall_kinds s_hall_palms s_hall_strengths) sz) (kQi D cI r (wCH cI q0 q1 q2 q3 q4 q5 q6 q7 s_armRows s_sounds s_clapped s_next s_hall_rows s_hall_late s_hall_kinds s_hall_palms s_hall_strengths) (va_A (wCH cI q0 q1 q2 q3 q4 q5 q6 q7 s_armRows s_sounds s_clapped s_next s_hall_rows s_hall_late s_hall_kinds s_hall_palms s_hall_strengths) sz)) 0 0 (va_A (wCH cI q0 q1 q2 q3 q4 q5 q6 q7 s_armRows s_sounds s_clapped s_next s_hall_rows s_hall_late s_hall_kinds s_hall_palms s_hall_strengths) sz) := by
  refine kStart (cc := cX0_isTired) (maxL := 4) (ret := (some .boolean)) (Qc := fun A => kQi D cI r (wCH cI q0 q1 q2 q3 q4 q5 q6 q7 s_armRows s_sounds s_clapped s_next s_hall_rows s_hall_late s_hall_kinds s_hall_palms s_hall_strengths) A) (by decide) rfl (Nat.le_of_ble_eq_true rfl) ?_
  intro p e s m args below meth c A ls hx hb hr hts hown hlocks hin hml hN hST hA hS hP hK hD hl
  have hown : s.vm.findClass RX0 = some m.cls := hown
  have hl : lv_has ls 4 [(0, .ref q0), (1, .ref q4), (2, .int p2)] := hl
  have hRet : ∀ (H : Heap) (locs : List Loc) (ls : Array Slot) (pc : Nat), narrow .boolean (.int r) = .int r → va_P D vwCl (wCH cI q0 q1 q2 q3 q4 q5 q6 q7 s_armRows s_sounds s_clapped s_next s_hall_rows s_hall_late s_hall_kinds s_hall_palms s_hall_strengths) H → va_D A (wCH cI q0 q1 q2 q3 q4 q5 q6 q7 s_armRows s_sounds s_clapped s_next s_hall_rows s_hall_late s_hall_kinds s_hall_palms s_hall_strengths) → va_S A s.heap H locs → decode cX0_isTired pc = .ok (.ireturn, 1) → W p l e rX0_isTired s m args below meth c H locs 0 0 (MQ below (kQi D cI r (wCH cI q0 q1 q2 q3 q4 q5 q6 q7 s_armRows s_sounds s_clapped s_next s_hall_rows s_hall_late s_hall_kinds s_hall_palms s_hall_strengths) A) args s 0 0 A) (F0 m pc ls [.int r]) := fun H locs ls pc hz hP hD hS hd => k_zret hx hb hr hlocks hK hz hP hD hS hd
  generalize MQ below (kQi D cI r (wCH cI q0 q1 q2 q3 q4 q5 q6 q7 s_armRows s_sounds s_clapped s_next s_hall_rows s_hall_late s_hall_kinds s_hall_palms s_hall_strengths) A) args s 0 0 A = Q at hRet ⊢
  unfold fX0_isTired at h
  refine lv_aload_n hx hb dX0_isTired_0 rfl (lv_at hl 1 rfl) ?_
  refine lv_iload_n hx hb dX0_isTired_1 rfl (lv_at hl 2 rfl) ?_
  obtain ⟨u1, hu1, h⟩ := k_bs h
  refine k_ci (r := u1) (k2 := 0) (n2 := 0) (wc := (wH cI q4 q5 q6 q7 s_hall_rows s_hall_late s_hall_kinds s_hall_palms s_hall_strengths)) (wc' := (wH cI q4 q5 q6 q7 s_hall_rows s_hall_late s_hall_kinds s_hall_palms s_hall_strengths)) (w2 := (wCH cI q0 q1 q2 q3 q4 q5 q6 q7 s_armRows s_sounds s_clapped s_next s_hall_rows s_hall_late s_hall_kinds s_hall_palms s_hall_strengths)) (va_runV (C := RX2) (As := [.int p2]) (rest := []) ⟨hx, hb, hml, hown, hts⟩ (mX2_strengthOf l D cI ad q4 q5 q6 q7 _ s_hall_rows s_hall_late s_hall_kinds s_hall_palms s_hall_strengths p2 u1 hu1) (cwV 1 hts gX0_isTired_X2_strengthOf rfl rfl rfl (by decide +kernel) ⟨Nat.le_of_ble_eq_true rfl, Nat.le_of_ble_eq_true rfl⟩) (k_prev (q := (RX2, TX2, 5)) hN hST hA hK hP hD hS (isC := [4, 5, 6, 7]) rfl rfl 4 (ci := 2) rfl rfl) rfl rfl hl.1 rfl (lv_room (Nat.le_of_ble_eq_true rfl)) dX0_isTired_2 ⟨Nat.le_of_ble_eq_true rfl, Nat.le_of_ble_eq_true rfl⟩) hP hD hS hA [4, 5, 6, 7] rfl rfl rfl rfl rfl (fun H locs hP hD hS => ?_)
  refine lv_istore_n (lv' := [(3, .int u1), (0, .ref q0), (1, .ref q4), (2, .int p2)]) hx hb dX0_isTired_5 rfl hl (by decide) rfl (fun ls hl => ?_)
  refine lv_iload_n hx hb dX0_isTired_6 rfl (lv_at hl 0 rfl) ?_
  refine lv_if_le (tgt := 23) hx hb dX0_isTired_7 (by decide) (fun c0 => ?_) (fun c0 => ?_)
  · have h := (if_pos c0).symm.trans h
    refine lv_iconst (v := 0) hx hb dX0_isTired_23 (by decide) ?_
    have h := Option.some.inj h
    subst h
    exact hRet _ _ _ _ kn_bo0 hP hD hS dX0_isTired_24
  · have h := (if_neg c0).symm.trans h
    refine lv_aload_n hx hb dX0_isTired_10 rfl (lv_at hl 1 rfl) ?_
    refine lv_iload_n hx hb dX0_isTired_11 rfl (lv_at hl 3 rfl) ?_
    obtain ⟨u2, hu2, h⟩ := k_bs h
    refine k_ci (r := u2) (k2 := 0) (n2 := 0) (wc := (wC cI q0 q1 q2 q3 s_armRows s_sounds s_clapped s_next)) (wc' := (wC cI q0 q1 q2 q3 s_armRows s_sounds s_clapped s_next)) (w2 := (wCH cI q0 q1 q2 q3 q4 q5 q6 q7 s_armRows s_sounds s_clapped s_next s_hall_rows s_hall_late s_hall_kinds s_hall_palms s_hall_strengths)) (va_runV (C := RX0) (As := [.int p2]) (rest := []) ⟨hx, hb, hml, hown, hts⟩ (mX0_clappedOf l D cI ad q0 q1 q2 q3 _ s_armRows s_sounds s_clapped s_next p2 u2 hu2) (cwV 1 hts gX0_isTired_X0_clappedOf rfl rfl rfl (by decide +kernel) ⟨Nat.le_of_ble_eq_true rfl, Nat.le_of_ble_eq_true rfl⟩) (k_prev (q := (RX0, TX0, 4)) hN hST hA hK hP hD hS (isC := [0, 1, 2, 3]) rfl rfl 0 (ci := 0) rfl rfl) rfl rfl hl.1 rfl (lv_room (Nat.le_of_ble_eq_true rfl)) dX0_isTired_12 ⟨Nat.le_of_ble_eq_true rfl, Nat.le_of_ble_eq_true rfl⟩) hP hD hS hA [0, 1, 2, 3] rfl rfl rfl rfl rfl (fun H locs hP hD hS => ?_)
    refine lv_iload_n hx hb dX0_isTired_15 rfl (lv_at hl 0 rfl) ?_
    refine lv_icmp_lt (tgt := 23) hx hb dX0_isTired_16 (by decide) (fun c0 => ?_) (fun c0 => ?_)
    · have h := (if_pos c0).symm.trans h
      refine lv_iconst (v := 0) hx hb dX0_isTired_23 (by decide) ?_
      have h := Option.some.inj h
      subst h
      exact hRet _ _ _ _ kn_bo0 hP hD hS dX0_isTired_24
    · have h := (if_neg c0).symm.trans h
      refine lv_iconst (v := 1) hx hb dX0_isTired_19 (by decide) ?_
      refine lv_goto (tgt := 24) hx hb dX0_isTired_20 (by decide) ?_
      have h := Option.some.inj h
      subst h
      exact hRet _ _ _ _ kn_bo1 hP hD hS dX0_isTired_24
theorem iX0_seesArm_X0 : ∀ w ∈ wsX00, w ∈ wsX0_seesArm := by decide +kernel
def rX0_seesArm : Room := { frames := 0, cells := 0, slots := 0, locals := 0 }
set_option maxHeartbeats 4000000 in
set_option maxRecDepth 100000 in
theorem mX0_seesArm (l : Launch) (D : va_G) (cI : ClassId) (ad : Nat × Nat) (q0 q1 q2 q3 : Nat) (sz : Nat) (s_armRows : Int32) (s_sounds : (Nat → Int32)) (s_clapped : (Nat → Int32)) (s_next : (Nat → Int32)) (p1 : Int32) (r : Int32) (h : fX0_seesArm s_armRows p1 = some r) : Met l yX0_seesArm wsX0_seesArm rX0_seesArm (kPre D cI ad [.ref q0, .int p1] (wC cI q0 q1 q2 q3 s_armRows s_sounds s_clapped s_next) sz) (kQi D cI r (wC cI q0 q1 q2 q3 s_armRows s_sounds s_clapped s_next) (va_A (wC cI q0 q1 q2 q3 s_armRows s_sounds s_clapped s_next) sz)) 0 0 (va_A (wC cI q0 q1 q2 q3 s_armRows s_sounds s_clapped s_next) sz) := by
  refine kStart (cc := cX0_seesArm) (maxL := 2) (ret := (some .boolean)) (Qc := fun A => kQi D cI r (wC cI q0 q1 q2 q3 s_armRows s_sounds s_clapped s_next) A) (by decide) rfl (Nat.le_of_ble_eq_true rfl) ?_
  intro p e s m args below meth c A ls hx hb hr hts hown hlocks hin hml hN hST hA hS hP hK hD hl
  have hown : s.vm.findClass RX0 = some m.cls := hown
  have hl : lv_has ls 2 [(0, .ref q0), (1, .int p1)] := hl
  have hRet : ∀ (H : Heap) (locs : List Loc) (ls : Array Slot) (pc : Nat), narrow .boolean (.int r) = .int r → va_P D vwCl (wC cI q0 q1 q2 q3 s_armRows s_sounds s_clapped s_next) H → va_D A (wC cI q0 q1 q2 q3 s_armRows s_sounds s_clapped s_next) → va_S A s.heap H locs → decode cX0_seesArm pc = .ok (.ireturn, 1) → W p l e rX0_seesArm s m args below meth c H locs 0 0 (MQ below (kQi D cI r (wC cI q0 q1 q2 q3 s_armRows s_sounds s_clapped s_next) A) args s 0 0 A) (F0 m pc ls [.int r]) := fun H locs ls pc hz hP hD hS hd => k_zret hx hb hr hlocks hK hz hP hD hS hd
  generalize MQ below (kQi D cI r (wC cI q0 q1 q2 q3 s_armRows s_sounds s_clapped s_next) A) args s 0 0 A = Q at hRet ⊢
  unfold fX0_seesArm at h
  refine lv_iload_n hx hb dX0_seesArm_0 rfl (lv_at hl 1 rfl) ?_
  refine lv_aload_n hx hb dX0_seesArm_1 rfl (lv_at hl 0 rfl) ?_
  refine va_get (D := D) (ci := 0) (v := .int s_armRows) (C := RX0) (T := TX0) (N := 4) hx hb hts iX0_seesArm_X0 hown hK hP 0 rfl rfl 3 (by decide) (hts (.fieldLink RX0 21 "ClappedWrong$Crowd" "armRows" "I") (by decide +kernel)) (fun _ h9 => h9) rfl dX0_seesArm_2 ?_
  refine lv_icmp_ge (tgt := 12) hx hb dX0_seesArm_5 (by decide) (fun c0 => ?_) (fun c0 => ?_)
  · have h := (if_pos c0).symm.trans h
    refine lv_iconst (v := 0) hx hb dX0_seesArm_12 (by decide) ?_
    have h := Option.some.inj h
    subst h
    exact hRet _ _ _ _ kn_bo0 hP hD hS dX0_seesArm_13
  · have h := (if_neg c0).symm.trans h
    refine lv_iconst (v := 1) hx hb dX0_seesArm_8 (by decide) ?_
    refine lv_goto (tgt := 13) hx hb dX0_seesArm_9 (by decide) ?_
    have h := Option.some.inj h
    subst h
    exact hRet _ _ _ _ kn_bo1 hP hD hS dX0_seesArm_13
theorem iX2_kindOf_X2 : ∀ w ∈ wsX20, w ∈ wsX2_kindOf := by decide +kernel
def rX2_kindOf : Room := { frames := 0, cells := 0, slots := 0, locals := 0 }
set_option maxHeartbeats 4000000 in
set_option maxRecDepth 100000 in
theorem mX2_kindOf (l : Launch) (D : va_G) (cI : ClassId) (ad : Nat × Nat) (q0 q1 q2 q3 : Nat) (sz : Nat) (s_rows : Int32) (s_late : Int32) (s_kinds : (Nat → Int32)) (s_palms : (Nat → Int32)) (s_strengths : (Nat → Int32)) (p1 : Int32) (r : Int32) (h : fX2_kindOf s_kinds s_rows p1 = some r) : Met l yX2_kindOf wsX2_kindOf rX2_kindOf (kPre D cI ad [.ref q0, .int p1] (wH cI q0 q1 q2 q3 s_rows s_late s_kinds s_palms s_strengths) sz) (kQi D cI r (wH cI q0 q1 q2 q3 s_rows s_late s_kinds s_palms s_strengths) (va_A (wH cI q0 q1 q2 q3 s_rows s_late s_kinds s_palms s_strengths) sz)) 0 0 (va_A (wH cI q0 q1 q2 q3 s_rows s_late s_kinds s_palms s_strengths) sz) := by
  refine kStart (cc := cX2_kindOf) (maxL := 2) (ret := (some .int)) (Qc := fun A => kQi D cI r (wH cI q0 q1 q2 q3 s_rows s_late s_kinds s_palms s_strengths) A) (by decide) rfl (Nat.le_of_ble_eq_true rfl) ?_
  intro p e s m args below meth c A ls hx hb hr hts hown hlocks hin hml hN hST hA hS hP hK hD hl
  have hown : s.vm.findClass RX2 = some m.cls := hown
  have hl : lv_has ls 2 [(0, .ref q0), (1, .int p1)] := hl
  have hRet : ∀ (H : Heap) (locs : List Loc) (ls : Array Slot) (pc : Nat), va_P D vwCl (wH cI q0 q1 q2 q3 s_rows s_late s_kinds s_palms s_strengths) H → va_D A (wH cI q0 q1 q2 q3 s_rows s_late s_kinds s_palms s_strengths) → va_S A s.heap H locs → decode cX2_kindOf pc = .ok (.ireturn, 1) → W p l e rX2_kindOf s m args below meth c H locs 0 0 (MQ below (kQi D cI r (wH cI q0 q1 q2 q3 s_rows s_late s_kinds s_palms s_strengths) A) args s 0 0 A) (F0 m pc ls [.int r]) := fun H locs ls pc hP hD hS hd => k_iret hx hb hr hlocks hK hP hD hS hd
  generalize MQ below (kQi D cI r (wH cI q0 q1 q2 q3 s_rows s_late s_kinds s_palms s_strengths) A) args s 0 0 A = Q at hRet ⊢
  unfold fX2_kindOf at h
  refine lv_iload_n hx hb dX2_kindOf_0 rfl (lv_at hl 1 rfl) ?_
  refine lv_if_lt (tgt := 21) hx hb dX2_kindOf_1 (by decide) (fun c0 => ?_) (fun c0 => ?_)
  · have h := (if_pos c0).symm.trans h
    refine lv_iconst (v := (-1)) hx hb dX2_kindOf_21 (by decide) ?_
    have h := Option.some.inj h
    subst h
    exact hRet _ _ _ _ hP hD hS dX2_kindOf_22
  · have h := (if_neg c0).symm.trans h
    refine lv_iload_n hx hb dX2_kindOf_4 rfl (lv_at hl 1 rfl) ?_
    refine lv_aload_n hx hb dX2_kindOf_5 rfl (lv_at hl 0 rfl) ?_
    refine va_get (D := D) (ci := 2) (v := .int s_rows) (C := RX2) (T := TX2) (N := 5) hx hb hts iX2_kindOf_X2 hown hK hP 0 rfl rfl 3 (by decide) (hts (.fieldLink RX2 21 "ClappedWrong$Hall" "rows" "I") (by decide +kernel)) (fun _ h9 => h9) rfl dX2_kindOf_6 ?_
    refine lv_icmp_ge (tgt := 21) hx hb dX2_kindOf_9 (by decide) (fun c0 => ?_) (fun c0 => ?_)
    · have h := (if_pos c0).symm.trans h
      refine lv_iconst (v := (-1)) hx hb dX2_kindOf_21 (by decide) ?_
      have h := Option.some.inj h
      subst h
      exact hRet _ _ _ _ hP hD hS dX2_kindOf_22
    · have h := (if_neg c0).symm.trans h
      refine lv_aload_n hx hb dX2_kindOf_12 rfl (lv_at hl 0 rfl) ?_
      refine va_get (D := D) (ci := 2) (v := .ref q1) (C := RX2) (T := TX2) (N := 5) hx hb hts iX2_kindOf_X2 hown hK hP 0 rfl rfl 0 (by decide) (hts (.fieldLink RX2 9 "ClappedWrong$Hall" "kinds" "[I") (by decide +kernel)) (fun _ h9 => h9) rfl dX2_kindOf_13 ?_
      refine lv_iload_n hx hb dX2_kindOf_16 rfl (lv_at hl 1 rfl) ?_
      refine k_iald hx hb hK hP 1 rfl dX2_kindOf_17 h (fun v1 h => ?_)
      refine lv_goto (tgt := 22) hx hb dX2_kindOf_18 (by decide) ?_
      have h := Option.some.inj h
      subst h
      exact hRet _ _ _ _ hP hD hS dX2_kindOf_22
def rX2_isOf : Room := { frames := 1, cells := 0, slots := 0, locals := 21 }
set_option maxHeartbeats 4000000 in
set_option maxRecDepth 100000 in
theorem mX2_isOf (l : Launch) (D : va_G) (cI : ClassId) (ad : Nat × Nat) (q0 q1 q2 q3 : Nat) (sz : Nat) (s_rows : Int32) (s_late : Int32) (s_kinds : (Nat → Int32)) (s_palms : (Nat → Int32)) (s_strengths : (Nat → Int32)) (p1 : Int32) (p2 : Int32) (r : Int32) (h : fX2_isOf s_kinds s_rows p1 p2 = some r) : Met l yX2_isOf wsX2_isOf rX2_isOf (kPre D cI ad [.ref q0, .int p1, .int p2] (wH cI q0 q1 q2 q3 s_rows s_late s_kinds s_palms s_strengths) sz) (kQi D cI r (wH cI q0 q1 q2 q3 s_rows s_late s_kinds s_palms s_strengths) (va_A (wH cI q0 q1 q2 q3 s_rows s_late s_kinds s_palms s_strengths) sz)) 0 0 (va_A (wH cI q0 q1 q2 q3 s_rows s_late s_kinds s_palms s_strengths) sz) := by
  refine kStart (cc := cX2_isOf) (maxL := 4) (ret := (some .boolean)) (Qc := fun A => kQi D cI r (wH cI q0 q1 q2 q3 s_rows s_late s_kinds s_palms s_strengths) A) (by decide) rfl (Nat.le_of_ble_eq_true rfl) ?_
  intro p e s m args below meth c A ls hx hb hr hts hown hlocks hin hml hN hST hA hS hP hK hD hl
  have hown : s.vm.findClass RX2 = some m.cls := hown
  have hl : lv_has ls 4 [(0, .ref q0), (1, .int p1), (2, .int p2)] := hl
  have hRet : ∀ (H : Heap) (locs : List Loc) (ls : Array Slot) (pc : Nat), narrow .boolean (.int r) = .int r → va_P D vwCl (wH cI q0 q1 q2 q3 s_rows s_late s_kinds s_palms s_strengths) H → va_D A (wH cI q0 q1 q2 q3 s_rows s_late s_kinds s_palms s_strengths) → va_S A s.heap H locs → decode cX2_isOf pc = .ok (.ireturn, 1) → W p l e rX2_isOf s m args below meth c H locs 0 0 (MQ below (kQi D cI r (wH cI q0 q1 q2 q3 s_rows s_late s_kinds s_palms s_strengths) A) args s 0 0 A) (F0 m pc ls [.int r]) := fun H locs ls pc hz hP hD hS hd => k_zret hx hb hr hlocks hK hz hP hD hS hd
  generalize MQ below (kQi D cI r (wH cI q0 q1 q2 q3 s_rows s_late s_kinds s_palms s_strengths) A) args s 0 0 A = Q at hRet ⊢
  unfold fX2_isOf at h
  refine lv_aload_n hx hb dX2_isOf_0 rfl (lv_at hl 0 rfl) ?_
  refine lv_iload_n hx hb dX2_isOf_1 rfl (lv_at hl 1 rfl) ?_
  obtain ⟨u1, hu1, h⟩ := k_bs h
  refine k_ciA (r := u1) (k2 := 0) (n2 := 0) (ws := (wH cI q0 q1 q2 q3 s_rows s_late s_kinds s_palms s_strengths)) (wc' := (wH cI q0 q1 q2 q3 s_rows s_late s_kinds s_palms s_strengths)) (va_runV (C := RX2) (As := [.int p1]) (rest := []) ⟨hx, hb, hml, hown, hts⟩ (mX2_kindOf l D cI ad q0 q1 q2 q3 _ s_rows s_late s_kinds s_palms s_strengths p1 u1 hu1) (cwV 1 hts gX2_isOf_X2_kindOf rfl rfl rfl (by decide +kernel) ⟨Nat.le_of_ble_eq_true rfl, Nat.le_of_ble_eq_true rfl⟩) (k_preA (q := (RX2, TX2, 5)) hN hST hA hK hP hD hS 0 (ci := 2) rfl rfl) rfl rfl hl.1 rfl (lv_room (Nat.le_of_ble_eq_true rfl)) dX2_isOf_2 ⟨Nat.le_of_ble_eq_true rfl, Nat.le_of_ble_eq_true rfl⟩) hP hD hS hA rfl rfl (fun H locs hP hD hS => ?_)
  refine lv_istore_n (lv' := [(3, .int u1), (0, .ref q0), (1, .int p1), (2, .int p2)]) hx hb dX2_isOf_5 rfl hl (by decide) rfl (fun ls hl => ?_)
  refine lv_iload_n hx hb dX2_isOf_6 rfl (lv_at hl 3 rfl) ?_
  refine lv_if_eq (tgt := 25) hx hb dX2_isOf_7 (by decide) (fun c0 => ?_) (fun c0 => ?_)
  · have h := (if_pos c0).symm.trans h
    refine lv_iconst (v := 1) hx hb dX2_isOf_25 (by decide) ?_
    refine lv_goto (tgt := 30) hx hb dX2_isOf_26 (by decide) ?_
    have h := Option.some.inj h
    subst h
    exact hRet _ _ _ _ kn_bo1 hP hD hS dX2_isOf_30
  · have h := (if_neg c0).symm.trans h
    refine lv_iload_n hx hb dX2_isOf_10 rfl (lv_at hl 3 rfl) ?_
    refine lv_iload_n hx hb dX2_isOf_11 rfl (lv_at hl 0 rfl) ?_
    refine lv_icmp_eq (tgt := 25) hx hb dX2_isOf_12 (by decide) (fun c0 => ?_) (fun c0 => ?_)
    · have h := (if_pos c0).symm.trans h
      refine lv_iconst (v := 1) hx hb dX2_isOf_25 (by decide) ?_
      refine lv_goto (tgt := 30) hx hb dX2_isOf_26 (by decide) ?_
      have h := Option.some.inj h
      subst h
      exact hRet _ _ _ _ kn_bo1 hP hD hS dX2_isOf_30
    · have h := (if_neg c0).symm.trans h
      refine lv_iload_n hx hb dX2_isOf_15 rfl (lv_at hl 3 rfl) ?_
      refine lv_iconst (v := 1) hx hb dX2_isOf_16 (by decide) ?_
      refine lv_icmp_ne (tgt := 29) hx hb dX2_isOf_17 (by decide) (fun c0 => ?_) (fun c0 => ?_)
      · have h := (if_neg c0).symm.trans h
        refine lv_iconst (v := 0) hx hb dX2_isOf_29 (by decide) ?_
        have h := Option.some.inj h
        subst h
        exact hRet _ _ _ _ kn_bo0 hP hD hS dX2_isOf_30
      · have h := (if_pos c0).symm.trans h
        refine lv_iload_n hx hb dX2_isOf_20 rfl (lv_at hl 0 rfl) ?_
        refine lv_iconst (v := 4) hx hb dX2_isOf_21 (by decide) ?_
        refine lv_icmp_ne (tgt := 29) hx hb dX2_isOf_22 (by decide) (fun c0 => ?_) (fun c0 => ?_)
        · have h := (if_neg c0).symm.trans h
          refine lv_iconst (v := 0) hx hb dX2_isOf_29 (by decide) ?_
          have h := Option.some.inj h
          subst h
          exact hRet _ _ _ _ kn_bo0 hP hD hS dX2_isOf_30
        · have h := (if_pos c0).symm.trans h
          refine lv_iconst (v := 1) hx hb dX2_isOf_25 (by decide) ?_
          refine lv_goto (tgt := 30) hx hb dX2_isOf_26 (by decide) ?_
          have h := Option.some.inj h
          subst h
          exact hRet _ _ _ _ kn_bo1 hP hD hS dX2_isOf_30
theorem iX0_palmsThatSound_X0 : ∀ w ∈ wsX00, w ∈ wsX0_palmsThatSound := by decide +kernel
theorem iX0_palmsThatSound_X2 : ∀ w ∈ wsX20, w ∈ wsX0_palmsThatSound := by decide +kernel
def rX0_palmsThatSound : Room := { frames := 0, cells := 0, slots := 0, locals := 0 }
set_option maxHeartbeats 4000000 in
set_option maxRecDepth 100000 in
theorem mX0_palmsThatSound (l : Launch) (D : va_G) (cI : ClassId) (ad : Nat × Nat) (q0 q1 q2 q3 q4 q5 q6 q7 : Nat) (sz : Nat) (s_armRows : Int32) (s_sounds : (Nat → Int32)) (s_clapped : (Nat → Int32)) (s_next : (Nat → Int32)) (s_hall_rows : Int32) (s_hall_late : Int32) (s_hall_kinds : (Nat → Int32)) (s_hall_palms : (Nat → Int32)) (s_hall_strengths : (Nat → Int32)) (p2 : Int32) (p3 : Int32) (r : Int32) (h : fX0_palmsThatSound s_sounds s_hall_palms s_hall_rows p2 p3 = some r) : Met l yX0_palmsThatSound wsX0_palmsThatSound rX0_palmsThatSound (kPre D cI ad [.ref q0, .ref q4, .int p2, .int p3] (wCH cI q0 q1 q2 q3 q4 q5 q6 q7 s_armRows s_sounds s_clapped s_next s_hall_rows s_hall_late s_hall_kinds s_hall_palms s_hall_strengths) sz) (kQi D cI r (wCH cI q0 q1 q2 q3 q4 q5 q6 q7 s_armRows s_sounds s_clapped s_next s_hall_rows s_hall_late s_hall_kinds s_hall_palms s_hall_strengths) (va_A (wCH cI q0 q1 q2 q3 q4 q5 q6 q7 s_armRows s_sounds s_clapped s_next s_hall_rows s_hall_late s_hall_kinds s_hall_palms s_hall_strengths) sz)) 0 0 (va_A (wCH cI q0 q1 q2 q3 q4 q5 q6 q7 s_armRows s_sounds s_clapped s_next s_hall_rows s_hall_late s_hall_kinds s_hall_palms s_hall_strengths) sz) := by
  refine kStart (cc := cX0_palmsThatSound) (maxL := 4) (ret := (some .int)) (Qc := fun A => kQi D cI r (wCH cI q0 q1 q2 q3 q4 q5 q6 q7 s_armRows s_sounds s_clapped s_next s_hall_rows s_hall_late s_hall_kinds s_hall_palms s_hall_strengths) A) (by decide) rfl (Nat.le_of_ble_eq_true rfl) ?_
  intro p e s m args below meth c A ls hx hb hr hts hown hlocks hin hml hN hST hA hS hP hK hD hl
  have hown : s.vm.findClass RX0 = some m.cls := hown
  have hl : lv_has ls 4 [(0, .ref q0), (1, .ref q4), (2, .int p2), (3, .int p3)] := hl
  have hRet : ∀ (H : Heap) (locs : List Loc) (ls : Array Slot) (pc : Nat), va_P D vwCl (wCH cI q0 q1 q2 q3 q4 q5 q6 q7 s_armRows s_sounds s_clapped s_next s_hall_rows s_hall_late s_hall_kinds s_hall_palms s_hall_strengths) H → va_D A (wCH cI q0 q1 q2 q3 q4 q5 q6 q7 s_armRows s_sounds s_clapped s_next s_hall_rows s_hall_late s_hall_kinds s_hall_palms s_hall_strengths) → va_S A s.heap H locs → decode cX0_palmsThatSound pc = .ok (.ireturn, 1) → W p l e rX0_palmsThatSound s m args below meth c H locs 0 0 (MQ below (kQi D cI r (wCH cI q0 q1 q2 q3 q4 q5 q6 q7 s_armRows s_sounds s_clapped s_next s_hall_rows s_hall_late s_hall_kinds s_hall_palms s_hall_strengths) A) args s 0 0 A) (F0 m pc ls [.int r]) := fun H locs ls pc hP hD hS hd => k_iret hx hb hr hlocks hK hP hD hS hd
  generalize MQ below (kQi D cI r (wCH cI q0 q1 q2 q3 q4 q5 q6 q7 s_armRows s_sounds s_clapped s_next s_hall_rows s_hall_late s_hall_kinds s_hall_palms s_hall_strengths) A) args s 0 0 A = Q at hRet ⊢
  unfold fX0_palmsThatSound at h
  refine lv_iload_n hx hb dX0_palmsThatSound_0 rfl (lv_at hl 2 rfl) ?_
  refine lv_if_lt (tgt := 12) hx hb dX0_palmsThatSound_1 (by decide) (fun c0 => ?_) (fun c0 => ?_)
  · have h := (if_pos c0).symm.trans h
    refine lv_iconst (v := 0) hx hb dX0_palmsThatSound_12 (by decide) ?_
    have h := Option.some.inj h
    subst h
    exact hRet _ _ _ _ hP hD hS dX0_palmsThatSound_13
  · have h := (if_neg c0).symm.trans h
    refine lv_iload_n hx hb dX0_palmsThatSound_4 rfl (lv_at hl 2 rfl) ?_
    refine lv_aload_n hx hb dX0_palmsThatSound_5 rfl (lv_at hl 1 rfl) ?_
    refine va_getN (D := D) (ci := 2) (v := .int s_hall_rows) (C := RX2) (T := TX2) (N := 5) hx hb hts iX0_palmsThatSound_X2 hown hK hP 4 rfl rfl 3 (by decide) (hN.f RX0 34 "ClappedWrong$Hall" "rows" "I" "ClappedWrong" (by decide +kernel)) (fun _ h9 => h9) rfl dX0_palmsThatSound_6 ?_
    refine lv_icmp_lt (tgt := 14) hx hb dX0_palmsThatSound_9 (by decide) (fun c0 => ?_) (fun c0 => ?_)
    · have h := (if_pos c0).symm.trans h
      refine lv_aload_n hx hb dX0_palmsThatSound_14 rfl (lv_at hl 0 rfl) ?_
      refine va_get (D := D) (ci := 0) (v := .ref q1) (C := RX0) (T := TX0) (N := 4) hx hb hts iX0_palmsThatSound_X0 hown hK hP 0 rfl rfl 0 (by decide) (hts (.fieldLink RX0 9 "ClappedWrong$Crowd" "sounds" "[I") (by decide +kernel)) (fun _ h9 => h9) rfl dX0_palmsThatSound_15 ?_
      refine lv_iload_n hx hb dX0_palmsThatSound_18 rfl (lv_at hl 2 rfl) ?_
      refine k_iald hx hb hK hP 1 rfl dX0_palmsThatSound_19 h (fun v1 h => ?_)
      refine lv_iload_n hx hb dX0_palmsThatSound_20 rfl (lv_at hl 3 rfl) ?_
      refine lv_iand hx hb dX0_palmsThatSound_21 ?_
      refine lv_if_eq (tgt := 34) hx hb dX0_palmsThatSound_22 (by decide) (fun c0 => ?_) (fun c0 => ?_)
      · have h := (if_pos c0).symm.trans h
        refine lv_iconst (v := 0) hx hb dX0_palmsThatSound_34 (by decide) ?_
        have h := Option.some.inj h
        subst h
        exact hRet _ _ _ _ hP hD hS dX0_palmsThatSound_35
      · have h := (if_neg c0).symm.trans h
        refine lv_aload_n hx hb dX0_palmsThatSound_25 rfl (lv_at hl 1 rfl) ?_
        refine va_getN (D := D) (ci := 2) (v := .ref q6) (C := RX2) (T := TX2) (N := 5) hx hb hts iX0_palmsThatSound_X2 hown hK hP 4 rfl rfl 1 (by decide) (hN.f RX0 74 "ClappedWrong$Hall" "palms" "[I" "ClappedWrong" (by decide +kernel)) (fun _ h9 => h9) rfl dX0_palmsThatSound_26 ?_
        refine lv_iload_n hx hb dX0_palmsThatSound_29 rfl (lv_at hl 2 rfl) ?_
        refine k_iald hx hb hK hP 6 rfl dX0_palmsThatSound_30 h (fun v2 h => ?_)
        refine lv_goto (tgt := 35) hx hb dX0_palmsThatSound_31 (by decide) ?_
        have h := Option.some.inj h
        subst h
        exact hRet _ _ _ _ hP hD hS dX0_palmsThatSound_35
    · have h := (if_neg c0).symm.trans h
      refine lv_iconst (v := 0) hx hb dX0_palmsThatSound_12 (by decide) ?_
      have h := Option.some.inj h
      subst h
      exact hRet _ _ _ _ hP hD hS dX0_palmsThatSound_13
def rX0_soundOfMore : Room := { frames := 1, cells := 0, slots := 0, locals := 23 }
set_option maxHeartbeats 4000000 in
set_option maxRecDepth 100000 in
theorem mX0_soundOfMore (l : Launch) (D : va_G) (cI : ClassId) (ad : Nat × Nat) (q0 q1 q2 q3 q4 q5 q6 q7 : Nat) (sz : Nat) (s_armRows : Int32) (s_sounds : (Nat → Int32)) (s_clapped : (Nat → Int32)) (s_next : (Nat → Int32)) (s_hall_rows : Int32) (s_hall_late : Int32) (s_hall_kinds : (Nat → Int32)) (s_hall_palms : (Nat → Int32)) (s_hall_strengths : (Nat → Int32)) (p2 : Int32) (r : Int32) (h : fX0_soundOfMore s_sounds s_hall_kinds s_hall_palms s_hall_rows p2 = some r) : Met l yX0_soundOfMore wsX0_soundOfMore rX0_soundOfMore (kPre D cI ad [.ref q0, .ref q4, .int p2] (wCH cI q0 q1 q2 q3 q4 q5 q6 q7 s_armRows s_sounds s_clapped s_next s_hall_rows s_hall_late s_hall_kinds s_hall_palms s_hall_strengths) sz) (kQi D cI r (wCH cI q0 q1 q2 q3 q4 q5 q6 q7 s_armRows s_sounds s_clapped s_next s_hall_rows s_hall_late s_hall_kinds s_hall_palms s_hall_strengths) (va_A (wCH cI q0 q1 q2 q3 q4 q5 q6 q7 s_armRows s_sounds s_clapped s_next s_hall_rows s_hall_late s_hall_kinds s_hall_palms s_hall_strengths) sz)) 0 0 (va_A (wCH cI q0 q1 q2 q3 q4 q5 q6 q7 s_armRows s_sounds s_clapped s_next s_hall_rows s_hall_late s_hall_kinds s_hall_palms s_hall_strengths) sz) := by
  refine kStart (cc := cX0_soundOfMore) (maxL := 6) (ret := (some .int)) (Qc := fun A => kQi D cI r (wCH cI q0 q1 q2 q3 q4 q5 q6 q7 s_armRows s_sounds s_clapped s_next s_hall_rows s_hall_late s_hall_kinds s_hall_palms s_hall_strengths) A) (by decide) rfl (Nat.le_of_ble_eq_true rfl) ?_
  intro p e s m args below meth c A ls hx hb hr hts hown hlocks hin hml hN hST hA hS hP hK hD hl
  have hown : s.vm.findClass RX0 = some m.cls := hown
  have hl : lv_has ls 6 [(0, .ref q0), (1, .ref q4), (2, .int p2)] := hl
  have hRet : ∀ (H : Heap) (locs : List Loc) (ls : Array Slot) (pc : Nat), va_P D vwCl (wCH cI q0 q1 q2 q3 q4 q5 q6 q7 s_armRows s_sounds s_clapped s_next s_hall_rows s_hall_late s_hall_kinds s_hall_palms s_hall_strengths) H → va_D A (wCH cI q0 q1 q2 q3 q4 q5 q6 q7 s_armRows s_sounds s_clapped s_next s_hall_rows s_hall_late s_hall_kinds s_hall_palms s_hall_strengths) → va_S A s.heap H locs → decode cX0_soundOfMore pc = .ok (.ireturn, 1) → W p l e rX0_soundOfMore s m args below meth c H locs 0 0 (MQ below (kQi D cI r (wCH cI q0 q1 q2 q3 q4 q5 q6 q7 s_armRows s_sounds s_clapped s_next s_hall_rows s_hall_late s_hall_kinds s_hall_palms s_hall_strengths) A) args s 0 0 A) (F0 m pc ls [.int r]) := fun H locs ls pc hP hD hS hd => k_iret hx hb hr hlocks hK hP hD hS hd
  generalize MQ below (kQi D cI r (wCH cI q0 q1 q2 q3 q4 q5 q6 q7 s_armRows s_sounds s_clapped s_next s_hall_rows s_hall_late s_hall_kinds s_hall_palms s_hall_strengths) A) args s 0 0 A = Q at hRet ⊢
  unfold fX0_soundOfMore at h
  refine lv_iconst (v := 0) hx hb dX0_soundOfMore_0 (by decide) ?_
  refine lv_istore_n (lv' := [(3, .int 0), (0, .ref q0), (1, .ref q4), (2, .int p2)]) hx hb dX0_soundOfMore_1 rfl hl (by decide) rfl (fun ls hl => ?_)
  refine lv_iconst (v := 0) hx hb dX0_soundOfMore_2 (by decide) ?_
  refine lv_istore (lv' := [(4, .int 0), (3, .int 0), (0, .ref q0), (1, .ref q4), (2, .int p2)]) hx hb dX0_soundOfMore_3 hl (by decide) rfl (fun ls hl => ?_)
  refine lv_iload_n hx hb dX0_soundOfMore_5 rfl (lv_at hl 4 rfl) ?_
  refine lv_iconst (v := 1) hx hb dX0_soundOfMore_6 (by decide) ?_
  refine lv_isub hx hb dX0_soundOfMore_7 ?_
  refine lv_istore (lv' := [(5, .int (p2 - 1)), (4, .int 0), (3, .int 0), (0, .ref q0), (1, .ref q4), (2, .int p2)]) hx hb dX0_soundOfMore_8 hl (by decide) rfl (fun ls hl => ?_)
  obtain ⟨u2, hu2, h⟩ := k_bs h
  refine kIter_ind (fun (z1 : (Int32 × Int32 × Int32)) (u2 : (Int32 × Int32 × Int32)) => ∀ (H : Heap) (locs : List Loc) (ls : Array Slot), va_P D vwCl (wCH cI q0 q1 q2 q3 q4 q5 q6 q7 s_armRows s_sounds s_clapped s_next s_hall_rows s_hall_late s_hall_kinds s_hall_palms s_hall_strengths) H → va_D A (wCH cI q0 q1 q2 q3 q4 q5 q6 q7 s_armRows s_sounds s_clapped s_next s_hall_rows s_hall_late s_hall_kinds s_hall_palms s_hall_strengths) → va_S A s.heap H locs → lv_has ls 6 [(0, .ref q0), (1, .ref q4), (2, .int p2), (3, .int z1.1), (4, .int z1.2.1), (5, .int z1.2.2)] → (∀ (H : Heap) (locs : List Loc) (ls : Array Slot), va_P D vwCl (wCH cI q0 q1 q2 q3 q4 q5 q6 q7 s_armRows s_sounds s_clapped s_next s_hall_rows s_hall_late s_hall_kinds s_hall_palms s_hall_strengths) H → va_D A (wCH cI q0 q1 q2 q3 q4 q5 q6 q7 s_armRows s_sounds s_clapped s_next s_hall_rows s_hall_late s_hall_kinds s_hall_palms s_hall_strengths) → va_S A s.heap H locs → lv_has ls 6 [(0, .ref q0), (1, .ref q4), (2, .int p2), (3, .int u2.1), (4, .int u2.2.1), (5, .int u2.2.2)] → W p l e rX0_soundOfMore s m args below meth c H locs 0 0 Q (F0 m 48 ls [])) → W p l e rX0_soundOfMore s m args below meth c H locs 0 0 Q (F0 m 10 ls [])) ?_ _ _ _ hu2 _ _ _ hP hD hS (lv_sub hl [3, 4, 5, 2, 1, 0] rfl) ?_
  · intro rc1 ih1 z1 u2 h H locs ls hP hD hS hl kx1
    unfold fX0_soundOfMore_L1 at h
    refine lv_iload hx hb dX0_soundOfMore_10 (lv_at hl 5 rfl) ?_
    refine lv_iload_n hx hb dX0_soundOfMore_12 rfl (lv_at hl 2 rfl) ?_
    refine lv_iconst (v := 1) hx hb dX0_soundOfMore_13 (by decide) ?_
    refine lv_iadd hx hb dX0_soundOfMore_14 ?_
    refine lv_icmp_gt (tgt := 48) hx hb dX0_soundOfMore_15 (by decide) (fun c0 => ?_) (fun c0 => ?_)
    · have h := (if_pos c0).symm.trans h
      have h := Option.some.inj h
      subst h
      exact kx1 _ _ _ hP hD hS (lv_sub hl [0, 1, 2, 3, 4, 5] rfl)
    · have h := (if_neg c0).symm.trans h
      refine lv_iload_n hx hb dX0_soundOfMore_18 rfl (lv_at hl 3 rfl) ?_
      refine lv_aload_n hx hb dX0_soundOfMore_19 rfl (lv_at hl 0 rfl) ?_
      refine lv_aload_n hx hb dX0_soundOfMore_20 rfl (lv_at hl 1 rfl) ?_
      refine lv_iload hx hb dX0_soundOfMore_21 (lv_at hl 5 rfl) ?_
      refine lv_iconst (v := 1) hx hb dX0_soundOfMore_23 (by decide) ?_
      obtain ⟨u3, hu3, h⟩ := k_bs h
      refine k_ciA (r := u3) (k2 := 0) (n2 := 0) (ws := (wCH cI q0 q1 q2 q3 q4 q5 q6 q7 s_armRows s_sounds s_clapped s_next s_hall_rows s_hall_late s_hall_kinds s_hall_palms s_hall_strengths)) (wc' := (wCH cI q0 q1 q2 q3 q4 q5 q6 q7 s_armRows s_sounds s_clapped s_next s_hall_rows s_hall_late s_hall_kinds s_hall_palms s_hall_strengths)) (va_runV (C := RX0) (As := [.ref q4, .int z1.2.2, .int 1]) (rest := [.int z1.1]) ⟨hx, hb, hml, hown, hts⟩ (mX0_palmsThatSound l D cI ad q0 q1 q2 q3 q4 q5 q6 q7 _ s_armRows s_sounds s_clapped s_next s_hall_rows s_hall_late s_hall_kinds s_hall_palms s_hall_strengths z1.2.2 1 u3 hu3) (cwV 3 hts gX0_soundOfMore_X0_palmsThatSound rfl rfl rfl (by decide +kernel) ⟨Nat.le_of_ble_eq_true rfl, Nat.le_of_ble_eq_true rfl⟩) (k_preA (q := (RX0, TX0, 4)) hN hST hA hK hP hD hS 0 (ci := 0) rfl rfl) rfl rfl hl.1 rfl (lv_room (Nat.le_of_ble_eq_true rfl)) dX0_soundOfMore_24 ⟨Nat.le_of_ble_eq_true rfl, Nat.le_of_ble_eq_true rfl⟩) hP hD hS hA rfl rfl (fun H locs hP hD hS => ?_)
      refine lv_iadd hx hb dX0_soundOfMore_27 ?_
      refine lv_istore_n (lv' := [(3, .int (z1.1 + u3)), (0, .ref q0), (1, .ref q4), (2, .int p2), (4, .int z1.2.1), (5, .int z1.2.2)]) hx hb dX0_soundOfMore_28 rfl hl (by decide) rfl (fun ls hl => ?_)
      refine lv_iload hx hb dX0_soundOfMore_29 (lv_at hl 4 rfl) ?_
      refine lv_aload_n hx hb dX0_soundOfMore_31 rfl (lv_at hl 1 rfl) ?_
      refine lv_aload_n hx hb dX0_soundOfMore_32 rfl (lv_at hl 2 rfl) ?_
      refine lv_iload hx hb dX0_soundOfMore_33 (lv_at hl 5 rfl) ?_
      refine lv_iconst (v := 2) hx hb dX0_soundOfMore_35 (by decide) ?_
      obtain ⟨u4, hu4, h⟩ := k_bs h
      refine k_ciA (r := u4) (k2 := 0) (n2 := 0) (ws := (wCH cI q0 q1 q2 q3 q4 q5 q6 q7 s_armRows s_sounds s_clapped s_next s_hall_rows s_hall_late s_hall_kinds s_hall_palms s_hall_strengths)) (wc' := (wCH cI q0 q1 q2 q3 q4 q5 q6 q7 s_armRows s_sounds s_clapped s_next s_hall_rows s_hall_late s_hall_kinds s_hall_palms s_hall_strengths)) (va_runV (C := RX0) (As := [.ref q4, .int z1.2.2, .int 2]) (rest := [.int z1.2.1]) ⟨hx, hb, hml, hown, hts⟩ (mX0_palmsThatSound l D cI ad q0 q1 q2 q3 q4 q5 q6 q7 _ s_armRows s_sounds s_clapped s_next s_hall_rows s_hall_late s_hall_kinds s_hall_palms s_hall_strengths z1.2.2 2 u4 hu4) (cwV 3 hts gX0_soundOfMore_X0_palmsThatSound rfl rfl rfl (by decide +kernel) ⟨Nat.le_of_ble_eq_true rfl, Nat.le_of_ble_eq_true rfl⟩) (k_preA (q := (RX0, TX0, 4)) hN hST hA hK hP hD hS 0 (ci := 0) rfl rfl) rfl rfl hl.1 rfl (lv_room (Nat.le_of_ble_eq_true rfl)) dX0_soundOfMore_36 ⟨Nat.le_of_ble_eq_true rfl, Nat.le_of_ble_eq_true rfl⟩) hP hD hS hA rfl rfl (fun H locs hP hD hS => ?_)
      refine lv_iadd hx hb dX0_soundOfMore_39 ?_
      refine lv_istore (lv' := [(4, .int (z1.2.1 + u4)), (3, .int (z1.1 + u3)), (0, .ref q0), (1, .ref q4), (2, .int p2), (5, .int z1.2.2)]) hx hb dX0_soundOfMore_40 hl (by decide) rfl (fun ls hl => ?_)
      refine lv_iinc (v := (z1.2.2 + 1)) (lv' := [(5, .int (z1.2.2 + 1)), (4, .int (z1.2.1 + u4)), (3, .int (z1.1 + u3)), (0, .ref q0), (1, .ref q4), (2, .int p2)]) hx hb dX0_soundOfMore_42 hl (k := 5) rfl rfl (by decide) rfl (fun ls hl => ?_)
      refine lv_goto (tgt := 10) hx hb dX0_soundOfMore_45 (by decide) ?_
      exact ih1 _ _ h _ _ _ hP hD hS (lv_sub hl [3, 4, 5, 2, 1, 0] rfl) kx1
  · intro H locs ls hP hD hS hl
    refine lv_iload_n hx hb dX0_soundOfMore_48 rfl (lv_at hl 3 rfl) ?_
    refine lv_iload hx hb dX0_soundOfMore_49 (lv_at hl 4 rfl) ?_
    refine lv_icmp_eq (tgt := 66) hx hb dX0_soundOfMore_51 (by decide) (fun c0 => ?_) (fun c0 => ?_)
    · have h := (if_pos c0).symm.trans h
      refine lv_aload_n hx hb dX0_soundOfMore_66 rfl (lv_at hl 1 rfl) ?_
      refine lv_iload_n hx hb dX0_soundOfMore_67 rfl (lv_at hl 2 rfl) ?_
      obtain ⟨u5, hu5, h⟩ := k_bs h
      refine k_ci (r := u5) (k2 := 0) (n2 := 0) (wc := (wH cI q4 q5 q6 q7 s_hall_rows s_hall_late s_hall_kinds s_hall_palms s_hall_strengths)) (wc' := (wH cI q4 q5 q6 q7 s_hall_rows s_hall_late s_hall_kinds s_hall_palms s_hall_strengths)) (w2 := (wCH cI q0 q1 q2 q3 q4 q5 q6 q7 s_armRows s_sounds s_clapped s_next s_hall_rows s_hall_late s_hall_kinds s_hall_palms s_hall_strengths)) (va_runV (C := RX2) (As := [.int p2]) (rest := []) ⟨hx, hb, hml, hown, hts⟩ (mX2_kindOf l D cI ad q4 q5 q6 q7 _ s_hall_rows s_hall_late s_hall_kinds s_hall_palms s_hall_strengths p2 u5 hu5) (cwV 1 hts gX0_soundOfMore_X2_kindOf rfl rfl rfl (by decide +kernel) ⟨Nat.le_of_ble_eq_true rfl, Nat.le_of_ble_eq_true rfl⟩) (k_prev (q := (RX2, TX2, 5)) hN hST hA hK hP hD hS (isC := [4, 5, 6, 7]) rfl rfl 4 (ci := 2) rfl rfl) rfl rfl hl.1 rfl (lv_room (Nat.le_of_ble_eq_true rfl)) dX0_soundOfMore_68 ⟨Nat.le_of_ble_eq_true rfl, Nat.le_of_ble_eq_true rfl⟩) hP hD hS hA [4, 5, 6, 7] rfl rfl rfl rfl rfl (fun H locs hP hD hS => ?_)
      refine lv_iconst (v := 3) hx hb dX0_soundOfMore_71 (by decide) ?_
      refine lv_icmp_ne (tgt := 79) hx hb dX0_soundOfMore_72 (by decide) (fun c0 => ?_) (fun c0 => ?_)
      · have h := (if_neg c0).symm.trans h
        refine lv_aload_n hx hb dX0_soundOfMore_79 rfl (lv_at hl 0 rfl) ?_
        refine lv_iload_n hx hb dX0_soundOfMore_80 rfl (lv_at hl 2 rfl) ?_
        obtain ⟨u6, hu6, h⟩ := k_bs h
        refine k_ci (r := u6) (k2 := 0) (n2 := 0) (wc := (wC cI q0 q1 q2 q3 s_armRows s_sounds s_clapped s_next)) (wc' := (wC cI q0 q1 q2 q3 s_armRows s_sounds s_clapped s_next)) (w2 := (wCH cI q0 q1 q2 q3 q4 q5 q6 q7 s_armRows s_sounds s_clapped s_next s_hall_rows s_hall_late s_hall_kinds s_hall_palms s_hall_strengths)) (va_runV (C := RX0) (As := [.int p2]) (rest := []) ⟨hx, hb, hml, hown, hts⟩ (mX0_soundOf l D cI ad q0 q1 q2 q3 _ s_armRows s_sounds s_clapped s_next p2 u6 hu6) (cwV 1 hts gX0_soundOfMore_X0_soundOf rfl rfl rfl (by decide +kernel) ⟨Nat.le_of_ble_eq_true rfl, Nat.le_of_ble_eq_true rfl⟩) (k_prev (q := (RX0, TX0, 4)) hN hST hA hK hP hD hS (isC := [0, 1, 2, 3]) rfl rfl 0 (ci := 0) rfl rfl) rfl rfl hl.1 rfl (lv_room (Nat.le_of_ble_eq_true rfl)) dX0_soundOfMore_81 ⟨Nat.le_of_ble_eq_true rfl, Nat.le_of_ble_eq_true rfl⟩) hP hD hS hA [0, 1, 2, 3] rfl rfl rfl rfl rfl (fun H locs hP hD hS => ?_)
        have h := Option.some.inj h
        subst h
        exact hRet _ _ _ _ hP hD hS dX0_soundOfMore_84
      · have h := (if_pos c0).symm.trans h
        refine lv_iconst (v := 3) hx hb dX0_soundOfMore_75 (by decide) ?_
        refine lv_goto (tgt := 84) hx hb dX0_soundOfMore_76 (by decide) ?_
        have h := Option.some.inj h
        subst h
        exact hRet _ _ _ _ hP hD hS dX0_soundOfMore_84
    · have h := (if_neg c0).symm.trans h
      refine lv_iload_n hx hb dX0_soundOfMore_54 rfl (lv_at hl 3 rfl) ?_
      refine lv_iload hx hb dX0_soundOfMore_55 (lv_at hl 4 rfl) ?_
      refine lv_icmp_le (tgt := 64) hx hb dX0_soundOfMore_57 (by decide) (fun c0 => ?_) (fun c0 => ?_)
      · have h := (if_pos c0).symm.trans h
        refine lv_iconst (v := 2) hx hb dX0_soundOfMore_64 (by decide) ?_
        have h := Option.some.inj h
        subst h
        exact hRet _ _ _ _ hP hD hS dX0_soundOfMore_65
      · have h := (if_neg c0).symm.trans h
        refine lv_iconst (v := 1) hx hb dX0_soundOfMore_60 (by decide) ?_
        refine lv_goto (tgt := 65) hx hb dX0_soundOfMore_61 (by decide) ?_
        have h := Option.some.inj h
        subst h
        exact hRet _ _ _ _ hP hD hS dX0_soundOfMore_65
def rX0_soundNext : Room := { frames := 2, cells := 0, slots := 0, locals := 48 }
set_option maxHeartbeats 4000000 in
set_option maxRecDepth 100000 in
theorem mX0_soundNext (l : Launch) (D : va_G) (cI : ClassId) (ad : Nat × Nat) (q0 q1 q2 q3 q4 q5 q6 q7 : Nat) (sz : Nat) (s_armRows : Int32) (s_sounds : (Nat → Int32)) (s_clapped : (Nat → Int32)) (s_next : (Nat → Int32)) (s_hall_rows : Int32) (s_hall_late : Int32) (s_hall_kinds : (Nat → Int32)) (s_hall_palms : (Nat → Int32)) (s_hall_strengths : (Nat → Int32)) (p2 : Int32) (r : Int32) (h : fX0_soundNext s_sounds s_clapped s_armRows s_hall_kinds s_hall_palms s_hall_strengths s_hall_rows p2 = some r) : Met l yX0_soundNext wsX0_soundNext rX0_soundNext (kPre D cI ad [.ref q0, .ref q4, .int p2] (wCH cI q0 q1 q2 q3 q4 q5 q6 q7 s_armRows s_sounds s_clapped s_next s_hall_rows s_hall_late s_hall_kinds s_hall_palms s_hall_strengths) sz) (kQi D cI r (wCH cI q0 q1 q2 q3 q4 q5 q6 q7 s_armRows s_sounds s_clapped s_next s_hall_rows s_hall_late s_hall_kinds s_hall_palms s_hall_strengths) (va_A (wCH cI q0 q1 q2 q3 q4 q5 q6 q7 s_armRows s_sounds s_clapped s_next s_hall_rows s_hall_late s_hall_kinds s_hall_palms s_hall_strengths) sz)) 0 0 (va_A (wCH cI q0 q1 q2 q3 q4 q5 q6 q7 s_armRows s_sounds s_clapped s_next s_hall_rows s_hall_late s_hall_kinds s_hall_palms s_hall_strengths) sz) := by
  refine kStart (cc := cX0_soundNext) (maxL := 4) (ret := (some .int)) (Qc := fun A => kQi D cI r (wCH cI q0 q1 q2 q3 q4 q5 q6 q7 s_armRows s_sounds s_clapped s_next s_hall_rows s_hall_late s_hall_kinds s_hall_palms s_hall_strengths) A) (by decide) rfl (Nat.le_of_ble_eq_true rfl) ?_
  intro p e s m args below meth c A ls hx hb hr hts hown hlocks hin hml hN hST hA hS hP hK hD hl
  have hown : s.vm.findClass RX0 = some m.cls := hown
  have hl : lv_has ls 4 [(0, .ref q0), (1, .ref q4), (2, .int p2)] := hl
  have hRet : ∀ (H : Heap) (locs : List Loc) (ls : Array Slot) (pc : Nat), va_P D vwCl (wCH cI q0 q1 q2 q3 q4 q5 q6 q7 s_armRows s_sounds s_clapped s_next s_hall_rows s_hall_late s_hall_kinds s_hall_palms s_hall_strengths) H → va_D A (wCH cI q0 q1 q2 q3 q4 q5 q6 q7 s_armRows s_sounds s_clapped s_next s_hall_rows s_hall_late s_hall_kinds s_hall_palms s_hall_strengths) → va_S A s.heap H locs → decode cX0_soundNext pc = .ok (.ireturn, 1) → W p l e rX0_soundNext s m args below meth c H locs 0 0 (MQ below (kQi D cI r (wCH cI q0 q1 q2 q3 q4 q5 q6 q7 s_armRows s_sounds s_clapped s_next s_hall_rows s_hall_late s_hall_kinds s_hall_palms s_hall_strengths) A) args s 0 0 A) (F0 m pc ls [.int r]) := fun H locs ls pc hP hD hS hd => k_iret hx hb hr hlocks hK hP hD hS hd
  generalize MQ below (kQi D cI r (wCH cI q0 q1 q2 q3 q4 q5 q6 q7 s_armRows s_sounds s_clapped s_next s_hall_rows s_hall_late s_hall_kinds s_hall_palms s_hall_strengths) A) args s 0 0 A = Q at hRet ⊢
  unfold fX0_soundNext at h
  refine lv_aload_n hx hb dX0_soundNext_0 rfl (lv_at hl 0 rfl) ?_
  refine lv_aload_n hx hb dX0_soundNext_1 rfl (lv_at hl 1 rfl) ?_
  refine lv_iload_n hx hb dX0_soundNext_2 rfl (lv_at hl 2 rfl) ?_
  obtain ⟨u1, hu1, h⟩ := k_bs h
  refine k_ciA (r := u1) (k2 := 0) (n2 := 0) (ws := (wCH cI q0 q1 q2 q3 q4 q5 q6 q7 s_armRows s_sounds s_clapped s_next s_hall_rows s_hall_late s_hall_kinds s_hall_palms s_hall_strengths)) (wc' := (wCH cI q0 q1 q2 q3 q4 q5 q6 q7 s_armRows s_sounds s_clapped s_next s_hall_rows s_hall_late s_hall_kinds s_hall_palms s_hall_strengths)) (va_runV (C := RX0) (As := [.ref q4, .int p2]) (rest := []) ⟨hx, hb, hml, hown, hts⟩ (mX0_isTired l D cI ad q0 q1 q2 q3 q4 q5 q6 q7 _ s_armRows s_sounds s_clapped s_next s_hall_rows s_hall_late s_hall_kinds s_hall_palms s_hall_strengths p2 u1 hu1) (cwV 2 hts gX0_soundNext_X0_isTired rfl rfl rfl (by decide +kernel) ⟨Nat.le_of_ble_eq_true rfl, Nat.le_of_ble_eq_true rfl⟩) (k_preA (q := (RX0, TX0, 4)) hN hST hA hK hP hD hS 0 (ci := 0) rfl rfl) rfl rfl hl.1 rfl (lv_room (Nat.le_of_ble_eq_true rfl)) dX0_soundNext_3 ⟨Nat.le_of_ble_eq_true rfl, Nat.le_of_ble_eq_true rfl⟩) hP hD hS hA rfl rfl (fun H locs hP hD hS => ?_)
  refine lv_if_eq (tgt := 11) hx hb dX0_soundNext_6 (by decide) (fun c0 => ?_) (fun c0 => ?_)
  · have h := (if_pos c0).symm.trans h
    refine lv_aload_n hx hb dX0_soundNext_11 rfl (lv_at hl 0 rfl) ?_
    refine lv_iload_n hx hb dX0_soundNext_12 rfl (lv_at hl 2 rfl) ?_
    obtain ⟨u2, hu2, h⟩ := k_bs h
    refine k_ci (r := u2) (k2 := 0) (n2 := 0) (wc := (wC cI q0 q1 q2 q3 s_armRows s_sounds s_clapped s_next)) (wc' := (wC cI q0 q1 q2 q3 s_armRows s_sounds s_clapped s_next)) (w2 := (wCH cI q0 q1 q2 q3 q4 q5 q6 q7 s_armRows s_sounds s_clapped s_next s_hall_rows s_hall_late s_hall_kinds s_hall_palms s_hall_strengths)) (va_runV (C := RX0) (As := [.int p2]) (rest := []) ⟨hx, hb, hml, hown, hts⟩ (mX0_soundOf l D cI ad q0 q1 q2 q3 _ s_armRows s_sounds s_clapped s_next p2 u2 hu2) (cwV 1 hts gX0_soundNext_X0_soundOf rfl rfl rfl (by decide +kernel) ⟨Nat.le_of_ble_eq_true rfl, Nat.le_of_ble_eq_true rfl⟩) (k_prev (q := (RX0, TX0, 4)) hN hST hA hK hP hD hS (isC := [0, 1, 2, 3]) rfl rfl 0 (ci := 0) rfl rfl) rfl rfl hl.1 rfl (lv_room (Nat.le_of_ble_eq_true rfl)) dX0_soundNext_13 ⟨Nat.le_of_ble_eq_true rfl, Nat.le_of_ble_eq_true rfl⟩) hP hD hS hA [0, 1, 2, 3] rfl rfl rfl rfl rfl (fun H locs hP hD hS => ?_)
    refine lv_istore_n (lv' := [(3, .int u2), (0, .ref q0), (1, .ref q4), (2, .int p2)]) hx hb dX0_soundNext_16 rfl hl (by decide) rfl (fun ls hl => ?_)
    refine lv_iload_n hx hb dX0_soundNext_17 rfl (lv_at hl 0 rfl) ?_
    refine lv_if_ne (tgt := 23) hx hb dX0_soundNext_18 (by decide) (fun c0 => ?_) (fun c0 => ?_)
    · have h := (if_neg c0).symm.trans h
      refine lv_aload_n hx hb dX0_soundNext_23 rfl (lv_at hl 2 rfl) ?_
      refine lv_iload_n hx hb dX0_soundNext_24 rfl (lv_at hl 3 rfl) ?_
      refine lv_iconst (v := 1) hx hb dX0_soundNext_25 (by decide) ?_
      obtain ⟨u3, hu3, h⟩ := k_bs h
      refine k_ci (r := u3) (k2 := 0) (n2 := 0) (wc := (wH cI q4 q5 q6 q7 s_hall_rows s_hall_late s_hall_kinds s_hall_palms s_hall_strengths)) (wc' := (wH cI q4 q5 q6 q7 s_hall_rows s_hall_late s_hall_kinds s_hall_palms s_hall_strengths)) (w2 := (wCH cI q0 q1 q2 q3 q4 q5 q6 q7 s_armRows s_sounds s_clapped s_next s_hall_rows s_hall_late s_hall_kinds s_hall_palms s_hall_strengths)) (va_runV (C := RX2) (As := [.int p2, .int 1]) (rest := []) ⟨hx, hb, hml, hown, hts⟩ (mX2_isOf l D cI ad q4 q5 q6 q7 _ s_hall_rows s_hall_late s_hall_kinds s_hall_palms s_hall_strengths p2 1 u3 hu3) (cwV 2 hts gX0_soundNext_X2_isOf rfl rfl rfl (by decide +kernel) ⟨Nat.le_of_ble_eq_true rfl, Nat.le_of_ble_eq_true rfl⟩) (k_prev (q := (RX2, TX2, 5)) hN hST hA hK hP hD hS (isC := [4, 5, 6, 7]) rfl rfl 4 (ci := 2) rfl rfl) rfl rfl hl.1 rfl (lv_room (Nat.le_of_ble_eq_true rfl)) dX0_soundNext_26 ⟨Nat.le_of_ble_eq_true rfl, Nat.le_of_ble_eq_true rfl⟩) hP hD hS hA [4, 5, 6, 7] rfl rfl rfl rfl rfl (fun H locs hP hD hS => ?_)
      refine lv_if_eq (tgt := 34) hx hb dX0_soundNext_29 (by decide) (fun c0 => ?_) (fun c0 => ?_)
      · have h := (if_pos c0).symm.trans h
        refine lv_aload_n hx hb dX0_soundNext_34 rfl (lv_at hl 2 rfl) ?_
        refine lv_iload_n hx hb dX0_soundNext_35 rfl (lv_at hl 3 rfl) ?_
        obtain ⟨u4, hu4, h⟩ := k_bs h
        refine k_ci (r := u4) (k2 := 0) (n2 := 0) (wc := (wH cI q4 q5 q6 q7 s_hall_rows s_hall_late s_hall_kinds s_hall_palms s_hall_strengths)) (wc' := (wH cI q4 q5 q6 q7 s_hall_rows s_hall_late s_hall_kinds s_hall_palms s_hall_strengths)) (w2 := (wCH cI q0 q1 q2 q3 q4 q5 q6 q7 s_armRows s_sounds s_clapped s_next s_hall_rows s_hall_late s_hall_kinds s_hall_palms s_hall_strengths)) (va_runV (C := RX2) (As := [.int p2]) (rest := []) ⟨hx, hb, hml, hown, hts⟩ (mX2_kindOf l D cI ad q4 q5 q6 q7 _ s_hall_rows s_hall_late s_hall_kinds s_hall_palms s_hall_strengths p2 u4 hu4) (cwV 1 hts gX0_soundNext_X2_kindOf rfl rfl rfl (by decide +kernel) ⟨Nat.le_of_ble_eq_true rfl, Nat.le_of_ble_eq_true rfl⟩) (k_prev (q := (RX2, TX2, 5)) hN hST hA hK hP hD hS (isC := [4, 5, 6, 7]) rfl rfl 4 (ci := 2) rfl rfl) rfl rfl hl.1 rfl (lv_room (Nat.le_of_ble_eq_true rfl)) dX0_soundNext_36 ⟨Nat.le_of_ble_eq_true rfl, Nat.le_of_ble_eq_true rfl⟩) hP hD hS hA [4, 5, 6, 7] rfl rfl rfl rfl rfl (fun H locs hP hD hS => ?_)
        refine lv_iconst (v := 2) hx hb dX0_soundNext_39 (by decide) ?_
        refine lv_icmp_ne (tgt := 53) hx hb dX0_soundNext_40 (by decide) (fun c0 => ?_) (fun c0 => ?_)
        · have h := (if_neg c0).symm.trans h
          refine lv_aload_n hx hb dX0_soundNext_53 rfl (lv_at hl 1 rfl) ?_
          refine lv_aload_n hx hb dX0_soundNext_54 rfl (lv_at hl 2 rfl) ?_
          refine lv_iload_n hx hb dX0_soundNext_55 rfl (lv_at hl 3 rfl) ?_
          obtain ⟨u5, hu5, h⟩ := k_bs h
          refine k_ciA (r := u5) (k2 := 0) (n2 := 0) (ws := (wCH cI q0 q1 q2 q3 q4 q5 q6 q7 s_armRows s_sounds s_clapped s_next s_hall_rows s_hall_late s_hall_kinds s_hall_palms s_hall_strengths)) (wc' := (wCH cI q0 q1 q2 q3 q4 q5 q6 q7 s_armRows s_sounds s_clapped s_next s_hall_rows s_hall_late s_hall_kinds s_hall_palms s_hall_strengths)) (va_runV (C := RX0) (As := [.ref q4, .int p2]) (rest := []) ⟨hx, hb, hml, hown, hts⟩ (mX0_soundOfMore l D cI ad q0 q1 q2 q3 q4 q5 q6 q7 _ s_armRows s_sounds s_clapped s_next s_hall_rows s_hall_late s_hall_kinds s_hall_palms s_hall_strengths p2 u5 hu5) (cwV 2 hts gX0_soundNext_X0_soundOfMore rfl rfl rfl (by decide +kernel) ⟨Nat.le_of_ble_eq_true rfl, Nat.le_of_ble_eq_true rfl⟩) (k_preA (q := (RX0, TX0, 4)) hN hST hA hK hP hD hS 0 (ci := 0) rfl rfl) rfl rfl hl.1 rfl (lv_room (Nat.le_of_ble_eq_true rfl)) dX0_soundNext_56 ⟨Nat.le_of_ble_eq_true rfl, Nat.le_of_ble_eq_true rfl⟩) hP hD hS hA rfl rfl (fun H locs hP hD hS => ?_)
          have h := Option.some.inj h
          subst h
          exact hRet _ _ _ _ hP hD hS dX0_soundNext_59
        · have h := (if_pos c0).symm.trans h
          refine lv_aload_n hx hb dX0_soundNext_43 rfl (lv_at hl 1 rfl) ?_
          refine lv_iload_n hx hb dX0_soundNext_44 rfl (lv_at hl 3 rfl) ?_
          obtain ⟨u6, hu6, h⟩ := k_bs h
          refine k_ci (r := u6) (k2 := 0) (n2 := 0) (wc := (wC cI q0 q1 q2 q3 s_armRows s_sounds s_clapped s_next)) (wc' := (wC cI q0 q1 q2 q3 s_armRows s_sounds s_clapped s_next)) (w2 := (wCH cI q0 q1 q2 q3 q4 q5 q6 q7 s_armRows s_sounds s_clapped s_next s_hall_rows s_hall_late s_hall_kinds s_hall_palms s_hall_strengths)) (va_runV (C := RX0) (As := [.int p2]) (rest := []) ⟨hx, hb, hml, hown, hts⟩ (mX0_seesArm l D cI ad q0 q1 q2 q3 _ s_armRows s_sounds s_clapped s_next p2 u6 hu6) (cwV 1 hts gX0_soundNext_X0_seesArm rfl rfl rfl (by decide +kernel) ⟨Nat.le_of_ble_eq_true rfl, Nat.le_of_ble_eq_true rfl⟩) (k_prev (q := (RX0, TX0, 4)) hN hST hA hK hP hD hS (isC := [0, 1, 2, 3]) rfl rfl 0 (ci := 0) rfl rfl) rfl rfl hl.1 rfl (lv_room (Nat.le_of_ble_eq_true rfl)) dX0_soundNext_45 ⟨Nat.le_of_ble_eq_true rfl, Nat.le_of_ble_eq_true rfl⟩) hP hD hS hA [0, 1, 2, 3] rfl rfl rfl rfl rfl (fun H locs hP hD hS => ?_)
          refine lv_if_eq (tgt := 53) hx hb dX0_soundNext_48 (by decide) (fun c0 => ?_) (fun c0 => ?_)
          · have h := (if_pos c0).symm.trans h
            refine lv_aload_n hx hb dX0_soundNext_53 rfl (lv_at hl 1 rfl) ?_
            refine lv_aload_n hx hb dX0_soundNext_54 rfl (lv_at hl 2 rfl) ?_
            refine lv_iload_n hx hb dX0_soundNext_55 rfl (lv_at hl 3 rfl) ?_
            obtain ⟨u7, hu7, h⟩ := k_bs h
            refine k_ciA (r := u7) (k2 := 0) (n2 := 0) (ws := (wCH cI q0 q1 q2 q3 q4 q5 q6 q7 s_armRows s_sounds s_clapped s_next s_hall_rows s_hall_late s_hall_kinds s_hall_palms s_hall_strengths)) (wc' := (wCH cI q0 q1 q2 q3 q4 q5 q6 q7 s_armRows s_sounds s_clapped s_next s_hall_rows s_hall_late s_hall_kinds s_hall_palms s_hall_strengths)) (va_runV (C := RX0) (As := [.ref q4, .int p2]) (rest := []) ⟨hx, hb, hml, hown, hts⟩ (mX0_soundOfMore l D cI ad q0 q1 q2 q3 q4 q5 q6 q7 _ s_armRows s_sounds s_clapped s_next s_hall_rows s_hall_late s_hall_kinds s_hall_palms s_hall_strengths p2 u7 hu7) (cwV 2 hts gX0_soundNext_X0_soundOfMore rfl rfl rfl (by decide +kernel) ⟨Nat.le_of_ble_eq_true rfl, Nat.le_of_ble_eq_true rfl⟩) (k_preA (q := (RX0, TX0, 4)) hN hST hA hK hP hD hS 0 (ci := 0) rfl rfl) rfl rfl hl.1 rfl (lv_room (Nat.le_of_ble_eq_true rfl)) dX0_soundNext_56 ⟨Nat.le_of_ble_eq_true rfl, Nat.le_of_ble_eq_true rfl⟩) hP hD hS hA rfl rfl (fun H locs hP hD hS => ?_)
            have h := Option.some.inj h
            subst h
            exact hRet _ _ _ _ hP hD hS dX0_soundNext_59
          · have h := (if_neg c0).symm.trans h
            refine lv_iconst (v := 2) hx hb dX0_soundNext_51 (by decide) ?_
            have h := Option.some.inj h
            subst h
            exact hRet _ _ _ _ hP hD hS dX0_soundNext_52
      · have h := (if_neg c0).symm.trans h
        refine lv_iload_n hx hb dX0_soundNext_32 rfl (lv_at hl 0 rfl) ?_
        have h := Option.some.inj h
        subst h
        exact hRet _ _ _ _ hP hD hS dX0_soundNext_33
    · have h := (if_pos c0).symm.trans h
      refine lv_iconst (v := 3) hx hb dX0_soundNext_21 (by decide) ?_
      have h := Option.some.inj h
      subst h
      exact hRet _ _ _ _ hP hD hS dX0_soundNext_22
  · have h := (if_neg c0).symm.trans h
    refine lv_iconst (v := 0) hx hb dX0_soundNext_9 (by decide) ?_
    have h := Option.some.inj h
    subst h
    exact hRet _ _ _ _ hP hD hS dX0_soundNext_10
def rX5_oneIf : Room := { frames := 0, cells := 0, slots := 0, locals := 0 }
set_option maxHeartbeats 4000000 in
set_option maxRecDepth 100000 in
theorem mX5_oneIf (l : Launch) (D : va_G) (cI : ClassId) (ad : Nat × Nat) (sz : Nat) (p0 : Int32) (r : Int32) (h : fX5_oneIf p0 = some r) : Met l yX5_oneIf wsX5_oneIf rX5_oneIf (kPre D cI ad [.int p0] [] sz) (kQi D cI r [] (va_A [] sz)) 0 0 (va_A [] sz) := by
  refine kStart (cc := cX5_oneIf) (maxL := 1) (ret := (some .int)) (Qc := fun A => kQi D cI r [] A) (by decide) rfl (Nat.le_of_ble_eq_true rfl) ?_
  intro p e s m args below meth c A ls hx hb hr hts hown hlocks hin hml hN hST hA hS hP hK hD hl
  have hown : s.vm.findClass RX5 = some m.cls := hown
  have hl : lv_has ls 1 [(0, .int p0)] := hl
  have hRet : ∀ (H : Heap) (locs : List Loc) (ls : Array Slot) (pc : Nat), va_P D vwCl [] H → va_D A [] → va_S A s.heap H locs → decode cX5_oneIf pc = .ok (.ireturn, 1) → W p l e rX5_oneIf s m args below meth c H locs 0 0 (MQ below (kQi D cI r [] A) args s 0 0 A) (F0 m pc ls [.int r]) := fun H locs ls pc hP hD hS hd => k_iret hx hb hr hlocks hK hP hD hS hd
  generalize MQ below (kQi D cI r [] A) args s 0 0 A = Q at hRet ⊢
  unfold fX5_oneIf at h
  refine lv_iload_n hx hb dX5_oneIf_0 rfl (lv_at hl 0 rfl) ?_
  refine lv_if_eq (tgt := 8) hx hb dX5_oneIf_1 (by decide) (fun c0 => ?_) (fun c0 => ?_)
  · have h := (if_pos c0).symm.trans h
    refine lv_iconst (v := 0) hx hb dX5_oneIf_8 (by decide) ?_
    have h := Option.some.inj h
    subst h
    exact hRet _ _ _ _ hP hD hS dX5_oneIf_9
  · have h := (if_neg c0).symm.trans h
    refine lv_iconst (v := 1) hx hb dX5_oneIf_4 (by decide) ?_
    refine lv_goto (tgt := 9) hx hb dX5_oneIf_5 (by decide) ?_
    have h := Option.some.inj h
    subst h
    exact hRet _ _ _ _ hP hD hS dX5_oneIf_9
theorem iX0_goOn_X0 : ∀ w ∈ wsX00, w ∈ wsX0_goOn := by decide +kernel
theorem iX0_goOn_X2 : ∀ w ∈ wsX20, w ∈ wsX0_goOn := by decide +kernel
def rX0_goOn : Room := { frames := 3, cells := 0, slots := 0, locals := 71 }
set_option maxHeartbeats 4000000 in
set_option maxRecDepth 100000 in
theorem mX0_goOn (l : Launch) (D : va_G) (cI : ClassId) (ad : Nat × Nat) (q0 q1 q2 q3 q4 q5 q6 q7 : Nat) (sz : Nat) (s_armRows : Int32) (s_sounds : (Nat → Int32)) (s_clapped : (Nat → Int32)) (s_next : (Nat → Int32)) (s_hall_rows : Int32) (s_hall_late : Int32) (s_hall_kinds : (Nat → Int32)) (s_hall_palms : (Nat → Int32)) (s_hall_strengths : (Nat → Int32)) (r : (Int32 × (Nat → Int32) × (Nat → Int32) × (Nat → Int32))) (h : fX0_goOn s_sounds s_clapped s_next s_armRows s_hall_kinds s_hall_palms s_hall_strengths s_hall_rows = some r) : Met l yX0_goOn wsX0_goOn rX0_goOn (kPre D cI ad [.ref q0, .ref q4] (wCH cI q0 q1 q2 q3 q4 q5 q6 q7 s_armRows s_sounds s_clapped s_next s_hall_rows s_hall_late s_hall_kinds s_hall_palms s_hall_strengths) sz) (kQi D cI r.1 (wCH cI q0 q1 q2 q3 q4 q5 q6 q7 s_armRows r.2.1 r.2.2.1 r.2.2.2 s_hall_rows s_hall_late s_hall_kinds s_hall_palms s_hall_strengths) (va_A (wCH cI q0 q1 q2 q3 q4 q5 q6 q7 s_armRows s_sounds s_clapped s_next s_hall_rows s_hall_late s_hall_kinds s_hall_palms s_hall_strengths) sz)) 0 0 (va_A (wCH cI q0 q1 q2 q3 q4 q5 q6 q7 s_armRows s_sounds s_clapped s_next s_hall_rows s_hall_late s_hall_kinds s_hall_palms s_hall_strengths) sz) := by
  refine kStart (cc := cX0_goOn) (maxL := 4) (ret := (some .boolean)) (Qc := fun A => kQi D cI r.1 (wCH cI q0 q1 q2 q3 q4 q5 q6 q7 s_armRows r.2.1 r.2.2.1 r.2.2.2 s_hall_rows s_hall_late s_hall_kinds s_hall_palms s_hall_strengths) A) (by decide) rfl (Nat.le_of_ble_eq_true rfl) ?_
  intro p e s m args below meth c A ls hx hb hr hts hown hlocks hin hml hN hST hA hS hP hK hD hl
  have hown : s.vm.findClass RX0 = some m.cls := hown
  have hl : lv_has ls 4 [(0, .ref q0), (1, .ref q4)] := hl
  have hRet : ∀ (H : Heap) (locs : List Loc) (ls : Array Slot) (pc : Nat), narrow .boolean (.int r.1) = .int r.1 → va_P D vwCl (wCH cI q0 q1 q2 q3 q4 q5 q6 q7 s_armRows r.2.1 r.2.2.1 r.2.2.2 s_hall_rows s_hall_late s_hall_kinds s_hall_palms s_hall_strengths) H → va_D A (wCH cI q0 q1 q2 q3 q4 q5 q6 q7 s_armRows r.2.1 r.2.2.1 r.2.2.2 s_hall_rows s_hall_late s_hall_kinds s_hall_palms s_hall_strengths) → va_S A s.heap H locs → decode cX0_goOn pc = .ok (.ireturn, 1) → W p l e rX0_goOn s m args below meth c H locs 0 0 (MQ below (kQi D cI r.1 (wCH cI q0 q1 q2 q3 q4 q5 q6 q7 s_armRows r.2.1 r.2.2.1 r.2.2.2 s_hall_rows s_hall_late s_hall_kinds s_hall_palms s_hall_strengths) A) args s 0 0 A) (F0 m pc ls [.int r.1]) := fun H locs ls pc hz hP hD hS hd => k_zret hx hb hr hlocks hK hz hP hD hS hd
  generalize MQ below (kQi D cI r.1 (wCH cI q0 q1 q2 q3 q4 q5 q6 q7 s_armRows r.2.1 r.2.2.1 r.2.2.2 s_hall_rows s_hall_late s_hall_kinds s_hall_palms s_hall_strengths) A) args s 0 0 A = Q at hRet ⊢
  unfold fX0_goOn at h
  refine lv_iconst (v := 0) hx hb dX0_goOn_0 (by decide) ?_
  refine lv_istore_n (lv' := [(2, .int 0), (0, .ref q0), (1, .ref q4)]) hx hb dX0_goOn_1 rfl hl (by decide) rfl (fun ls hl => ?_)
  obtain ⟨u2, hu2, h⟩ := k_bs h
  refine kIter_ind (fun (z1 : (Int32 × (Nat → Int32))) (u2 : (Int32 × (Nat → Int32))) => ∀ (H : Heap) (locs : List Loc) (ls : Array Slot), va_P D vwCl (wCH cI q0 q1 q2 q3 q4 q5 q6 q7 s_armRows s_sounds s_clapped z1.2 s_hall_rows s_hall_late s_hall_kinds s_hall_palms s_hall_strengths) H → va_D A (wCH cI q0 q1 q2 q3 q4 q5 q6 q7 s_armRows s_sounds s_clapped z1.2 s_hall_rows s_hall_late s_hall_kinds s_hall_palms s_hall_strengths) → va_S A s.heap H locs → lv_has ls 4 [(0, .ref q0), (1, .ref q4), (2, .int z1.1)] → (∀ (H : Heap) (locs : List Loc) (ls : Array Slot), va_P D vwCl (wCH cI q0 q1 q2 q3 q4 q5 q6 q7 s_armRows s_sounds s_clapped u2.2 s_hall_rows s_hall_late s_hall_kinds s_hall_palms s_hall_strengths) H → va_D A (wCH cI q0 q1 q2 q3 q4 q5 q6 q7 s_armRows s_sounds s_clapped u2.2 s_hall_rows s_hall_late s_hall_kinds s_hall_palms s_hall_strengths) → va_S A s.heap H locs → lv_has ls 4 [(0, .ref q0), (1, .ref q4), (2, .int u2.1)] → W p l e rX0_goOn s m args below meth c H locs 0 0 Q (F0 m 28 ls [])) → W p l e rX0_goOn s m args below meth c H locs 0 0 Q (F0 m 2 ls [])) ?_ _ _ _ hu2 _ _ _ hP hD hS (lv_sub hl [1, 2, 0] rfl) ?_
  · intro rc1 ih1 z1 u2 h H locs ls hP hD hS hl kx1
    unfold fX0_goOn_L1 at h
    refine lv_iload_n hx hb dX0_goOn_2 rfl (lv_at hl 2 rfl) ?_
    refine lv_aload_n hx hb dX0_goOn_3 rfl (lv_at hl 1 rfl) ?_
    refine va_getN (D := D) (ci := 2) (v := .int s_hall_rows) (C := RX2) (T := TX2) (N := 5) hx hb hts iX0_goOn_X2 hown hK hP 4 rfl rfl 3 (by decide) (hN.f RX0 34 "ClappedWrong$Hall" "rows" "I" "ClappedWrong" (by decide +kernel)) (fun _ h9 => h9) rfl dX0_goOn_4 ?_
    refine lv_icmp_ge (tgt := 28) hx hb dX0_goOn_7 (by decide) (fun c0 => ?_) (fun c0 => ?_)
    · have h := (if_pos c0).symm.trans h
      have h := Option.some.inj h
      subst h
      exact kx1 _ _ _ hP hD hS (lv_sub hl [0, 1, 2] rfl)
    · have h := (if_neg c0).symm.trans h
      refine lv_aload_n hx hb dX0_goOn_10 rfl (lv_at hl 0 rfl) ?_
      refine va_get (D := D) (ci := 0) (v := .ref q3) (C := RX0) (T := TX0) (N := 4) hx hb hts iX0_goOn_X0 hown hK hP 0 rfl rfl 2 (by decide) (hts (.fieldLink RX0 18 "ClappedWrong$Crowd" "next" "[I") (by decide +kernel)) (fun _ h9 => h9) rfl dX0_goOn_11 ?_
      refine lv_iload_n hx hb dX0_goOn_14 rfl (lv_at hl 2 rfl) ?_
      refine lv_aload_n hx hb dX0_goOn_15 rfl (lv_at hl 0 rfl) ?_
      refine lv_aload_n hx hb dX0_goOn_16 rfl (lv_at hl 1 rfl) ?_
      refine lv_iload_n hx hb dX0_goOn_17 rfl (lv_at hl 2 rfl) ?_
      obtain ⟨u3, hu3, h⟩ := k_bs h
      refine k_ciA (r := u3) (k2 := 0) (n2 := 0) (ws := (wCH cI q0 q1 q2 q3 q4 q5 q6 q7 s_armRows s_sounds s_clapped z1.2 s_hall_rows s_hall_late s_hall_kinds s_hall_palms s_hall_strengths)) (wc' := (wCH cI q0 q1 q2 q3 q4 q5 q6 q7 s_armRows s_sounds s_clapped z1.2 s_hall_rows s_hall_late s_hall_kinds s_hall_palms s_hall_strengths)) (va_runV (C := RX0) (As := [.ref q4, .int z1.1]) (rest := [.int z1.1, .ref q3]) ⟨hx, hb, hml, hown, hts⟩ (mX0_soundNext l D cI ad q0 q1 q2 q3 q4 q5 q6 q7 _ s_armRows s_sounds s_clapped z1.2 s_hall_rows s_hall_late s_hall_kinds s_hall_palms s_hall_strengths z1.1 u3 hu3) (cwV 2 hts gX0_goOn_X0_soundNext rfl rfl rfl (by decide +kernel) ⟨Nat.le_of_ble_eq_true rfl, Nat.le_of_ble_eq_true rfl⟩) (k_preA (q := (RX0, TX0, 4)) hN hST hA hK hP hD hS 0 (ci := 0) rfl rfl) rfl rfl hl.1 rfl (lv_room (Nat.le_of_ble_eq_true rfl)) dX0_goOn_18 ⟨Nat.le_of_ble_eq_true rfl, Nat.le_of_ble_eq_true rfl⟩) hP hD hS hA rfl rfl (fun H locs hP hD hS => ?_)
      refine k_iast hx hb hK hP hD hS 3 rfl dX0_goOn_21 h (fun g4 => (wCH cI q0 q1 q2 q3 q4 q5 q6 q7 s_armRows s_sounds s_clapped g4 s_hall_rows s_hall_late s_hall_kinds s_hall_palms s_hall_strengths)) (fun _ => rfl) (fun g4 H locs h hP hD hS => ?_)
      refine lv_iinc (v := (z1.1 + 1)) (lv' := [(2, .int (z1.1 + 1)), (0, .ref q0), (1, .ref q4)]) hx hb dX0_goOn_22 hl (k := 2) rfl rfl (by decide) rfl (fun ls hl => ?_)
      refine lv_goto (tgt := 2) hx hb dX0_goOn_25 (by decide) ?_
      exact ih1 _ _ h _ _ _ hP hD hS (lv_sub hl [1, 2, 0] rfl) kx1
  · intro H locs ls hP hD hS hl
    refine lv_iconst (v := 0) hx hb dX0_goOn_28 (by decide) ?_
    refine lv_istore_n (lv' := [(2, .int 0), (0, .ref q0), (1, .ref q4)]) hx hb dX0_goOn_29 rfl hl (by decide) rfl (fun ls hl => ?_)
    refine lv_iconst (v := 0) hx hb dX0_goOn_30 (by decide) ?_
    refine lv_istore_n (lv' := [(3, .int 0), (2, .int 0), (0, .ref q0), (1, .ref q4)]) hx hb dX0_goOn_31 rfl hl (by decide) rfl (fun ls hl => ?_)
    obtain ⟨u6, hu6, h⟩ := k_bs h
    refine kIter_ind (fun (z5 : (Int32 × Int32 × (Nat → Int32) × (Nat → Int32))) (u6 : (Int32 × Int32 × (Nat → Int32) × (Nat → Int32))) => ∀ (H : Heap) (locs : List Loc) (ls : Array Slot), va_P D vwCl (wCH cI q0 q1 q2 q3 q4 q5 q6 q7 s_armRows z5.2.2.1 z5.2.2.2 u2.2 s_hall_rows s_hall_late s_hall_kinds s_hall_palms s_hall_strengths) H → va_D A (wCH cI q0 q1 q2 q3 q4 q5 q6 q7 s_armRows z5.2.2.1 z5.2.2.2 u2.2 s_hall_rows s_hall_late s_hall_kinds s_hall_palms s_hall_strengths) → va_S A s.heap H locs → lv_has ls 4 [(0, .ref q0), (1, .ref q4), (2, .int z5.1), (3, .int z5.2.1)] → (∀ (H : Heap) (locs : List Loc) (ls : Array Slot), va_P D vwCl (wCH cI q0 q1 q2 q3 q4 q5 q6 q7 s_armRows u6.2.2.1 u6.2.2.2 u2.2 s_hall_rows s_hall_late s_hall_kinds s_hall_palms s_hall_strengths) H → va_D A (wCH cI q0 q1 q2 q3 q4 q5 q6 q7 s_armRows u6.2.2.1 u6.2.2.2 u2.2 s_hall_rows s_hall_late s_hall_kinds s_hall_palms s_hall_strengths) → va_S A s.heap H locs → lv_has ls 4 [(0, .ref q0), (1, .ref q4), (2, .int u6.1), (3, .int u6.2.1)] → W p l e rX0_goOn s m args below meth c H locs 0 0 Q (F0 m 108 ls [])) → W p l e rX0_goOn s m args below meth c H locs 0 0 Q (F0 m 32 ls [])) ?_ _ _ _ hu6 _ _ _ hP hD hS (lv_sub hl [2, 3, 1, 0] rfl) ?_
    · intro rc5 ih5 z5 u6 h H locs ls hP hD hS hl kx5
      unfold fX0_goOn_L2 at h
      refine lv_iload_n hx hb dX0_goOn_32 rfl (lv_at hl 3 rfl) ?_
      refine lv_aload_n hx hb dX0_goOn_33 rfl (lv_at hl 1 rfl) ?_
      refine va_getN (D := D) (ci := 2) (v := .int s_hall_rows) (C := RX2) (T := TX2) (N := 5) hx hb hts iX0_goOn_X2 hown hK hP 4 rfl rfl 3 (by decide) (hN.f RX0 34 "ClappedWrong$Hall" "rows" "I" "ClappedWrong" (by decide +kernel)) (fun _ h9 => h9) rfl dX0_goOn_34 ?_
      refine lv_icmp_ge (tgt := 108) hx hb dX0_goOn_37 (by decide) (fun c0 => ?_) (fun c0 => ?_)
      · have h := (if_pos c0).symm.trans h
        have h := Option.some.inj h
        subst h
        exact kx5 _ _ _ hP hD hS (lv_sub hl [0, 1, 2, 3] rfl)
      · have h := (if_neg c0).symm.trans h
        refine lv_iload_n hx hb dX0_goOn_40 rfl (lv_at hl 2 rfl) ?_
        obtain ⟨u7, hu7, h⟩ := k_bs h
        have J7 : ∀ (H : Heap) (locs : List Loc) (ls : Array Slot), va_P D vwCl (wCH cI q0 q1 q2 q3 q4 q5 q6 q7 s_armRows z5.2.2.1 z5.2.2.2 u2.2 s_hall_rows s_hall_late s_hall_kinds s_hall_palms s_hall_strengths) H → va_D A (wCH cI q0 q1 q2 q3 q4 q5 q6 q7 s_armRows z5.2.2.1 z5.2.2.2 u2.2 s_hall_rows s_hall_late s_hall_kinds s_hall_palms s_hall_strengths) → va_S A s.heap H locs → lv_has ls 4 [(0, .ref q0), (1, .ref q4), (2, .int z5.1), (3, .int z5.2.1)] → W p l e rX0_goOn s m args below meth c H locs 0 0 Q (F0 m 64 ls [.int u7]) := by
          intro H locs ls hP hD hS hl
          refine lv_istore_n (lv' := [(2, .int u7), (0, .ref q0), (1, .ref q4), (3, .int z5.2.1)]) hx hb dX0_goOn_64 rfl hl (by decide) rfl (fun ls hl => ?_)
          refine lv_aload_n hx hb dX0_goOn_65 rfl (lv_at hl 1 rfl) ?_
          refine lv_iload_n hx hb dX0_goOn_66 rfl (lv_at hl 3 rfl) ?_
          refine lv_aload_n hx hb dX0_goOn_67 rfl (lv_at hl 1 rfl) ?_
          refine va_get (D := D) (ci := 0) (v := .ref q3) (C := RX0) (T := TX0) (N := 4) hx hb hts iX0_goOn_X0 hown hK hP 0 rfl rfl 2 (by decide) (hts (.fieldLink RX0 18 "ClappedWrong$Crowd" "next" "[I") (by decide +kernel)) (fun _ h9 => h9) rfl dX0_goOn_68 ?_
          refine lv_iload_n hx hb dX0_goOn_71 rfl (lv_at hl 3 rfl) ?_
          refine k_iald hx hb hK hP 3 rfl dX0_goOn_72 h (fun v10 h => ?_)
          obtain ⟨u11, hu11, h⟩ := k_bs h
          refine k_cv (k2 := 0) (n2 := 0) (wc := (wC cI q0 q1 q2 q3 s_armRows z5.2.2.1 z5.2.2.2 u2.2)) (wc' := (wC cI q0 q1 q2 q3 s_armRows u11.1 u11.2 u2.2)) (w2 := (wCH cI q0 q1 q2 q3 q4 q5 q6 q7 s_armRows u11.1 u11.2 u2.2 s_hall_rows s_hall_late s_hall_kinds s_hall_palms s_hall_strengths)) (va_runV (C := RX0) (As := [.int z5.2.1, .int v10]) (rest := []) ⟨hx, hb, hml, hown, hts⟩ (mX0_let l D cI ad q0 q1 q2 q3 _ s_armRows z5.2.2.1 z5.2.2.2 u2.2 z5.2.1 v10 u11 hu11) (cwV 2 hts gX0_goOn_X0_let rfl rfl rfl (by decide +kernel) ⟨Nat.le_of_ble_eq_true rfl, Nat.le_of_ble_eq_true rfl⟩) (k_prev (q := (RX0, TX0, 4)) hN hST hA hK hP hD hS (isC := [0, 1, 2, 3]) rfl rfl 0 (ci := 0) rfl rfl) rfl rfl hl.1 rfl (lv_room (Nat.le_of_ble_eq_true rfl)) dX0_goOn_73 ⟨Nat.le_of_ble_eq_true rfl, Nat.le_of_ble_eq_true rfl⟩) hP hD hS hA [0, 1, 2, 3] rfl rfl rfl rfl rfl (fun H locs hP hD hS => ?_)
          refine lv_aload_n hx hb dX0_goOn_76 rfl (lv_at hl 1 rfl) ?_
          refine va_get (D := D) (ci := 0) (v := .ref q2) (C := RX0) (T := TX0) (N := 4) hx hb hts iX0_goOn_X0 hown hK hP 0 rfl rfl 1 (by decide) (hts (.fieldLink RX0 15 "ClappedWrong$Crowd" "clapped" "[I") (by decide +kernel)) (fun _ h9 => h9) rfl dX0_goOn_77 ?_
          refine lv_iload_n hx hb dX0_goOn_80 rfl (lv_at hl 3 rfl) ?_
          refine lv_dup2_11 hx hb dX0_goOn_81 rfl rfl ?_
          refine k_iald hx hb hK hP 2 rfl dX0_goOn_82 h (fun v12 h => ?_)
          refine lv_aload_n hx hb dX0_goOn_83 rfl (lv_at hl 1 rfl) ?_
          refine va_get (D := D) (ci := 0) (v := .ref q3) (C := RX0) (T := TX0) (N := 4) hx hb hts iX0_goOn_X0 hown hK hP 0 rfl rfl 2 (by decide) (hts (.fieldLink RX0 18 "ClappedWrong$Crowd" "next" "[I") (by decide +kernel)) (fun _ h9 => h9) rfl dX0_goOn_84 ?_
          refine lv_iload_n hx hb dX0_goOn_87 rfl (lv_at hl 3 rfl) ?_
          refine k_iald hx hb hK hP 3 rfl dX0_goOn_88 h (fun v13 h => ?_)
          refine lv_if_eq (tgt := 96) hx hb dX0_goOn_89 (by decide) (fun c0 => ?_) (fun c0 => ?_)
          · have h := (if_pos c0).symm.trans h
            refine lv_iconst (v := 0) hx hb dX0_goOn_96 (by decide) ?_
            obtain ⟨u14, hu14, h⟩ := k_bs h
            refine k_ci (r := u14) (k2 := 0) (n2 := 0) (wc := []) (wc' := []) (w2 := (wCH cI q0 q1 q2 q3 q4 q5 q6 q7 s_armRows u11.1 u11.2 u2.2 s_hall_rows s_hall_late s_hall_kinds s_hall_palms s_hall_strengths)) (va_runSN (host := "ClappedWrong") (As := [.int 0]) (rest := [.int v12, .int z5.2.1, .ref q2]) ⟨hx, hb, hml, hown, hts⟩ (mX5_oneIf l D cI ad _ 0 u14 hu14) ⟨va_cnB 1 hts gX0_goOn_X5_oneIf_n45 rfl rfl rfl (hN.m RX0 45 yX5_oneIf "ClappedWrong" (by decide +kernel)) (hts (.initialized RX5) (by decide +kernel)) (by decide +kernel) ⟨Nat.le_of_ble_eq_true rfl, Nat.le_of_ble_eq_true rfl⟩, hts (.static yX5_oneIf) (by decide +kernel), trivial⟩ (k_pres hN hST hA hK hP hD hS (isC := []) rfl rfl) rfl rfl hl.1 rfl (lv_room (Nat.le_of_ble_eq_true rfl)) dX0_goOn_97 ⟨Nat.le_of_ble_eq_true rfl, Nat.le_of_ble_eq_true rfl⟩) hP hD hS hA [] rfl rfl rfl rfl rfl (fun H locs hP hD hS => ?_)
            refine lv_iadd hx hb dX0_goOn_100 ?_
            refine k_iast hx hb hK hP hD hS 2 rfl dX0_goOn_101 h (fun g15 => (wCH cI q0 q1 q2 q3 q4 q5 q6 q7 s_armRows u11.1 g15 u2.2 s_hall_rows s_hall_late s_hall_kinds s_hall_palms s_hall_strengths)) (fun _ => rfl) (fun g15 H locs h hP hD hS => ?_)
            refine lv_iinc (v := (z5.2.1 + 1)) (lv' := [(3, .int (z5.2.1 + 1)), (2, .int u7), (0, .ref q0), (1, .ref q4)]) hx hb dX0_goOn_102 hl (k := 3) rfl rfl (by decide) rfl (fun ls hl => ?_)
            refine lv_goto (tgt := 32) hx hb dX0_goOn_105 (by decide) ?_
            exact ih5 _ _ h _ _ _ hP hD hS (lv_sub hl [2, 3, 1, 0] rfl) kx5
          · have h := (if_neg c0).symm.trans h
            refine lv_iconst (v := 1) hx hb dX0_goOn_92 (by decide) ?_
            refine lv_goto (tgt := 97) hx hb dX0_goOn_93 (by decide) ?_
            obtain ⟨u16, hu16, h⟩ := k_bs h
            refine k_ci (r := u16) (k2 := 0) (n2 := 0) (wc := []) (wc' := []) (w2 := (wCH cI q0 q1 q2 q3 q4 q5 q6 q7 s_armRows u11.1 u11.2 u2.2 s_hall_rows s_hall_late s_hall_kinds s_hall_palms s_hall_strengths)) (va_runSN (host := "ClappedWrong") (As := [.int 1]) (rest := [.int v12, .int z5.2.1, .ref q2]) ⟨hx, hb, hml, hown, hts⟩ (mX5_oneIf l D cI ad _ 1 u16 hu16) ⟨va_cnB 1 hts gX0_goOn_X5_oneIf_n45 rfl rfl rfl (hN.m RX0 45 yX5_oneIf "ClappedWrong" (by decide +kernel)) (hts (.initialized RX5) (by decide +kernel)) (by decide +kernel) ⟨Nat.le_of_ble_eq_true rfl, Nat.le_of_ble_eq_true rfl⟩, hts (.static yX5_oneIf) (by decide +kernel), trivial⟩ (k_pres hN hST hA hK hP hD hS (isC := []) rfl rfl) rfl rfl hl.1 rfl (lv_room (Nat.le_of_ble_eq_true rfl)) dX0_goOn_97 ⟨Nat.le_of_ble_eq_true rfl, Nat.le_of_ble_eq_true rfl⟩) hP hD hS hA [] rfl rfl rfl rfl rfl (fun H locs hP hD hS => ?_)
            refine lv_iadd hx hb dX0_goOn_100 ?_
            refine k_iast hx hb hK hP hD hS 2 rfl dX0_goOn_101 h (fun g17 => (wCH cI q0 q1 q2 q3 q4 q5 q6 q7 s_armRows u11.1 g17 u2.2 s_hall_rows s_hall_late s_hall_kinds s_hall_palms s_hall_strengths)) (fun _ => rfl) (fun g17 H locs h hP hD hS => ?_)
            refine lv_iinc (v := (z5.2.1 + 1)) (lv' := [(3, .int (z5.2.1 + 1)), (2, .int u7), (0, .ref q0), (1, .ref q4)]) hx hb dX0_goOn_102 hl (k := 3) rfl rfl (by decide) rfl (fun ls hl => ?_)
            refine lv_goto (tgt := 32) hx hb dX0_goOn_105 (by decide) ?_
            exact ih5 _ _ h _ _ _ hP hD hS (lv_sub hl [2, 3, 1, 0] rfl) kx5
        clear h
        have h := hu7
        refine lv_if_ne (tgt := 59) hx hb dX0_goOn_41 (by decide) (fun c0 => ?_) (fun c0 => ?_)
        · have h := (if_neg c0).symm.trans h
          refine lv_iconst (v := 1) hx hb dX0_goOn_59 (by decide) ?_
          refine lv_goto (tgt := 64) hx hb dX0_goOn_60 (by decide) ?_
          have h := Option.some.inj h
          subst h
          exact J7 _ _ _ hP hD hS (lv_sub hl [0, 1, 2, 3] rfl)
        · have h := (if_pos c0).symm.trans h
          refine lv_aload_n hx hb dX0_goOn_44 rfl (lv_at hl 0 rfl) ?_
          refine va_get (D := D) (ci := 0) (v := .ref q3) (C := RX0) (T := TX0) (N := 4) hx hb hts iX0_goOn_X0 hown hK hP 0 rfl rfl 2 (by decide) (hts (.fieldLink RX0 18 "ClappedWrong$Crowd" "next" "[I") (by decide +kernel)) (fun _ h9 => h9) rfl dX0_goOn_45 ?_
          refine lv_iload_n hx hb dX0_goOn_48 rfl (lv_at hl 3 rfl) ?_
          refine k_iald hx hb hK hP 3 rfl dX0_goOn_49 h (fun v8 h => ?_)
          refine lv_aload_n hx hb dX0_goOn_50 rfl (lv_at hl 0 rfl) ?_
          refine va_get (D := D) (ci := 0) (v := .ref q1) (C := RX0) (T := TX0) (N := 4) hx hb hts iX0_goOn_X0 hown hK hP 0 rfl rfl 0 (by decide) (hts (.fieldLink RX0 9 "ClappedWrong$Crowd" "sounds" "[I") (by decide +kernel)) (fun _ h9 => h9) rfl dX0_goOn_51 ?_
          refine lv_iload_n hx hb dX0_goOn_54 rfl (lv_at hl 3 rfl) ?_
          refine k_iald hx hb hK hP 1 rfl dX0_goOn_55 h (fun v9 h => ?_)
          refine lv_icmp_eq (tgt := 63) hx hb dX0_goOn_56 (by decide) (fun c0 => ?_) (fun c0 => ?_)
          · have h := (if_pos c0).symm.trans h
            refine lv_iconst (v := 0) hx hb dX0_goOn_63 (by decide) ?_
            have h := Option.some.inj h
            subst h
            exact J7 _ _ _ hP hD hS (lv_sub hl [0, 1, 2, 3] rfl)
          · have h := (if_neg c0).symm.trans h
            refine lv_iconst (v := 1) hx hb dX0_goOn_59 (by decide) ?_
            refine lv_goto (tgt := 64) hx hb dX0_goOn_60 (by decide) ?_
            have h := Option.some.inj h
            subst h
            exact J7 _ _ _ hP hD hS (lv_sub hl [0, 1, 2, 3] rfl)
    · intro H locs ls hP hD hS hl
      refine lv_iload_n hx hb dX0_goOn_108 rfl (lv_at hl 2 rfl) ?_
      obtain ⟨hz, h⟩ := kz_bind h
      have h := Option.some.inj h
      subst h
      exact hRet _ _ _ _ hz hP hD hS dX0_goOn_109
def rX5_swapped : Room := { frames := 0, cells := 0, slots := 0, locals := 0 }
set_option maxHeartbeats 4000000 in
set_option maxRecDepth 100000 in
theorem mX5_swapped (l : Launch) (D : va_G) (cI : ClassId) (ad : Nat × Nat) (sz : Nat) (p0 : Int32) (r : Int32) (h : fX5_swapped p0 = some r) : Met l yX5_swapped wsX5_swapped rX5_swapped (kPre D cI ad [.int p0] [] sz) (kQi D cI r [] (va_A [] sz)) 0 0 (va_A [] sz) := by
  refine kStart (cc := cX5_swapped) (maxL := 1) (ret := (some .int)) (Qc := fun A => kQi D cI r [] A) (by decide) rfl (Nat.le_of_ble_eq_true rfl) ?_
  intro p e s m args below meth c A ls hx hb hr hts hown hlocks hin hml hN hST hA hS hP hK hD hl
  have hown : s.vm.findClass RX5 = some m.cls := hown
  have hl : lv_has ls 1 [(0, .int p0)] := hl
  have hRet : ∀ (H : Heap) (locs : List Loc) (ls : Array Slot) (pc : Nat), va_P D vwCl [] H → va_D A [] → va_S A s.heap H locs → decode cX5_swapped pc = .ok (.ireturn, 1) → W p l e rX5_swapped s m args below meth c H locs 0 0 (MQ below (kQi D cI r [] A) args s 0 0 A) (F0 m pc ls [.int r]) := fun H locs ls pc hP hD hS hd => k_iret hx hb hr hlocks hK hP hD hS hd
  generalize MQ below (kQi D cI r [] A) args s 0 0 A = Q at hRet ⊢
  unfold fX5_swapped at h
  refine lv_iload_n hx hb dX5_swapped_0 rfl (lv_at hl 0 rfl) ?_
  refine lv_iconst (v := 1) hx hb dX5_swapped_1 (by decide) ?_
  refine lv_icmp_ne (tgt := 7) hx hb dX5_swapped_2 (by decide) (fun c0 => ?_) (fun c0 => ?_)
  · have h := (if_neg c0).symm.trans h
    refine lv_iload_n hx hb dX5_swapped_7 rfl (lv_at hl 0 rfl) ?_
    refine lv_iconst (v := 2) hx hb dX5_swapped_8 (by decide) ?_
    refine lv_icmp_ne (tgt := 16) hx hb dX5_swapped_9 (by decide) (fun c0 => ?_) (fun c0 => ?_)
    · have h := (if_neg c0).symm.trans h
      refine lv_iload_n hx hb dX5_swapped_16 rfl (lv_at hl 0 rfl) ?_
      have h := Option.some.inj h
      subst h
      exact hRet _ _ _ _ hP hD hS dX5_swapped_17
    · have h := (if_pos c0).symm.trans h
      refine lv_iconst (v := 1) hx hb dX5_swapped_12 (by decide) ?_
      refine lv_goto (tgt := 17) hx hb dX5_swapped_13 (by decide) ?_
      have h := Option.some.inj h
      subst h
      exact hRet _ _ _ _ hP hD hS dX5_swapped_17
  · have h := (if_pos c0).symm.trans h
    refine lv_iconst (v := 2) hx hb dX5_swapped_5 (by decide) ?_
    have h := Option.some.inj h
    subst h
    exact hRet _ _ _ _ hP hD hS dX5_swapped_6
theorem iX0_leaveBeatOut_X0 : ∀ w ∈ wsX00, w ∈ wsX0_leaveBeatOut := by decide +kernel
theorem iX0_leaveBeatOut_X2 : ∀ w ∈ wsX20, w ∈ wsX0_leaveBeatOut := by decide +kernel
def rX0_leaveBeatOut : Room := { frames := 1, cells := 0, slots := 0, locals := 21 }
set_option maxHeartbeats 4000000 in
set_option maxRecDepth 100000 in
theorem mX0_leaveBeatOut (l : Launch) (D : va_G) (cI : ClassId) (ad : Nat × Nat) (q0 q1 q2 q3 q4 q5 q6 q7 : Nat) (sz : Nat) (s_armRows : Int32) (s_sounds : (Nat → Int32)) (s_clapped : (Nat → Int32)) (s_next : (Nat → Int32)) (s_hall_rows : Int32) (s_hall_late : Int32) (s_hall_kinds : (Nat → Int32)) (s_hall_palms : (Nat → Int32)) (s_hall_strengths : (Nat → Int32)) (r : (Nat → Int32)) (h : fX0_leaveBeatOut s_sounds s_hall_kinds s_hall_rows = some r) : Met l yX0_leaveBeatOut wsX0_leaveBeatOut rX0_leaveBeatOut (kPre D cI ad [.ref q0, .ref q4] (wCH cI q0 q1 q2 q3 q4 q5 q6 q7 s_armRows s_sounds s_clapped s_next s_hall_rows s_hall_late s_hall_kinds s_hall_palms s_hall_strengths) sz) (kQv D cI (wCH cI q0 q1 q2 q3 q4 q5 q6 q7 s_armRows r s_clapped s_next s_hall_rows s_hall_late s_hall_kinds s_hall_palms s_hall_strengths) (va_A (wCH cI q0 q1 q2 q3 q4 q5 q6 q7 s_armRows s_sounds s_clapped s_next s_hall_rows s_hall_late s_hall_kinds s_hall_palms s_hall_strengths) sz)) 0 0 (va_A (wCH cI q0 q1 q2 q3 q4 q5 q6 q7 s_armRows s_sounds s_clapped s_next s_hall_rows s_hall_late s_hall_kinds s_hall_palms s_hall_strengths) sz) := by
  refine kStart (cc := cX0_leaveBeatOut) (maxL := 3) (ret := none) (Qc := fun A => kQv D cI (wCH cI q0 q1 q2 q3 q4 q5 q6 q7 s_armRows r s_clapped s_next s_hall_rows s_hall_late s_hall_kinds s_hall_palms s_hall_strengths) A) (by decide) rfl (Nat.le_of_ble_eq_true rfl) ?_
  intro p e s m args below meth c A ls hx hb hr hts hown hlocks hin hml hN hST hA hS hP hK hD hl
  have hown : s.vm.findClass RX0 = some m.cls := hown
  have hl : lv_has ls 3 [(0, .ref q0), (1, .ref q4)] := hl
  have hRet : ∀ (H : Heap) (locs : List Loc) (ls : Array Slot) (pc : Nat), va_P D vwCl (wCH cI q0 q1 q2 q3 q4 q5 q6 q7 s_armRows r s_clapped s_next s_hall_rows s_hall_late s_hall_kinds s_hall_palms s_hall_strengths) H → va_D A (wCH cI q0 q1 q2 q3 q4 q5 q6 q7 s_armRows r s_clapped s_next s_hall_rows s_hall_late s_hall_kinds s_hall_palms s_hall_strengths) → va_S A s.heap H locs → decode cX0_leaveBeatOut pc = .ok (.return_, 1) → W p l e rX0_leaveBeatOut s m args below meth c H locs 0 0 (MQ below (kQv D cI (wCH cI q0 q1 q2 q3 q4 q5 q6 q7 s_armRows r s_clapped s_next s_hall_rows s_hall_late s_hall_kinds s_hall_palms s_hall_strengths) A) args s 0 0 A) (F0 m pc ls []) := fun H locs ls pc hP hD hS hd => k_vret hx hb hr hlocks hK hP hD hS hd
  generalize MQ below (kQv D cI (wCH cI q0 q1 q2 q3 q4 q5 q6 q7 s_armRows r s_clapped s_next s_hall_rows s_hall_late s_hall_kinds s_hall_palms s_hall_strengths) A) args s 0 0 A = Q at hRet ⊢
  unfold fX0_leaveBeatOut at h
  refine lv_iconst (v := 0) hx hb dX0_leaveBeatOut_0 (by decide) ?_
  refine lv_istore_n (lv' := [(2, .int 0), (0, .ref q0), (1, .ref q4)]) hx hb dX0_leaveBeatOut_1 rfl hl (by decide) rfl (fun ls hl => ?_)
  obtain ⟨u2, hu2, h⟩ := k_bs h
  refine kIter_ind (fun (z1 : (Int32 × (Nat → Int32))) (u2 : (Int32 × (Nat → Int32))) => ∀ (H : Heap) (locs : List Loc) (ls : Array Slot), va_P D vwCl (wCH cI q0 q1 q2 q3 q4 q5 q6 q7 s_armRows z1.2 s_clapped s_next s_hall_rows s_hall_late s_hall_kinds s_hall_palms s_hall_strengths) H → va_D A (wCH cI q0 q1 q2 q3 q4 q5 q6 q7 s_armRows z1.2 s_clapped s_next s_hall_rows s_hall_late s_hall_kinds s_hall_palms s_hall_strengths) → va_S A s.heap H locs → lv_has ls 3 [(0, .ref q0), (1, .ref q4), (2, .int z1.1)] → (∀ (H : Heap) (locs : List Loc) (ls : Array Slot), va_P D vwCl (wCH cI q0 q1 q2 q3 q4 q5 q6 q7 s_armRows u2.2 s_clapped s_next s_hall_rows s_hall_late s_hall_kinds s_hall_palms s_hall_strengths) H → va_D A (wCH cI q0 q1 q2 q3 q4 q5 q6 q7 s_armRows u2.2 s_clapped s_next s_hall_rows s_hall_late s_hall_kinds s_hall_palms s_hall_strengths) → va_S A s.heap H locs → lv_has ls 3 [(0, .ref q0), (1, .ref q4), (2, .int u2.1)] → W p l e rX0_leaveBeatOut s m args below meth c H locs 0 0 Q (F0 m 40 ls [])) → W p l e rX0_leaveBeatOut s m args below meth c H locs 0 0 Q (F0 m 2 ls [])) ?_ _ _ _ hu2 _ _ _ hP hD hS (lv_sub hl [1, 2, 0] rfl) ?_
  · intro rc1 ih1 z1 u2 h H locs ls hP hD hS hl kx1
    unfold fX0_leaveBeatOut_L1 at h
    refine lv_iload_n hx hb dX0_leaveBeatOut_2 rfl (lv_at hl 2 rfl) ?_
    refine lv_aload_n hx hb dX0_leaveBeatOut_3 rfl (lv_at hl 1 rfl) ?_
    refine va_getN (D := D) (ci := 2) (v := .int s_hall_rows) (C := RX2) (T := TX2) (N := 5) hx hb hts iX0_leaveBeatOut_X2 hown hK hP 4 rfl rfl 3 (by decide) (hN.f RX0 34 "ClappedWrong$Hall" "rows" "I" "ClappedWrong" (by decide +kernel)) (fun _ h9 => h9) rfl dX0_leaveBeatOut_4 ?_
    refine lv_icmp_ge (tgt := 40) hx hb dX0_leaveBeatOut_7 (by decide) (fun c0 => ?_) (fun c0 => ?_)
    · have h := (if_pos c0).symm.trans h
      have h := Option.some.inj h
      subst h
      exact kx1 _ _ _ hP hD hS (lv_sub hl [0, 1, 2] rfl)
    · have h := (if_neg c0).symm.trans h
      refine lv_aload_n hx hb dX0_leaveBeatOut_10 rfl (lv_at hl 1 rfl) ?_
      refine lv_iload_n hx hb dX0_leaveBeatOut_11 rfl (lv_at hl 2 rfl) ?_
      obtain ⟨u3, hu3, h⟩ := k_bs h
      refine k_ci (r := u3) (k2 := 0) (n2 := 0) (wc := (wH cI q4 q5 q6 q7 s_hall_rows s_hall_late s_hall_kinds s_hall_palms s_hall_strengths)) (wc' := (wH cI q4 q5 q6 q7 s_hall_rows s_hall_late s_hall_kinds s_hall_palms s_hall_strengths)) (w2 := (wCH cI q0 q1 q2 q3 q4 q5 q6 q7 s_armRows z1.2 s_clapped s_next s_hall_rows s_hall_late s_hall_kinds s_hall_palms s_hall_strengths)) (va_runV (C := RX2) (As := [.int z1.1]) (rest := []) ⟨hx, hb, hml, hown, hts⟩ (mX2_kindOf l D cI ad q4 q5 q6 q7 _ s_hall_rows s_hall_late s_hall_kinds s_hall_palms s_hall_strengths z1.1 u3 hu3) (cwV 1 hts gX0_leaveBeatOut_X2_kindOf rfl rfl rfl (by decide +kernel) ⟨Nat.le_of_ble_eq_true rfl, Nat.le_of_ble_eq_true rfl⟩) (k_prev (q := (RX2, TX2, 5)) hN hST hA hK hP hD hS (isC := [4, 5, 6, 7]) rfl rfl 4 (ci := 2) rfl rfl) rfl rfl hl.1 rfl (lv_room (Nat.le_of_ble_eq_true rfl)) dX0_leaveBeatOut_12 ⟨Nat.le_of_ble_eq_true rfl, Nat.le_of_ble_eq_true rfl⟩) hP hD hS hA [4, 5, 6, 7] rfl rfl rfl rfl rfl (fun H locs hP hD hS => ?_)
      refine lv_iconst (v := 1) hx hb dX0_leaveBeatOut_15 (by decide) ?_
      refine lv_icmp_eq (tgt := 34) hx hb dX0_leaveBeatOut_16 (by decide) (fun c0 => ?_) (fun c0 => ?_)
      · have h := (if_pos c0).symm.trans h
        refine lv_iinc (v := (z1.1 + 1)) (lv' := [(2, .int (z1.1 + 1)), (0, .ref q0), (1, .ref q4)]) hx hb dX0_leaveBeatOut_34 hl (k := 2) rfl rfl (by decide) rfl (fun ls hl => ?_)
        refine lv_goto (tgt := 2) hx hb dX0_leaveBeatOut_37 (by decide) ?_
        exact ih1 _ _ h _ _ _ hP hD hS (lv_sub hl [1, 2, 0] rfl) kx1
      · have h := (if_neg c0).symm.trans h
        refine lv_aload_n hx hb dX0_leaveBeatOut_19 rfl (lv_at hl 0 rfl) ?_
        refine va_get (D := D) (ci := 0) (v := .ref q1) (C := RX0) (T := TX0) (N := 4) hx hb hts iX0_leaveBeatOut_X0 hown hK hP 0 rfl rfl 0 (by decide) (hts (.fieldLink RX0 9 "ClappedWrong$Crowd" "sounds" "[I") (by decide +kernel)) (fun _ h9 => h9) rfl dX0_leaveBeatOut_20 ?_
        refine lv_iload_n hx hb dX0_leaveBeatOut_23 rfl (lv_at hl 2 rfl) ?_
        refine lv_aload_n hx hb dX0_leaveBeatOut_24 rfl (lv_at hl 0 rfl) ?_
        refine va_get (D := D) (ci := 0) (v := .ref q1) (C := RX0) (T := TX0) (N := 4) hx hb hts iX0_leaveBeatOut_X0 hown hK hP 0 rfl rfl 0 (by decide) (hts (.fieldLink RX0 9 "ClappedWrong$Crowd" "sounds" "[I") (by decide +kernel)) (fun _ h9 => h9) rfl dX0_leaveBeatOut_25 ?_
        refine lv_iload_n hx hb dX0_leaveBeatOut_28 rfl (lv_at hl 2 rfl) ?_
        refine k_iald hx hb hK hP 1 rfl dX0_leaveBeatOut_29 h (fun v4 h => ?_)
        obtain ⟨u5, hu5, h⟩ := k_bs h
        refine k_ci (r := u5) (k2 := 0) (n2 := 0) (wc := []) (wc' := []) (w2 := (wCH cI q0 q1 q2 q3 q4 q5 q6 q7 s_armRows z1.2 s_clapped s_next s_hall_rows s_hall_late s_hall_kinds s_hall_palms s_hall_strengths)) (va_runSN (host := "ClappedWrong") (As := [.int v4]) (rest := [.int z1.1, .ref q1]) ⟨hx, hb, hml, hown, hts⟩ (mX5_swapped l D cI ad _ v4 u5 hu5) ⟨va_cnB 1 hts gX0_leaveBeatOut_X5_swapped_n77 rfl rfl rfl (hN.m RX0 77 yX5_swapped "ClappedWrong" (by decide +kernel)) (hts (.initialized RX5) (by decide +kernel)) (by decide +kernel) ⟨Nat.le_of_ble_eq_true rfl, Nat.le_of_ble_eq_true rfl⟩, hts (.static yX5_swapped) (by decide +kernel), trivial⟩ (k_pres hN hST hA hK hP hD hS (isC := []) rfl rfl) rfl rfl hl.1 rfl (lv_room (Nat.le_of_ble_eq_true rfl)) dX0_leaveBeatOut_30 ⟨Nat.le_of_ble_eq_true rfl, Nat.le_of_ble_eq_true rfl⟩) hP hD hS hA [] rfl rfl rfl rfl rfl (fun H locs hP hD hS => ?_)
        refine k_iast hx hb hK hP hD hS 1 rfl dX0_leaveBeatOut_33 h (fun g6 => (wCH cI q0 q1 q2 q3 q4 q5 q6 q7 s_armRows g6 s_clapped s_next s_hall_rows s_hall_late s_hall_kinds s_hall_palms s_hall_strengths)) (fun _ => rfl) (fun g6 H locs h hP hD hS => ?_)
        refine lv_iinc (v := (z1.1 + 1)) (lv' := [(2, .int (z1.1 + 1)), (0, .ref q0), (1, .ref q4)]) hx hb dX0_leaveBeatOut_34 hl (k := 2) rfl rfl (by decide) rfl (fun ls hl => ?_)
        refine lv_goto (tgt := 2) hx hb dX0_leaveBeatOut_37 (by decide) ?_
        exact ih1 _ _ h _ _ _ hP hD hS (lv_sub hl [1, 2, 0] rfl) kx1
  · intro H locs ls hP hD hS hl
    have h := Option.some.inj h
    subst h
    exact hRet _ _ _ _ hP hD hS dX0_leaveBeatOut_40
theorem iX2_palmsOf_X2 : ∀ w ∈ wsX20, w ∈ wsX2_palmsOf := by decide +kernel
def rX2_palmsOf : Room := { frames := 0, cells := 0, slots := 0, locals := 0 }
set_option maxHeartbeats 4000000 in
set_option maxRecDepth 100000 in
theorem mX2_palmsOf (l : Launch) (D : va_G) (cI : ClassId) (ad : Nat × Nat) (q0 q1 q2 q3 : Nat) (sz : Nat) (s_rows : Int32) (s_late : Int32) (s_kinds : (Nat → Int32)) (s_palms : (Nat → Int32)) (s_strengths : (Nat → Int32)) (p1 : Int32) (r : Int32) (h : fX2_palmsOf s_palms s_rows p1 = some r) : Met l yX2_palmsOf wsX2_palmsOf rX2_palmsOf (kPre D cI ad [.ref q0, .int p1] (wH cI q0 q1 q2 q3 s_rows s_late s_kinds s_palms s_strengths) sz) (kQi D cI r (wH cI q0 q1 q2 q3 s_rows s_late s_kinds s_palms s_strengths) (va_A (wH cI q0 q1 q2 q3 s_rows s_late s_kinds s_palms s_strengths) sz)) 0 0 (va_A (wH cI q0 q1 q2 q3 s_rows s_late s_kinds s_palms s_strengths) sz) := by
  refine kStart (cc := cX2_palmsOf) (maxL := 2) (ret := (some .int)) (Qc := fun A => kQi D cI r (wH cI q0 q1 q2 q3 s_rows s_late s_kinds s_palms s_strengths) A) (by decide) rfl (Nat.le_of_ble_eq_true rfl) ?_
  intro p e s m args below meth c A ls hx hb hr hts hown hlocks hin hml hN hST hA hS hP hK hD hl
  have hown : s.vm.findClass RX2 = some m.cls := hown
  have hl : lv_has ls 2 [(0, .ref q0), (1, .int p1)] := hl
  have hRet : ∀ (H : Heap) (locs : List Loc) (ls : Array Slot) (pc : Nat), va_P D vwCl (wH cI q0 q1 q2 q3 s_rows s_late s_kinds s_palms s_strengths) H → va_D A (wH cI q0 q1 q2 q3 s_rows s_late s_kinds s_palms s_strengths) → va_S A s.heap H locs → decode cX2_palmsOf pc = .ok (.ireturn, 1) → W p l e rX2_palmsOf s m args below meth c H locs 0 0 (MQ below (kQi D cI r (wH cI q0 q1 q2 q3 s_rows s_late s_kinds s_palms s_strengths) A) args s 0 0 A) (F0 m pc ls [.int r]) := fun H locs ls pc hP hD hS hd => k_iret hx hb hr hlocks hK hP hD hS hd
  generalize MQ below (kQi D cI r (wH cI q0 q1 q2 q3 s_rows s_late s_kinds s_palms s_strengths) A) args s 0 0 A = Q at hRet ⊢
  unfold fX2_palmsOf at h
  refine lv_iload_n hx hb dX2_palmsOf_0 rfl (lv_at hl 1 rfl) ?_
  refine lv_if_lt (tgt := 21) hx hb dX2_palmsOf_1 (by decide) (fun c0 => ?_) (fun c0 => ?_)
  · have h := (if_pos c0).symm.trans h
    refine lv_iconst (v := 0) hx hb dX2_palmsOf_21 (by decide) ?_
    have h := Option.some.inj h
    subst h
    exact hRet _ _ _ _ hP hD hS dX2_palmsOf_22
  · have h := (if_neg c0).symm.trans h
    refine lv_iload_n hx hb dX2_palmsOf_4 rfl (lv_at hl 1 rfl) ?_
    refine lv_aload_n hx hb dX2_palmsOf_5 rfl (lv_at hl 0 rfl) ?_
    refine va_get (D := D) (ci := 2) (v := .int s_rows) (C := RX2) (T := TX2) (N := 5) hx hb hts iX2_palmsOf_X2 hown hK hP 0 rfl rfl 3 (by decide) (hts (.fieldLink RX2 21 "ClappedWrong$Hall" "rows" "I") (by decide +kernel)) (fun _ h9 => h9) rfl dX2_palmsOf_6 ?_
    refine lv_icmp_ge (tgt := 21) hx hb dX2_palmsOf_9 (by decide) (fun c0 => ?_) (fun c0 => ?_)
    · have h := (if_pos c0).symm.trans h
      refine lv_iconst (v := 0) hx hb dX2_palmsOf_21 (by decide) ?_
      have h := Option.some.inj h
      subst h
      exact hRet _ _ _ _ hP hD hS dX2_palmsOf_22
    · have h := (if_neg c0).symm.trans h
      refine lv_aload_n hx hb dX2_palmsOf_12 rfl (lv_at hl 0 rfl) ?_
      refine va_get (D := D) (ci := 2) (v := .ref q2) (C := RX2) (T := TX2) (N := 5) hx hb hts iX2_palmsOf_X2 hown hK hP 0 rfl rfl 1 (by decide) (hts (.fieldLink RX2 15 "ClappedWrong$Hall" "palms" "[I") (by decide +kernel)) (fun _ h9 => h9) rfl dX2_palmsOf_13 ?_
      refine lv_iload_n hx hb dX2_palmsOf_16 rfl (lv_at hl 1 rfl) ?_
      refine k_iald hx hb hK hP 2 rfl dX2_palmsOf_17 h (fun v1 h => ?_)
      refine lv_goto (tgt := 22) hx hb dX2_palmsOf_18 (by decide) ?_
      have h := Option.some.inj h
      subst h
      exact hRet _ _ _ _ hP hD hS dX2_palmsOf_22
theorem iX0_palmsRight_X0 : ∀ w ∈ wsX00, w ∈ wsX0_palmsRight := by decide +kernel
theorem iX0_palmsRight_X2 : ∀ w ∈ wsX20, w ∈ wsX0_palmsRight := by decide +kernel
def rX0_palmsRight : Room := { frames := 1, cells := 0, slots := 0, locals := 21 }
set_option maxHeartbeats 4000000 in
set_option maxRecDepth 100000 in
theorem mX0_palmsRight (l : Launch) (D : va_G) (cI : ClassId) (ad : Nat × Nat) (q0 q1 q2 q3 q4 q5 q6 q7 : Nat) (sz : Nat) (s_armRows : Int32) (s_sounds : (Nat → Int32)) (s_clapped : (Nat → Int32)) (s_next : (Nat → Int32)) (s_hall_rows : Int32) (s_hall_late : Int32) (s_hall_kinds : (Nat → Int32)) (s_hall_palms : (Nat → Int32)) (s_hall_strengths : (Nat → Int32)) (r : Int32) (h : fX0_palmsRight s_sounds s_hall_palms s_hall_rows = some r) : Met l yX0_palmsRight wsX0_palmsRight rX0_palmsRight (kPre D cI ad [.ref q0, .ref q4] (wCH cI q0 q1 q2 q3 q4 q5 q6 q7 s_armRows s_sounds s_clapped s_next s_hall_rows s_hall_late s_hall_kinds s_hall_palms s_hall_strengths) sz) (kQi D cI r (wCH cI q0 q1 q2 q3 q4 q5 q6 q7 s_armRows s_sounds s_clapped s_next s_hall_rows s_hall_late s_hall_kinds s_hall_palms s_hall_strengths) (va_A (wCH cI q0 q1 q2 q3 q4 q5 q6 q7 s_armRows s_sounds s_clapped s_next s_hall_rows s_hall_late s_hall_kinds s_hall_palms s_hall_strengths) sz)) 0 0 (va_A (wCH cI q0 q1 q2 q3 q4 q5 q6 q7 s_armRows s_sounds s_clapped s_next s_hall_rows s_hall_late s_hall_kinds s_hall_palms s_hall_strengths) sz) := by
  refine kStart (cc := cX0_palmsRight) (maxL := 4) (ret := (some .int)) (Qc := fun A => kQi D cI r (wCH cI q0 q1 q2 q3 q4 q5 q6 q7 s_armRows s_sounds s_clapped s_next s_hall_rows s_hall_late s_hall_kinds s_hall_palms s_hall_strengths) A) (by decide) rfl (Nat.le_of_ble_eq_true rfl) ?_
  intro p e s m args below meth c A ls hx hb hr hts hown hlocks hin hml hN hST hA hS hP hK hD hl
  have hown : s.vm.findClass RX0 = some m.cls := hown
  have hl : lv_has ls 4 [(0, .ref q0), (1, .ref q4)] := hl
  have hRet : ∀ (H : Heap) (locs : List Loc) (ls : Array Slot) (pc : Nat), va_P D vwCl (wCH cI q0 q1 q2 q3 q4 q5 q6 q7 s_armRows s_sounds s_clapped s_next s_hall_rows s_hall_late s_hall_kinds s_hall_palms s_hall_strengths) H → va_D A (wCH cI q0 q1 q2 q3 q4 q5 q6 q7 s_armRows s_sounds s_clapped s_next s_hall_rows s_hall_late s_hall_kinds s_hall_palms s_hall_strengths) → va_S A s.heap H locs → decode cX0_palmsRight pc = .ok (.ireturn, 1) → W p l e rX0_palmsRight s m args below meth c H locs 0 0 (MQ below (kQi D cI r (wCH cI q0 q1 q2 q3 q4 q5 q6 q7 s_armRows s_sounds s_clapped s_next s_hall_rows s_hall_late s_hall_kinds s_hall_palms s_hall_strengths) A) args s 0 0 A) (F0 m pc ls [.int r]) := fun H locs ls pc hP hD hS hd => k_iret hx hb hr hlocks hK hP hD hS hd
  generalize MQ below (kQi D cI r (wCH cI q0 q1 q2 q3 q4 q5 q6 q7 s_armRows s_sounds s_clapped s_next s_hall_rows s_hall_late s_hall_kinds s_hall_palms s_hall_strengths) A) args s 0 0 A = Q at hRet ⊢
  unfold fX0_palmsRight at h
  refine lv_iconst (v := 0) hx hb dX0_palmsRight_0 (by decide) ?_
  refine lv_istore_n (lv' := [(2, .int 0), (0, .ref q0), (1, .ref q4)]) hx hb dX0_palmsRight_1 rfl hl (by decide) rfl (fun ls hl => ?_)
  refine lv_iconst (v := 0) hx hb dX0_palmsRight_2 (by decide) ?_
  refine lv_istore_n (lv' := [(3, .int 0), (2, .int 0), (0, .ref q0), (1, .ref q4)]) hx hb dX0_palmsRight_3 rfl hl (by decide) rfl (fun ls hl => ?_)
  obtain ⟨u2, hu2, h⟩ := k_bs h
  refine kIter_ind (fun (z1 : (Int32 × Int32)) (u2 : (Int32 × Int32)) => ∀ (H : Heap) (locs : List Loc) (ls : Array Slot), va_P D vwCl (wCH cI q0 q1 q2 q3 q4 q5 q6 q7 s_armRows s_sounds s_clapped s_next s_hall_rows s_hall_late s_hall_kinds s_hall_palms s_hall_strengths) H → va_D A (wCH cI q0 q1 q2 q3 q4 q5 q6 q7 s_armRows s_sounds s_clapped s_next s_hall_rows s_hall_late s_hall_kinds s_hall_palms s_hall_strengths) → va_S A s.heap H locs → lv_has ls 4 [(0, .ref q0), (1, .ref q4), (2, .int z1.1), (3, .int z1.2)] → (∀ (H : Heap) (locs : List Loc) (ls : Array Slot), va_P D vwCl (wCH cI q0 q1 q2 q3 q4 q5 q6 q7 s_armRows s_sounds s_clapped s_next s_hall_rows s_hall_late s_hall_kinds s_hall_palms s_hall_strengths) H → va_D A (wCH cI q0 q1 q2 q3 q4 q5 q6 q7 s_armRows s_sounds s_clapped s_next s_hall_rows s_hall_late s_hall_kinds s_hall_palms s_hall_strengths) → va_S A s.heap H locs → lv_has ls 4 [(0, .ref q0), (1, .ref q4), (2, .int u2.1), (3, .int u2.2)] → W p l e rX0_palmsRight s m args below meth c H locs 0 0 Q (F0 m 36 ls [])) → W p l e rX0_palmsRight s m args below meth c H locs 0 0 Q (F0 m 4 ls [])) ?_ _ _ _ hu2 _ _ _ hP hD hS (lv_sub hl [2, 3, 1, 0] rfl) ?_
  · intro rc1 ih1 z1 u2 h H locs ls hP hD hS hl kx1
    unfold fX0_palmsRight_L1 at h
    refine lv_iload_n hx hb dX0_palmsRight_4 rfl (lv_at hl 3 rfl) ?_
    refine lv_aload_n hx hb dX0_palmsRight_5 rfl (lv_at hl 1 rfl) ?_
    refine va_getN (D := D) (ci := 2) (v := .int s_hall_rows) (C := RX2) (T := TX2) (N := 5) hx hb hts iX0_palmsRight_X2 hown hK hP 4 rfl rfl 3 (by decide) (hN.f RX0 34 "ClappedWrong$Hall" "rows" "I" "ClappedWrong" (by decide +kernel)) (fun _ h9 => h9) rfl dX0_palmsRight_6 ?_
    refine lv_icmp_ge (tgt := 36) hx hb dX0_palmsRight_9 (by decide) (fun c0 => ?_) (fun c0 => ?_)
    · have h := (if_pos c0).symm.trans h
      have h := Option.some.inj h
      subst h
      exact kx1 _ _ _ hP hD hS (lv_sub hl [0, 1, 2, 3] rfl)
    · have h := (if_neg c0).symm.trans h
      refine lv_aload_n hx hb dX0_palmsRight_12 rfl (lv_at hl 0 rfl) ?_
      refine va_get (D := D) (ci := 0) (v := .ref q1) (C := RX0) (T := TX0) (N := 4) hx hb hts iX0_palmsRight_X0 hown hK hP 0 rfl rfl 0 (by decide) (hts (.fieldLink RX0 9 "ClappedWrong$Crowd" "sounds" "[I") (by decide +kernel)) (fun _ h9 => h9) rfl dX0_palmsRight_13 ?_
      refine lv_iload_n hx hb dX0_palmsRight_16 rfl (lv_at hl 3 rfl) ?_
      refine k_iald hx hb hK hP 1 rfl dX0_palmsRight_17 h (fun v3 h => ?_)
      refine lv_iconst (v := 2) hx hb dX0_palmsRight_18 (by decide) ?_
      refine lv_icmp_ne (tgt := 30) hx hb dX0_palmsRight_19 (by decide) (fun c0 => ?_) (fun c0 => ?_)
      · have h := (if_neg c0).symm.trans h
        refine lv_iinc (v := (z1.2 + 1)) (lv' := [(3, .int (z1.2 + 1)), (0, .ref q0), (1, .ref q4), (2, .int z1.1)]) hx hb dX0_palmsRight_30 hl (k := 3) rfl rfl (by decide) rfl (fun ls hl => ?_)
        refine lv_goto (tgt := 4) hx hb dX0_palmsRight_33 (by decide) ?_
        exact ih1 _ _ h _ _ _ hP hD hS (lv_sub hl [1, 2, 3, 0] rfl) kx1
      · have h := (if_pos c0).symm.trans h
        refine lv_iload_n hx hb dX0_palmsRight_22 rfl (lv_at hl 2 rfl) ?_
        refine lv_aload_n hx hb dX0_palmsRight_23 rfl (lv_at hl 1 rfl) ?_
        refine lv_iload_n hx hb dX0_palmsRight_24 rfl (lv_at hl 3 rfl) ?_
        obtain ⟨u4, hu4, h⟩ := k_bs h
        refine k_ci (r := u4) (k2 := 0) (n2 := 0) (wc := (wH cI q4 q5 q6 q7 s_hall_rows s_hall_late s_hall_kinds s_hall_palms s_hall_strengths)) (wc' := (wH cI q4 q5 q6 q7 s_hall_rows s_hall_late s_hall_kinds s_hall_palms s_hall_strengths)) (w2 := (wCH cI q0 q1 q2 q3 q4 q5 q6 q7 s_armRows s_sounds s_clapped s_next s_hall_rows s_hall_late s_hall_kinds s_hall_palms s_hall_strengths)) (va_runV (C := RX2) (As := [.int z1.2]) (rest := [.int z1.1]) ⟨hx, hb, hml, hown, hts⟩ (mX2_palmsOf l D cI ad q4 q5 q6 q7 _ s_hall_rows s_hall_late s_hall_kinds s_hall_palms s_hall_strengths z1.2 u4 hu4) (cwV 1 hts gX0_palmsRight_X2_palmsOf rfl rfl rfl (by decide +kernel) ⟨Nat.le_of_ble_eq_true rfl, Nat.le_of_ble_eq_true rfl⟩) (k_prev (q := (RX2, TX2, 5)) hN hST hA hK hP hD hS (isC := [4, 5, 6, 7]) rfl rfl 4 (ci := 2) rfl rfl) rfl rfl hl.1 rfl (lv_room (Nat.le_of_ble_eq_true rfl)) dX0_palmsRight_25 ⟨Nat.le_of_ble_eq_true rfl, Nat.le_of_ble_eq_true rfl⟩) hP hD hS hA [4, 5, 6, 7] rfl rfl rfl rfl rfl (fun H locs hP hD hS => ?_)
        refine lv_iadd hx hb dX0_palmsRight_28 ?_
        refine lv_istore_n (lv' := [(2, .int (z1.1 + u4)), (0, .ref q0), (1, .ref q4), (3, .int z1.2)]) hx hb dX0_palmsRight_29 rfl hl (by decide) rfl (fun ls hl => ?_)
        refine lv_iinc (v := (z1.2 + 1)) (lv' := [(3, .int (z1.2 + 1)), (2, .int (z1.1 + u4)), (0, .ref q0), (1, .ref q4)]) hx hb dX0_palmsRight_30 hl (k := 3) rfl rfl (by decide) rfl (fun ls hl => ?_)
        refine lv_goto (tgt := 4) hx hb dX0_palmsRight_33 (by decide) ?_
        exact ih1 _ _ h _ _ _ hP hD hS (lv_sub hl [2, 3, 1, 0] rfl) kx1
  · intro H locs ls hP hD hS hl
    refine lv_iload_n hx hb dX0_palmsRight_36 rfl (lv_at hl 2 rfl) ?_
    have h := Option.some.inj h
    subst h
    exact hRet _ _ _ _ hP hD hS dX0_palmsRight_37
theorem iX0_areWillingRight_X0 : ∀ w ∈ wsX00, w ∈ wsX0_areWillingRight := by decide +kernel
theorem iX0_areWillingRight_X2 : ∀ w ∈ wsX20, w ∈ wsX0_areWillingRight := by decide +kernel
def rX0_areWillingRight : Room := { frames := 2, cells := 0, slots := 0, locals := 44 }
set_option maxHeartbeats 4000000 in
set_option maxRecDepth 100000 in
theorem mX0_areWillingRight (l : Launch) (D : va_G) (cI : ClassId) (ad : Nat × Nat) (q0 q1 q2 q3 q4 q5 q6 q7 : Nat) (sz : Nat) (s_armRows : Int32) (s_sounds : (Nat → Int32)) (s_clapped : (Nat → Int32)) (s_next : (Nat → Int32)) (s_hall_rows : Int32) (s_hall_late : Int32) (s_hall_kinds : (Nat → Int32)) (s_hall_palms : (Nat → Int32)) (s_hall_strengths : (Nat → Int32)) (r : Int32) (h : fX0_areWillingRight s_sounds s_hall_kinds s_hall_rows = some r) : Met l yX0_areWillingRight wsX0_areWillingRight rX0_areWillingRight (kPre D cI ad [.ref q0, .ref q4] (wCH cI q0 q1 q2 q3 q4 q5 q6 q7 s_armRows s_sounds s_clapped s_next s_hall_rows s_hall_late s_hall_kinds s_hall_palms s_hall_strengths) sz) (kQi D cI r (wCH cI q0 q1 q2 q3 q4 q5 q6 q7 s_armRows s_sounds s_clapped s_next s_hall_rows s_hall_late s_hall_kinds s_hall_palms s_hall_strengths) (va_A (wCH cI q0 q1 q2 q3 q4 q5 q6 q7 s_armRows s_sounds s_clapped s_next s_hall_rows s_hall_late s_hall_kinds s_hall_palms s_hall_strengths) sz)) 0 0 (va_A (wCH cI q0 q1 q2 q3 q4 q5 q6 q7 s_armRows s_sounds s_clapped s_next s_hall_rows s_hall_late s_hall_kinds s_hall_palms s_hall_strengths) sz) := by
  refine kStart (cc := cX0_areWillingRight) (maxL := 3) (ret := (some .boolean)) (Qc := fun A => kQi D cI r (wCH cI q0 q1 q2 q3 q4 q5 q6 q7 s_armRows s_sounds s_clapped s_next s_hall_rows s_hall_late s_hall_kinds s_hall_palms s_hall_strengths) A) (by decide) rfl (Nat.le_of_ble_eq_true rfl) ?_
  intro p e s m args below meth c A ls hx hb hr hts hown hlocks hin hml hN hST hA hS hP hK hD hl
  have hown : s.vm.findClass RX0 = some m.cls := hown
  have hl : lv_has ls 3 [(0, .ref q0), (1, .ref q4)] := hl
  have hRet : ∀ (H : Heap) (locs : List Loc) (ls : Array Slot) (pc : Nat), narrow .boolean (.int r) = .int r → va_P D vwCl (wCH cI q0 q1 q2 q3 q4 q5 q6 q7 s_armRows s_sounds s_clapped s_next s_hall_rows s_hall_late s_hall_kinds s_hall_palms s_hall_strengths) H → va_D A (wCH cI q0 q1 q2 q3 q4 q5 q6 q7 s_armRows s_sounds s_clapped s_next s_hall_rows s_hall_late s_hall_kinds s_hall_palms s_hall_strengths) → va_S A s.heap H locs → decode cX0_areWillingRight pc = .ok (.ireturn, 1) → W p l e rX0_areWillingRight s m args below meth c H locs 0 0 (MQ below (kQi D cI r (wCH cI q0 q1 q2 q3 q4 q5 q6 q7 s_armRows s_sounds s_clapped s_next s_hall_rows s_hall_late s_hall_kinds s_hall_palms s_hall_strengths) A) args s 0 0 A) (F0 m pc ls [.int r]) := fun H locs ls pc hz hP hD hS hd => k_zret hx hb hr hlocks hK hz hP hD hS hd
  generalize MQ below (kQi D cI r (wCH cI q0 q1 q2 q3 q4 q5 q6 q7 s_armRows s_sounds s_clapped s_next s_hall_rows s_hall_late s_hall_kinds s_hall_palms s_hall_strengths) A) args s 0 0 A = Q at hRet ⊢
  unfold fX0_areWillingRight at h
  refine lv_iconst (v := 0) hx hb dX0_areWillingRight_0 (by decide) ?_
  refine lv_istore_n (lv' := [(2, .int 0), (0, .ref q0), (1, .ref q4)]) hx hb dX0_areWillingRight_1 rfl hl (by decide) rfl (fun ls hl => ?_)
  refine kIter_fix (fun (z1 : Int32) => ∀ (H : Heap) (locs : List Loc) (ls : Array Slot), va_P D vwCl (wCH cI q0 q1 q2 q3 q4 q5 q6 q7 s_armRows s_sounds s_clapped s_next s_hall_rows s_hall_late s_hall_kinds s_hall_palms s_hall_strengths) H → va_D A (wCH cI q0 q1 q2 q3 q4 q5 q6 q7 s_armRows s_sounds s_clapped s_next s_hall_rows s_hall_late s_hall_kinds s_hall_palms s_hall_strengths) → va_S A s.heap H locs → lv_has ls 3 [(0, .ref q0), (1, .ref q4), (2, .int z1)] → W p l e rX0_areWillingRight s m args below meth c H locs 0 0 Q (F0 m 2 ls [])) ?_ _ _ h _ _ _ hP hD hS (lv_sub hl [1, 2, 0] rfl)
  intro rc1 ih1 z1 h H locs ls hP hD hS hl
  unfold fX0_areWillingRight_L1 at h
  refine lv_iload_n hx hb dX0_areWillingRight_2 rfl (lv_at hl 2 rfl) ?_
  refine lv_aload_n hx hb dX0_areWillingRight_3 rfl (lv_at hl 1 rfl) ?_
  refine va_getN (D := D) (ci := 2) (v := .int s_hall_rows) (C := RX2) (T := TX2) (N := 5) hx hb hts iX0_areWillingRight_X2 hown hK hP 4 rfl rfl 3 (by decide) (hN.f RX0 34 "ClappedWrong$Hall" "rows" "I" "ClappedWrong" (by decide +kernel)) (fun _ h9 => h9) rfl dX0_areWillingRight_4 ?_
  refine lv_icmp_ge (tgt := 37) hx hb dX0_areWillingRight_7 (by decide) (fun c0 => ?_) (fun c0 => ?_)
  · have h := (if_pos c0).symm.trans h
    refine lv_iconst (v := 1) hx hb dX0_areWillingRight_37 (by decide) ?_
    have h := Option.some.inj h
    subst h
    exact hRet _ _ _ _ kn_bo1 hP hD hS dX0_areWillingRight_38
  · have h := (if_neg c0).symm.trans h
    refine lv_aload_n hx hb dX0_areWillingRight_10 rfl (lv_at hl 0 rfl) ?_
    refine va_get (D := D) (ci := 0) (v := .ref q1) (C := RX0) (T := TX0) (N := 4) hx hb hts iX0_areWillingRight_X0 hown hK hP 0 rfl rfl 0 (by decide) (hts (.fieldLink RX0 9 "ClappedWrong$Crowd" "sounds" "[I") (by decide +kernel)) (fun _ h9 => h9) rfl dX0_areWillingRight_11 ?_
    refine lv_iload_n hx hb dX0_areWillingRight_14 rfl (lv_at hl 2 rfl) ?_
    refine k_iald hx hb hK hP 1 rfl dX0_areWillingRight_15 h (fun v2 h => ?_)
    refine lv_iconst (v := 2) hx hb dX0_areWillingRight_16 (by decide) ?_
    refine lv_icmp_eq (tgt := 31) hx hb dX0_areWillingRight_17 (by decide) (fun c0 => ?_) (fun c0 => ?_)
    · have h := (if_pos c0).symm.trans h
      refine lv_iinc (v := (z1 + 1)) (lv' := [(2, .int (z1 + 1)), (0, .ref q0), (1, .ref q4)]) hx hb dX0_areWillingRight_31 hl (k := 2) rfl rfl (by decide) rfl (fun ls hl => ?_)
      refine lv_goto (tgt := 2) hx hb dX0_areWillingRight_34 (by decide) ?_
      exact ih1 _ h _ _ _ hP hD hS (lv_sub hl [1, 2, 0] rfl)
    · have h := (if_neg c0).symm.trans h
      refine lv_aload_n hx hb dX0_areWillingRight_20 rfl (lv_at hl 1 rfl) ?_
      refine lv_iload_n hx hb dX0_areWillingRight_21 rfl (lv_at hl 2 rfl) ?_
      refine lv_iconst (v := 1) hx hb dX0_areWillingRight_22 (by decide) ?_
      obtain ⟨u3, hu3, h⟩ := k_bs h
      refine k_ci (r := u3) (k2 := 0) (n2 := 0) (wc := (wH cI q4 q5 q6 q7 s_hall_rows s_hall_late s_hall_kinds s_hall_palms s_hall_strengths)) (wc' := (wH cI q4 q5 q6 q7 s_hall_rows s_hall_late s_hall_kinds s_hall_palms s_hall_strengths)) (w2 := (wCH cI q0 q1 q2 q3 q4 q5 q6 q7 s_armRows s_sounds s_clapped s_next s_hall_rows s_hall_late s_hall_kinds s_hall_palms s_hall_strengths)) (va_runV (C := RX2) (As := [.int z1, .int 1]) (rest := []) ⟨hx, hb, hml, hown, hts⟩ (mX2_isOf l D cI ad q4 q5 q6 q7 _ s_hall_rows s_hall_late s_hall_kinds s_hall_palms s_hall_strengths z1 1 u3 hu3) (cwV 2 hts gX0_areWillingRight_X2_isOf rfl rfl rfl (by decide +kernel) ⟨Nat.le_of_ble_eq_true rfl, Nat.le_of_ble_eq_true rfl⟩) (k_prev (q := (RX2, TX2, 5)) hN hST hA hK hP hD hS (isC := [4, 5, 6, 7]) rfl rfl 4 (ci := 2) rfl rfl) rfl rfl hl.1 rfl (lv_room (Nat.le_of_ble_eq_true rfl)) dX0_areWillingRight_23 ⟨Nat.le_of_ble_eq_true rfl, Nat.le_of_ble_eq_true rfl⟩) hP hD hS hA [4, 5, 6, 7] rfl rfl rfl rfl rfl (fun H locs hP hD hS => ?_)
      refine lv_if_ne (tgt := 31) hx hb dX0_areWillingRight_26 (by decide) (fun c0 => ?_) (fun c0 => ?_)
      · have h := (if_neg c0).symm.trans h
        refine lv_iinc (v := (z1 + 1)) (lv' := [(2, .int (z1 + 1)), (0, .ref q0), (1, .ref q4)]) hx hb dX0_areWillingRight_31 hl (k := 2) rfl rfl (by decide) rfl (fun ls hl => ?_)
        refine lv_goto (tgt := 2) hx hb dX0_areWillingRight_34 (by decide) ?_
        exact ih1 _ h _ _ _ hP hD hS (lv_sub hl [1, 2, 0] rfl)
      · have h := (if_pos c0).symm.trans h
        refine lv_iconst (v := 0) hx hb dX0_areWillingRight_29 (by decide) ?_
        have h := Option.some.inj h
        subst h
        exact hRet _ _ _ _ kn_bo0 hP hD hS dX0_areWillingRight_30
def rX0_loudness : Room := { frames := 1, cells := 0, slots := 0, locals := 23 }
set_option maxHeartbeats 4000000 in
set_option maxRecDepth 100000 in
theorem mX0_loudness (l : Launch) (D : va_G) (cI : ClassId) (ad : Nat × Nat) (q0 q1 q2 q3 q4 q5 q6 q7 : Nat) (sz : Nat) (s_armRows : Int32) (s_sounds : (Nat → Int32)) (s_clapped : (Nat → Int32)) (s_next : (Nat → Int32)) (s_hall_rows : Int32) (s_hall_late : Int32) (s_hall_kinds : (Nat → Int32)) (s_hall_palms : (Nat → Int32)) (s_hall_strengths : (Nat → Int32)) (p2 : Int32) (p3 : Int32) (r : Int32) (h : fX0_loudness s_sounds s_hall_palms s_hall_rows p2 p3 = some r) : Met l yX0_loudness wsX0_loudness rX0_loudness (kPre D cI ad [.ref q0, .ref q4, .int p2, .int p3] (wCH cI q0 q1 q2 q3 q4 q5 q6 q7 s_armRows s_sounds s_clapped s_next s_hall_rows s_hall_late s_hall_kinds s_hall_palms s_hall_strengths) sz) (kQi D cI r (wCH cI q0 q1 q2 q3 q4 q5 q6 q7 s_armRows s_sounds s_clapped s_next s_hall_rows s_hall_late s_hall_kinds s_hall_palms s_hall_strengths) (va_A (wCH cI q0 q1 q2 q3 q4 q5 q6 q7 s_armRows s_sounds s_clapped s_next s_hall_rows s_hall_late s_hall_kinds s_hall_palms s_hall_strengths) sz)) 0 0 (va_A (wCH cI q0 q1 q2 q3 q4 q5 q6 q7 s_armRows s_sounds s_clapped s_next s_hall_rows s_hall_late s_hall_kinds s_hall_palms s_hall_strengths) sz) := by
  refine kStart (cc := cX0_loudness) (maxL := 7) (ret := (some .int)) (Qc := fun A => kQi D cI r (wCH cI q0 q1 q2 q3 q4 q5 q6 q7 s_armRows s_sounds s_clapped s_next s_hall_rows s_hall_late s_hall_kinds s_hall_palms s_hall_strengths) A) (by decide) rfl (Nat.le_of_ble_eq_true rfl) ?_
  intro p e s m args below meth c A ls hx hb hr hts hown hlocks hin hml hN hST hA hS hP hK hD hl
  have hown : s.vm.findClass RX0 = some m.cls := hown
  have hl : lv_has ls 7 [(0, .ref q0), (1, .ref q4), (2, .int p2), (3, .int p3)] := hl
  have hRet : ∀ (H : Heap) (locs : List Loc) (ls : Array Slot) (pc : Nat), va_P D vwCl (wCH cI q0 q1 q2 q3 q4 q5 q6 q7 s_armRows s_sounds s_clapped s_next s_hall_rows s_hall_late s_hall_kinds s_hall_palms s_hall_strengths) H → va_D A (wCH cI q0 q1 q2 q3 q4 q5 q6 q7 s_armRows s_sounds s_clapped s_next s_hall_rows s_hall_late s_hall_kinds s_hall_palms s_hall_strengths) → va_S A s.heap H locs → decode cX0_loudness pc = .ok (.ireturn, 1) → W p l e rX0_loudness s m args below meth c H locs 0 0 (MQ below (kQi D cI r (wCH cI q0 q1 q2 q3 q4 q5 q6 q7 s_armRows s_sounds s_clapped s_next s_hall_rows s_hall_late s_hall_kinds s_hall_palms s_hall_strengths) A) args s 0 0 A) (F0 m pc ls [.int r]) := fun H locs ls pc hP hD hS hd => k_iret hx hb hr hlocks hK hP hD hS hd
  generalize MQ below (kQi D cI r (wCH cI q0 q1 q2 q3 q4 q5 q6 q7 s_armRows s_sounds s_clapped s_next s_hall_rows s_hall_late s_hall_kinds s_hall_palms s_hall_strengths) A) args s 0 0 A = Q at hRet ⊢
  unfold fX0_loudness at h
  refine lv_iload_n hx hb dX0_loudness_0 rfl (lv_at hl 3 rfl) ?_
  refine lv_iconst (v := 2) hx hb dX0_loudness_1 (by decide) ?_
  refine lv_irem hx hb dX0_loudness_2 (by decide) ?_
  obtain ⟨u1, hu1, h⟩ := k_bs h
  have J1 : ∀ (H : Heap) (locs : List Loc) (ls : Array Slot), va_P D vwCl (wCH cI q0 q1 q2 q3 q4 q5 q6 q7 s_armRows s_sounds s_clapped s_next s_hall_rows s_hall_late s_hall_kinds s_hall_palms s_hall_strengths) H → va_D A (wCH cI q0 q1 q2 q3 q4 q5 q6 q7 s_armRows s_sounds s_clapped s_next s_hall_rows s_hall_late s_hall_kinds s_hall_palms s_hall_strengths) → va_S A s.heap H locs → lv_has ls 7 [(0, .ref q0), (1, .ref q4), (2, .int p2), (3, .int p3)] → W p l e rX0_loudness s m args below meth c H locs 0 0 Q (F0 m 11 ls [.int u1]) := by
    intro H locs ls hP hD hS hl
    refine lv_istore (lv' := [(4, .int u1), (0, .ref q0), (1, .ref q4), (2, .int p2), (3, .int p3)]) hx hb dX0_loudness_11 hl (by decide) rfl (fun ls hl => ?_)
    refine lv_iconst (v := 0) hx hb dX0_loudness_13 (by decide) ?_
    refine lv_istore (lv' := [(5, .int 0), (4, .int u1), (0, .ref q0), (1, .ref q4), (2, .int p2), (3, .int p3)]) hx hb dX0_loudness_14 hl (by decide) rfl (fun ls hl => ?_)
    refine lv_iload_n hx hb dX0_loudness_16 rfl (lv_at hl 4 rfl) ?_
    refine lv_iconst (v := 1) hx hb dX0_loudness_17 (by decide) ?_
    refine lv_isub hx hb dX0_loudness_18 ?_
    refine lv_istore (lv' := [(6, .int (p2 - 1)), (5, .int 0), (4, .int u1), (0, .ref q0), (1, .ref q4), (2, .int p2), (3, .int p3)]) hx hb dX0_loudness_19 hl (by decide) rfl (fun ls hl => ?_)
    obtain ⟨u3, hu3, h⟩ := k_bs h
    refine kIter_ind (fun (z2 : (Int32 × Int32)) (u3 : (Int32 × Int32)) => ∀ (H : Heap) (locs : List Loc) (ls : Array Slot), va_P D vwCl (wCH cI q0 q1 q2 q3 q4 q5 q6 q7 s_armRows s_sounds s_clapped s_next s_hall_rows s_hall_late s_hall_kinds s_hall_palms s_hall_strengths) H → va_D A (wCH cI q0 q1 q2 q3 q4 q5 q6 q7 s_armRows s_sounds s_clapped s_next s_hall_rows s_hall_late s_hall_kinds s_hall_palms s_hall_strengths) → va_S A s.heap H locs → lv_has ls 7 [(0, .ref q0), (1, .ref q4), (2, .int p2), (3, .int p3), (4, .int u1), (5, .int z2.1), (6, .int z2.2)] → (∀ (H : Heap) (locs : List Loc) (ls : Array Slot), va_P D vwCl (wCH cI q0 q1 q2 q3 q4 q5 q6 q7 s_armRows s_sounds s_clapped s_next s_hall_rows s_hall_late s_hall_kinds s_hall_palms s_hall_strengths) H → va_D A (wCH cI q0 q1 q2 q3 q4 q5 q6 q7 s_armRows s_sounds s_clapped s_next s_hall_rows s_hall_late s_hall_kinds s_hall_palms s_hall_strengths) → va_S A s.heap H locs → lv_has ls 7 [(0, .ref q0), (1, .ref q4), (2, .int p2), (3, .int p3), (4, .int u1), (5, .int u3.1), (6, .int u3.2)] → W p l e rX0_loudness s m args below meth c H locs 0 0 Q (F0 m 49 ls [])) → W p l e rX0_loudness s m args below meth c H locs 0 0 Q (F0 m 21 ls [])) ?_ _ _ _ hu3 _ _ _ hP hD hS (lv_sub hl [3, 4, 5, 6, 2, 1, 0] rfl) ?_
    · intro rc2 ih2 z2 u3 h H locs ls hP hD hS hl kx2
      unfold fX0_loudness_L1 at h
      refine lv_iload hx hb dX0_loudness_21 (lv_at hl 6 rfl) ?_
      refine lv_iload_n hx hb dX0_loudness_23 rfl (lv_at hl 2 rfl) ?_
      refine lv_iconst (v := 1) hx hb dX0_loudness_24 (by decide) ?_
      refine lv_iadd hx hb dX0_loudness_25 ?_
      refine lv_icmp_gt (tgt := 49) hx hb dX0_loudness_26 (by decide) (fun c0 => ?_) (fun c0 => ?_)
      · have h := (if_pos c0).symm.trans h
        have h := Option.some.inj h
        subst h
        exact kx2 _ _ _ hP hD hS (lv_sub hl [0, 1, 2, 3, 4, 5, 6] rfl)
      · have h := (if_neg c0).symm.trans h
        refine lv_iload hx hb dX0_loudness_29 (lv_at hl 5 rfl) ?_
        refine lv_aload_n hx hb dX0_loudness_31 rfl (lv_at hl 0 rfl) ?_
        refine lv_aload_n hx hb dX0_loudness_32 rfl (lv_at hl 1 rfl) ?_
        refine lv_iload hx hb dX0_loudness_33 (lv_at hl 6 rfl) ?_
        refine lv_iload hx hb dX0_loudness_35 (lv_at hl 4 rfl) ?_
        obtain ⟨u4, hu4, h⟩ := k_bs h
        refine k_ciA (r := u4) (k2 := 0) (n2 := 0) (ws := (wCH cI q0 q1 q2 q3 q4 q5 q6 q7 s_armRows s_sounds s_clapped s_next s_hall_rows s_hall_late s_hall_kinds s_hall_palms s_hall_strengths)) (wc' := (wCH cI q0 q1 q2 q3 q4 q5 q6 q7 s_armRows s_sounds s_clapped s_next s_hall_rows s_hall_late s_hall_kinds s_hall_palms s_hall_strengths)) (va_runV (C := RX0) (As := [.ref q4, .int z2.2, .int u1]) (rest := [.int z2.1]) ⟨hx, hb, hml, hown, hts⟩ (mX0_palmsThatSound l D cI ad q0 q1 q2 q3 q4 q5 q6 q7 _ s_armRows s_sounds s_clapped s_next s_hall_rows s_hall_late s_hall_kinds s_hall_palms s_hall_strengths z2.2 u1 u4 hu4) (cwV 3 hts gX0_loudness_X0_palmsThatSound rfl rfl rfl (by decide +kernel) ⟨Nat.le_of_ble_eq_true rfl, Nat.le_of_ble_eq_true rfl⟩) (k_preA (q := (RX0, TX0, 4)) hN hST hA hK hP hD hS 0 (ci := 0) rfl rfl) rfl rfl hl.1 rfl (lv_room (Nat.le_of_ble_eq_true rfl)) dX0_loudness_37 ⟨Nat.le_of_ble_eq_true rfl, Nat.le_of_ble_eq_true rfl⟩) hP hD hS hA rfl rfl (fun H locs hP hD hS => ?_)
        refine lv_iadd hx hb dX0_loudness_40 ?_
        refine lv_istore (lv' := [(5, .int (z2.1 + u4)), (0, .ref q0), (1, .ref q4), (2, .int p2), (3, .int p3), (4, .int u1), (6, .int z2.2)]) hx hb dX0_loudness_41 hl (by decide) rfl (fun ls hl => ?_)
        refine lv_iinc (v := (z2.2 + 1)) (lv' := [(6, .int (z2.2 + 1)), (5, .int (z2.1 + u4)), (0, .ref q0), (1, .ref q4), (2, .int p2), (3, .int p3), (4, .int u1)]) hx hb dX0_loudness_43 hl (k := 6) rfl rfl (by decide) rfl (fun ls hl => ?_)
        refine lv_goto (tgt := 21) hx hb dX0_loudness_46 (by decide) ?_
        exact ih2 _ _ h _ _ _ hP hD hS (lv_sub hl [2, 3, 4, 5, 6, 1, 0] rfl) kx2
    · intro H locs ls hP hD hS hl
      refine lv_iload hx hb dX0_loudness_49 (lv_at hl 5 rfl) ?_
      refine lv_aload_n hx hb dX0_loudness_51 rfl (lv_at hl 0 rfl) ?_
      refine lv_aload_n hx hb dX0_loudness_52 rfl (lv_at hl 1 rfl) ?_
      refine lv_iload_n hx hb dX0_loudness_53 rfl (lv_at hl 2 rfl) ?_
      refine lv_iconst (v := 2) hx hb dX0_loudness_54 (by decide) ?_
      refine lv_isub hx hb dX0_loudness_55 ?_
      refine lv_iload hx hb dX0_loudness_56 (lv_at hl 4 rfl) ?_
      obtain ⟨u5, hu5, h⟩ := k_bs h
      refine k_ciA (r := u5) (k2 := 0) (n2 := 0) (ws := (wCH cI q0 q1 q2 q3 q4 q5 q6 q7 s_armRows s_sounds s_clapped s_next s_hall_rows s_hall_late s_hall_kinds s_hall_palms s_hall_strengths)) (wc' := (wCH cI q0 q1 q2 q3 q4 q5 q6 q7 s_armRows s_sounds s_clapped s_next s_hall_rows s_hall_late s_hall_kinds s_hall_palms s_hall_strengths)) (va_runV (C := RX0) (As := [.ref q4, .int (p2 - 2), .int u1]) (rest := [.int u3.1]) ⟨hx, hb, hml, hown, hts⟩ (mX0_palmsThatSound l D cI ad q0 q1 q2 q3 q4 q5 q6 q7 _ s_armRows s_sounds s_clapped s_next s_hall_rows s_hall_late s_hall_kinds s_hall_palms s_hall_strengths (p2 - 2) u1 u5 hu5) (cwV 3 hts gX0_loudness_X0_palmsThatSound rfl rfl rfl (by decide +kernel) ⟨Nat.le_of_ble_eq_true rfl, Nat.le_of_ble_eq_true rfl⟩) (k_preA (q := (RX0, TX0, 4)) hN hST hA hK hP hD hS 0 (ci := 0) rfl rfl) rfl rfl hl.1 rfl (lv_room (Nat.le_of_ble_eq_true rfl)) dX0_loudness_58 ⟨Nat.le_of_ble_eq_true rfl, Nat.le_of_ble_eq_true rfl⟩) hP hD hS hA rfl rfl (fun H locs hP hD hS => ?_)
      refine lv_iconst (v := 2) hx hb dX0_loudness_61 (by decide) ?_
      refine lv_idiv hx hb dX0_loudness_62 (by decide) ?_
      refine lv_iadd hx hb dX0_loudness_63 ?_
      refine lv_aload_n hx hb dX0_loudness_64 rfl (lv_at hl 0 rfl) ?_
      refine lv_aload_n hx hb dX0_loudness_65 rfl (lv_at hl 1 rfl) ?_
      refine lv_iload_n hx hb dX0_loudness_66 rfl (lv_at hl 2 rfl) ?_
      refine lv_iconst (v := 2) hx hb dX0_loudness_67 (by decide) ?_
      refine lv_iadd hx hb dX0_loudness_68 ?_
      refine lv_iload hx hb dX0_loudness_69 (lv_at hl 4 rfl) ?_
      obtain ⟨u6, hu6, h⟩ := k_bs h
      refine k_ciA (r := u6) (k2 := 0) (n2 := 0) (ws := (wCH cI q0 q1 q2 q3 q4 q5 q6 q7 s_armRows s_sounds s_clapped s_next s_hall_rows s_hall_late s_hall_kinds s_hall_palms s_hall_strengths)) (wc' := (wCH cI q0 q1 q2 q3 q4 q5 q6 q7 s_armRows s_sounds s_clapped s_next s_hall_rows s_hall_late s_hall_kinds s_hall_palms s_hall_strengths)) (va_runV (C := RX0) (As := [.ref q4, .int (p2 + 2), .int u1]) (rest := [.int (u3.1 + (u5 / 2))]) ⟨hx, hb, hml, hown, hts⟩ (mX0_palmsThatSound l D cI ad q0 q1 q2 q3 q4 q5 q6 q7 _ s_armRows s_sounds s_clapped s_next s_hall_rows s_hall_late s_hall_kinds s_hall_palms s_hall_strengths (p2 + 2) u1 u6 hu6) (cwV 3 hts gX0_loudness_X0_palmsThatSound rfl rfl rfl (by decide +kernel) ⟨Nat.le_of_ble_eq_true rfl, Nat.le_of_ble_eq_true rfl⟩) (k_preA (q := (RX0, TX0, 4)) hN hST hA hK hP hD hS 0 (ci := 0) rfl rfl) rfl rfl hl.1 rfl (lv_room (Nat.le_of_ble_eq_true rfl)) dX0_loudness_71 ⟨Nat.le_of_ble_eq_true rfl, Nat.le_of_ble_eq_true rfl⟩) hP hD hS hA rfl rfl (fun H locs hP hD hS => ?_)
      refine lv_iconst (v := 2) hx hb dX0_loudness_74 (by decide) ?_
      refine lv_idiv hx hb dX0_loudness_75 (by decide) ?_
      refine lv_iadd hx hb dX0_loudness_76 ?_
      have h := Option.some.inj h
      subst h
      exact hRet _ _ _ _ hP hD hS dX0_loudness_77
  clear h
  have h := hu1
  refine lv_if_ne (tgt := 10) hx hb dX0_loudness_3 (by decide) (fun c0 => ?_) (fun c0 => ?_)
  · have h := (if_neg c0).symm.trans h
    refine lv_iconst (v := 2) hx hb dX0_loudness_10 (by decide) ?_
    have h := Option.some.inj h
    subst h
    exact J1 _ _ _ hP hD hS (lv_sub hl [0, 1, 2, 3] rfl)
  · have h := (if_pos c0).symm.trans h
    refine lv_iconst (v := 1) hx hb dX0_loudness_6 (by decide) ?_
    refine lv_goto (tgt := 11) hx hb dX0_loudness_7 (by decide) ?_
    have h := Option.some.inj h
    subst h
    exact J1 _ _ _ hP hD hS (lv_sub hl [0, 1, 2, 3] rfl)
theorem iX1_init_X1 : ∀ w ∈ wsX10, w ∈ wsX1_init := by decide +kernel
def rX1_init : Room := { frames := 1, cells := 0, slots := 0, locals := 20 }
set_option maxHeartbeats 4000000 in
set_option maxRecDepth 100000 in
theorem mX1_init (l : Launch) (D : va_G) (cI : ClassId) (ad : Nat × Nat) (q0 : Nat) (sz : Nat) (s_seed : Int32) (p1 : Int32) (r : Int32) (h : fX1_init p1 = some r) : Met l yX1_init wsX1_init rX1_init (kPre D cI ad [.ref q0, .int p1] [(q0, .inr (1, [.int s_seed]))] sz) (kQv D cI [(q0, .inr (1, [.int r]))] (va_A [(q0, .inr (1, [.int s_seed]))] sz)) 0 0 (va_A [(q0, .inr (1, [.int s_seed]))] sz) := by
  refine kStart (cc := cX1_init) (maxL := 2) (ret := none) (Qc := fun A => kQv D cI [(q0, .inr (1, [.int r]))] A) (by decide) rfl (Nat.le_of_ble_eq_true rfl) ?_
  intro p e s m args below meth c A ls hx hb hr hts hown hlocks hin hml hN hST hA hS hP hK hD hl
  have hown : s.vm.findClass RX1 = some m.cls := hown
  have hl : lv_has ls 2 [(0, .ref q0), (1, .int p1)] := hl
  have hRet : ∀ (H : Heap) (locs : List Loc) (ls : Array Slot) (pc : Nat), va_P D vwCl [(q0, .inr (1, [.int r]))] H → va_D A [(q0, .inr (1, [.int r]))] → va_S A s.heap H locs → decode cX1_init pc = .ok (.return_, 1) → W p l e rX1_init s m args below meth c H locs 0 0 (MQ below (kQv D cI [(q0, .inr (1, [.int r]))] A) args s 0 0 A) (F0 m pc ls []) := fun H locs ls pc hP hD hS hd => k_vret hx hb hr hlocks hK hP hD hS hd
  generalize MQ below (kQv D cI [(q0, .inr (1, [.int r]))] A) args s 0 0 A = Q at hRet ⊢
  unfold fX1_init at h
  refine lv_aload_n hx hb dX1_init_0 rfl (lv_at hl 0 rfl) ?_
  refine W.objInit hx hb hown (hts (.methodLink RX1 1 objectInit) (by decide +kernel)) (hts (.instanceMethod objectInit) (by decide +kernel)) (hts (.code objectInit ⟨#[0xb1]⟩ 1 none) (by decide +kernel)) rfl (by rw [hml]; exact hl.1) rfl dX1_init_1 (Nat.le_of_ble_eq_true rfl) (Nat.le_of_ble_eq_true rfl) ?_
  refine lv_aload_n hx hb dX1_init_4 rfl (lv_at hl 0 rfl) ?_
  refine lv_iload_n hx hb dX1_init_5 rfl (lv_at hl 1 rfl) ?_
  refine va_put (D := D) (ci := 1) (v := .int p1) (ty := .int) (C := RX1) (T := TX1) (N := 1) hx hb hts iX1_init_X1 tyX1 tyX1_ok nmX1 hown hK hP hD hS 0 rfl rfl 0 (by decide) (hts (.fieldLink RX1 7 "ClappedWrong$Draws" "seed" "I") (by decide +kernel)) (fun _ h9 => h9) rfl (by decide +kernel) rfl rfl (Nat.le_of_ble_eq_true rfl) dX1_init_6 (fun H locs hP hD hS => ?_)
  have hP : va_P D vwCl [(q0, .inr (1, [.int p1]))] H := hP
  have hD : va_D A [(q0, .inr (1, [.int p1]))] := hD
  have h := Option.some.inj h
  subst h
  exact hRet _ _ _ _ hP hD hS dX1_init_9
theorem iX1_next_X1 : ∀ w ∈ wsX10, w ∈ wsX1_next := by decide +kernel
def rX1_next : Room := { frames := 0, cells := 0, slots := 0, locals := 0 }
set_option maxHeartbeats 4000000 in
set_option maxRecDepth 100000 in
theorem mX1_next (l : Launch) (D : va_G) (cI : ClassId) (ad : Nat × Nat) (q0 : Nat) (sz : Nat) (s_seed : Int32) (p1 : Int32) (r : (Int32 × Int32)) (h : fX1_next s_seed p1 = some r) : Met l yX1_next wsX1_next rX1_next (kPre D cI ad [.ref q0, .int p1] [(q0, .inr (1, [.int s_seed]))] sz) (kQi D cI r.1 [(q0, .inr (1, [.int r.2]))] (va_A [(q0, .inr (1, [.int s_seed]))] sz)) 0 0 (va_A [(q0, .inr (1, [.int s_seed]))] sz) := by
  refine kStart (cc := cX1_next) (maxL := 2) (ret := (some .int)) (Qc := fun A => kQi D cI r.1 [(q0, .inr (1, [.int r.2]))] A) (by decide) rfl (Nat.le_of_ble_eq_true rfl) ?_
  intro p e s m args below meth c A ls hx hb hr hts hown hlocks hin hml hN hST hA hS hP hK hD hl
  have hown : s.vm.findClass RX1 = some m.cls := hown
  have hl : lv_has ls 2 [(0, .ref q0), (1, .int p1)] := hl
  have hRet : ∀ (H : Heap) (locs : List Loc) (ls : Array Slot) (pc : Nat), va_P D vwCl [(q0, .inr (1, [.int r.2]))] H → va_D A [(q0, .inr (1, [.int r.2]))] → va_S A s.heap H locs → decode cX1_next pc = .ok (.ireturn, 1) → W p l e rX1_next s m args below meth c H locs 0 0 (MQ below (kQi D cI r.1 [(q0, .inr (1, [.int r.2]))] A) args s 0 0 A) (F0 m pc ls [.int r.1]) := fun H locs ls pc hP hD hS hd => k_iret hx hb hr hlocks hK hP hD hS hd
  generalize MQ below (kQi D cI r.1 [(q0, .inr (1, [.int r.2]))] A) args s 0 0 A = Q at hRet ⊢
  unfold fX1_next at h
  refine lv_aload_n hx hb dX1_next_0 rfl (lv_at hl 0 rfl) ?_
  refine lv_ldc2 (v := 1103515245) hx hb hown (hts (.constantLong RX1 13 1103515245) (by decide +kernel)) dX1_next_1 ?_
  refine lv_aload_n hx hb dX1_next_4 rfl (lv_at hl 0 rfl) ?_
  refine va_get (D := D) (ci := 1) (v := .int s_seed) (C := RX1) (T := TX1) (N := 1) hx hb hts iX1_next_X1 hown hK hP 0 rfl rfl 0 (by decide) (hts (.fieldLink RX1 7 "ClappedWrong$Draws" "seed" "I") (by decide +kernel)) (fun _ h9 => h9) rfl dX1_next_5 ?_
  refine lv_i2l hx hb dX1_next_8 rfl ?_
  refine lv_lmul hx hb dX1_next_9 ?_
  refine lv_ldc2 (v := 12345) hx hb hown (hts (.constantLong RX1 15 12345) (by decide +kernel)) dX1_next_10 ?_
  refine lv_ladd hx hb dX1_next_13 ?_
  refine lv_ldc2 (v := 2147483648) hx hb hown (hts (.constantLong RX1 17 2147483648) (by decide +kernel)) dX1_next_14 ?_
  refine lv_lrem hx hb dX1_next_17 (by decide) ?_
  refine lv_l2i hx hb dX1_next_18 rfl ?_
  refine va_put (D := D) (ci := 1) (v := .int (Int64.toInt32 ((((1103515245 : Int64) * (Int32.toInt64 s_seed)) + (12345 : Int64)) - (((1103515245 : Int64) * (Int32.toInt64 s_seed)) + (12345 : Int64)) / (2147483648 : Int64) * (2147483648 : Int64)))) (ty := .int) (C := RX1) (T := TX1) (N := 1) hx hb hts iX1_next_X1 tyX1 tyX1_ok nmX1 hown hK hP hD hS 0 rfl rfl 0 (by decide) (hts (.fieldLink RX1 7 "ClappedWrong$Draws" "seed" "I") (by decide +kernel)) (fun _ h9 => h9) rfl (by decide +kernel) rfl rfl (Nat.le_of_ble_eq_true rfl) dX1_next_19 (fun H locs hP hD hS => ?_)
  have hP : va_P D vwCl [(q0, .inr (1, [.int (Int64.toInt32 ((((1103515245 : Int64) * (Int32.toInt64 s_seed)) + (12345 : Int64)) - (((1103515245 : Int64) * (Int32.toInt64 s_seed)) + (12345 : Int64)) / (2147483648 : Int64) * (2147483648 : Int64)))]))] H := hP
  have hD : va_D A [(q0, .inr (1, [.int (Int64.toInt32 ((((1103515245 : Int64) * (Int32.toInt64 s_seed)) + (12345 : Int64)) - (((1103515245 : Int64) * (Int32.toInt64 s_seed)) + (12345 : Int64)) / (2147483648 : Int64) * (2147483648 : Int64)))]))] := hD
  refine lv_iload_n hx hb dX1_next_22 rfl (lv_at hl 1 rfl) ?_
  refine lv_if_le (tgt := 38) hx hb dX1_next_23 (by decide) (fun c0 => ?_) (fun c0 => ?_)
  · have h := (if_pos c0).symm.trans h
    refine lv_iconst (v := 0) hx hb dX1_next_38 (by decide) ?_
    have h := Option.some.inj h
    subst h
    exact hRet _ _ _ _ hP hD hS dX1_next_39
  · have h := (if_neg c0).symm.trans h
    refine lv_aload_n hx hb dX1_next_26 rfl (lv_at hl 0 rfl) ?_
    refine va_get (D := D) (ci := 1) (v := .int (Int64.toInt32 ((((1103515245 : Int64) * (Int32.toInt64 s_seed)) + (12345 : Int64)) - (((1103515245 : Int64) * (Int32.toInt64 s_seed)) + (12345 : Int64)) / (2147483648 : Int64) * (2147483648 : Int64)))) (C := RX1) (T := TX1) (N := 1) hx hb hts iX1_next_X1 hown hK hP 0 rfl rfl 0 (by decide) (hts (.fieldLink RX1 7 "ClappedWrong$Draws" "seed" "I") (by decide +kernel)) (fun _ h9 => h9) rfl dX1_next_27 ?_
    refine lv_ldc (v := 65536) hx hb hown (hts (.constant RX1 19 65536) (by decide +kernel)) dX1_next_30 ?_
    refine lv_idiv hx hb dX1_next_32 (by decide) ?_
    refine lv_iload_n hx hb dX1_next_33 rfl (lv_at hl 1 rfl) ?_
    refine k_irem hx hb dX1_next_34 h (fun v1 h => ?_)
    refine lv_goto (tgt := 39) hx hb dX1_next_35 (by decide) ?_
    have h := Option.some.inj h
    subst h
    exact hRet _ _ _ _ hP hD hS dX1_next_39
