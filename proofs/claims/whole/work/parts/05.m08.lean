theorem iX6_lagOf_X6 : ∀ w ∈ wsX60, w ∈ wsX6_lagOf := by decide +kernel
def rX6_lagOf : Room := { frames := 0, cells := 0, slots := 0, locals := 0 }
set_option maxHeartbeats 4000000 in
set_option maxRecDepth 100000 in
theorem mX6_lagOf (l : Launch) (D : va_G) (cI : ClassId) (ad : Nat × Nat) (q0 q1 q2 q3 q4 q5 q6 q7 q8 q9 q10 q11 q12 : Nat) (sz : Nat) (s_pageMany : Int32) (s_readMany : Int32) (s_readLate : Int32) (s_state : Int32) (s_many : Int32) (s_late : Int32) (s_armNow : Int32) (s_barNow : Int32) (s_skips : Int32) (s_hallsRead : Int32) (s_nowArm : Int32) (s_turnedMany : Int32) (s_recordMany : Int32) (s_beganMany : Int32) (s_seedNow : Int32) (s_keptHall : Int32) (s_keptArm : Int32) (s_keptBar : Int32) (s_keptSkips : Int32) (s_keptRecordMany : Int32) (s_hash : Int64) (s_page : (Nat → Int32)) (s_read : (Nat → Int32)) (s_rows : (Nat → Int32)) (s_sounds : (Nat → Int32)) (s_clapped : (Nat → Int32)) (s_now : (Nat → Int32)) (s_nowLong : (Nat → Int32)) (s_ahead : (Nat → Int32)) (s_records : (Nat → Int32)) (s_keptSounds : (Nat → Int32)) (s_keptClapped : (Nat → Int32)) (s_keptRecords : (Nat → Int32)) (p1 : Int32) (r : Int32) (h : fX6_lagOf s_late p1 = some r) : Met l yX6_lagOf wsX6_lagOf rX6_lagOf (kPre D cI ad [.ref q0, .int p1] (wM cI q0 q1 q2 q3 q4 q5 q6 q7 q8 q9 q10 q11 q12 s_pageMany s_readMany s_readLate s_state s_many s_late s_armNow s_barNow s_skips s_hallsRead s_nowArm s_turnedMany s_recordMany s_beganMany s_seedNow s_keptHall s_keptArm s_keptBar s_keptSkips s_keptRecordMany s_hash s_page s_read s_rows s_sounds s_clapped s_now s_nowLong s_ahead s_records s_keptSounds s_keptClapped s_keptRecords) sz) (kQi D cI r (wM cI q0 q1 q2 q3 q4 q5 q6 q7 q8 q9 q10 q11 q12 s_pageMany s_readMany s_readLate s_state s_many s_late s_armNow s_barNow s_skips s_hallsRead s_nowArm s_turnedMany s_recordMany s_beganMany s_seedNow s_keptHall s_keptArm s_keptBar s_keptSkips s_keptRecordMany s_hash s_page s_read s_rows s_sounds s_clapped s_now s_nowLong s_ahead s_records s_keptSounds s_keptClapped s_keptRecords) (va_A (wM cI q0 q1 q2 q3 q4 q5 q6 q7 q8 q9 q10 q11 q12 s_pageMany s_readMany s_readLate s_state s_many s_late s_armNow s_barNow s_skips s_hallsRead s_nowArm s_turnedMany s_recordMany s_beganMany s_seedNow s_keptHall s_keptArm s_keptBar s_keptSkips s_keptRecordMany s_hash s_page s_read s_rows s_sounds s_clapped s_now s_nowLong s_ahead s_records s_keptSounds s_keptClapped s_keptRecords) sz)) 0 0 (va_A (wM cI q0 q1 q2 q3 q4 q5 q6 q7 q8 q9 q10 q11 q12 s_pageMany s_readMany s_readLate s_state s_many s_late s_armNow s_barNow s_skips s_hallsRead s_nowArm s_turnedMany s_recordMany s_beganMany s_seedNow s_keptHall s_keptArm s_keptBar s_keptSkips s_keptRecordMany s_hash s_page s_read s_rows s_sounds s_clapped s_now s_nowLong s_ahead s_records s_keptSounds s_keptClapped s_keptRecords) sz) := by
  refine kStart (cc := cX6_lagOf) (maxL := 2) (ret := (some .int)) (Qc := fun A => kQi D cI r (wM cI q0 q1 q2 q3 q4 q5 q6 q7 q8 q9 q10 q11 q12 s_pageMany s_readMany s_readLate s_state s_many s_late s_armNow s_barNow s_skips s_hallsRead s_nowArm s_turnedMany s_recordMany s_beganMany s_seedNow s_keptHall s_keptArm s_keptBar s_keptSkips s_keptRecordMany s_hash s_page s_read s_rows s_sounds s_clapped s_now s_nowLong s_ahead s_records s_keptSounds s_keptClapped s_keptRecords) A) (by decide) rfl (Nat.le_of_ble_eq_true rfl) ?_
  intro p e s m args below meth c A ls hx hb hr hts hown hlocks hin hml hN hST hA hS hP hK hD hl
  have hown : s.vm.findClass RX6 = some m.cls := hown
  have hl : lv_has ls 2 [(0, .ref q0), (1, .int p1)] := hl
  have hRet : ∀ (H : Heap) (locs : List Loc) (ls : Array Slot) (pc : Nat), va_P D vwCl (wM cI q0 q1 q2 q3 q4 q5 q6 q7 q8 q9 q10 q11 q12 s_pageMany s_readMany s_readLate s_state s_many s_late s_armNow s_barNow s_skips s_hallsRead s_nowArm s_turnedMany s_recordMany s_beganMany s_seedNow s_keptHall s_keptArm s_keptBar s_keptSkips s_keptRecordMany s_hash s_page s_read s_rows s_sounds s_clapped s_now s_nowLong s_ahead s_records s_keptSounds s_keptClapped s_keptRecords) H → va_D A (wM cI q0 q1 q2 q3 q4 q5 q6 q7 q8 q9 q10 q11 q12 s_pageMany s_readMany s_readLate s_state s_many s_late s_armNow s_barNow s_skips s_hallsRead s_nowArm s_turnedMany s_recordMany s_beganMany s_seedNow s_keptHall s_keptArm s_keptBar s_keptSkips s_keptRecordMany s_hash s_page s_read s_rows s_sounds s_clapped s_now s_nowLong s_ahead s_records s_keptSounds s_keptClapped s_keptRecords) → va_S A s.heap H locs → decode cX6_lagOf pc = .ok (.ireturn, 1) → W p l e rX6_lagOf s m args below meth c H locs 0 0 (MQ below (kQi D cI r (wM cI q0 q1 q2 q3 q4 q5 q6 q7 q8 q9 q10 q11 q12 s_pageMany s_readMany s_readLate s_state s_many s_late s_armNow s_barNow s_skips s_hallsRead s_nowArm s_turnedMany s_recordMany s_beganMany s_seedNow s_keptHall s_keptArm s_keptBar s_keptSkips s_keptRecordMany s_hash s_page s_read s_rows s_sounds s_clapped s_now s_nowLong s_ahead s_records s_keptSounds s_keptClapped s_keptRecords) A) args s 0 0 A) (F0 m pc ls [.int r]) := fun H locs ls pc hP hD hS hd => k_iret hx hb hr hlocks hK hP hD hS hd
  generalize MQ below (kQi D cI r (wM cI q0 q1 q2 q3 q4 q5 q6 q7 q8 q9 q10 q11 q12 s_pageMany s_readMany s_readLate s_state s_many s_late s_armNow s_barNow s_skips s_hallsRead s_nowArm s_turnedMany s_recordMany s_beganMany s_seedNow s_keptHall s_keptArm s_keptBar s_keptSkips s_keptRecordMany s_hash s_page s_read s_rows s_sounds s_clapped s_now s_nowLong s_ahead s_records s_keptSounds s_keptClapped s_keptRecords) A) args s 0 0 A = Q at hRet ⊢
  unfold fX6_lagOf at h
  refine lv_aload_n hx hb dX6_lagOf_0 rfl (lv_at hl 0 rfl) ?_
  refine va_get (D := D) (ci := 6) (v := .int s_late) (C := RX6) (T := TX6) (N := 33) hx hb hts iX6_lagOf_X6 hown hK hP 0 rfl rfl 7 (by decide) (hts (.fieldLink RX6 87 "ClappedWrongModel" "late" "I") (by decide +kernel)) (fun _ h9 => h9) rfl dX6_lagOf_1 ?_
  refine lv_if_ne (tgt := 11) hx hb dX6_lagOf_4 (by decide) (fun c0 => ?_) (fun c0 => ?_)
  · have h := (if_neg c0).symm.trans h
    refine lv_iload_n hx hb dX6_lagOf_11 rfl (lv_at hl 1 rfl) ?_
    refine lv_aload_n hx hb dX6_lagOf_12 rfl (lv_at hl 0 rfl) ?_
    refine va_get (D := D) (ci := 6) (v := .int s_late) (C := RX6) (T := TX6) (N := 33) hx hb hts iX6_lagOf_X6 hown hK hP 0 rfl rfl 7 (by decide) (hts (.fieldLink RX6 87 "ClappedWrongModel" "late" "I") (by decide +kernel)) (fun _ h9 => h9) rfl dX6_lagOf_13 ?_
    refine k_idiv hx hb dX6_lagOf_16 h (fun v1 h => ?_)
    have h := Option.some.inj h
    subst h
    exact hRet _ _ _ _ hP hD hS dX6_lagOf_17
  · have h := (if_pos c0).symm.trans h
    refine lv_iconst (v := 0) hx hb dX6_lagOf_7 (by decide) ?_
    refine lv_goto (tgt := 17) hx hb dX6_lagOf_8 (by decide) ?_
    have h := Option.some.inj h
    subst h
    exact hRet _ _ _ _ hP hD hS dX6_lagOf_17
def rX6_byLag : Room := { frames := 1, cells := 0, slots := 0, locals := 21 }
set_option maxHeartbeats 4000000 in
set_option maxRecDepth 100000 in
theorem mX6_byLag (l : Launch) (D : va_G) (cI : ClassId) (ad : Nat × Nat) (q0 q1 q2 q3 q4 q5 q6 q7 q8 q9 q10 q11 q12 : Nat) (sz : Nat) (s_pageMany : Int32) (s_readMany : Int32) (s_readLate : Int32) (s_state : Int32) (s_many : Int32) (s_late : Int32) (s_armNow : Int32) (s_barNow : Int32) (s_skips : Int32) (s_hallsRead : Int32) (s_nowArm : Int32) (s_turnedMany : Int32) (s_recordMany : Int32) (s_beganMany : Int32) (s_seedNow : Int32) (s_keptHall : Int32) (s_keptArm : Int32) (s_keptBar : Int32) (s_keptSkips : Int32) (s_keptRecordMany : Int32) (s_hash : Int64) (s_page : (Nat → Int32)) (s_read : (Nat → Int32)) (s_rows : (Nat → Int32)) (s_sounds : (Nat → Int32)) (s_clapped : (Nat → Int32)) (s_now : (Nat → Int32)) (s_nowLong : (Nat → Int32)) (s_ahead : (Nat → Int32)) (s_records : (Nat → Int32)) (s_keptSounds : (Nat → Int32)) (s_keptClapped : (Nat → Int32)) (s_keptRecords : (Nat → Int32)) (p1 : Int32) (p2 : Int32) (r : Int32) (h : fX6_byLag s_late p1 p2 = some r) : Met l yX6_byLag wsX6_byLag rX6_byLag (kPre D cI ad [.ref q0, .int p1, .int p2] (wM cI q0 q1 q2 q3 q4 q5 q6 q7 q8 q9 q10 q11 q12 s_pageMany s_readMany s_readLate s_state s_many s_late s_armNow s_barNow s_skips s_hallsRead s_nowArm s_turnedMany s_recordMany s_beganMany s_seedNow s_keptHall s_keptArm s_keptBar s_keptSkips s_keptRecordMany s_hash s_page s_read s_rows s_sounds s_clapped s_now s_nowLong s_ahead s_records s_keptSounds s_keptClapped s_keptRecords) sz) (kQi D cI r (wM cI q0 q1 q2 q3 q4 q5 q6 q7 q8 q9 q10 q11 q12 s_pageMany s_readMany s_readLate s_state s_many s_late s_armNow s_barNow s_skips s_hallsRead s_nowArm s_turnedMany s_recordMany s_beganMany s_seedNow s_keptHall s_keptArm s_keptBar s_keptSkips s_keptRecordMany s_hash s_page s_read s_rows s_sounds s_clapped s_now s_nowLong s_ahead s_records s_keptSounds s_keptClapped s_keptRecords) (va_A (wM cI q0 q1 q2 q3 q4 q5 q6 q7 q8 q9 q10 q11 q12 s_pageMany s_readMany s_readLate s_state s_many s_late s_armNow s_barNow s_skips s_hallsRead s_nowArm s_turnedMany s_recordMany s_beganMany s_seedNow s_keptHall s_keptArm s_keptBar s_keptSkips s_keptRecordMany s_hash s_page s_read s_rows s_sounds s_clapped s_now s_nowLong s_ahead s_records s_keptSounds s_keptClapped s_keptRecords) sz)) 0 0 (va_A (wM cI q0 q1 q2 q3 q4 q5 q6 q7 q8 q9 q10 q11 q12 s_pageMany s_readMany s_readLate s_state s_many s_late s_armNow s_barNow s_skips s_hallsRead s_nowArm s_turnedMany s_recordMany s_beganMany s_seedNow s_keptHall s_keptArm s_keptBar s_keptSkips s_keptRecordMany s_hash s_page s_read s_rows s_sounds s_clapped s_now s_nowLong s_ahead s_records s_keptSounds s_keptClapped s_keptRecords) sz) := by
  refine kStart (cc := cX6_byLag) (maxL := 4) (ret := (some .int)) (Qc := fun A => kQi D cI r (wM cI q0 q1 q2 q3 q4 q5 q6 q7 q8 q9 q10 q11 q12 s_pageMany s_readMany s_readLate s_state s_many s_late s_armNow s_barNow s_skips s_hallsRead s_nowArm s_turnedMany s_recordMany s_beganMany s_seedNow s_keptHall s_keptArm s_keptBar s_keptSkips s_keptRecordMany s_hash s_page s_read s_rows s_sounds s_clapped s_now s_nowLong s_ahead s_records s_keptSounds s_keptClapped s_keptRecords) A) (by decide) rfl (Nat.le_of_ble_eq_true rfl) ?_
  intro p e s m args below meth c A ls hx hb hr hts hown hlocks hin hml hN hST hA hS hP hK hD hl
  have hown : s.vm.findClass RX6 = some m.cls := hown
  have hl : lv_has ls 4 [(0, .ref q0), (1, .int p1), (2, .int p2)] := hl
  have hRet : ∀ (H : Heap) (locs : List Loc) (ls : Array Slot) (pc : Nat), va_P D vwCl (wM cI q0 q1 q2 q3 q4 q5 q6 q7 q8 q9 q10 q11 q12 s_pageMany s_readMany s_readLate s_state s_many s_late s_armNow s_barNow s_skips s_hallsRead s_nowArm s_turnedMany s_recordMany s_beganMany s_seedNow s_keptHall s_keptArm s_keptBar s_keptSkips s_keptRecordMany s_hash s_page s_read s_rows s_sounds s_clapped s_now s_nowLong s_ahead s_records s_keptSounds s_keptClapped s_keptRecords) H → va_D A (wM cI q0 q1 q2 q3 q4 q5 q6 q7 q8 q9 q10 q11 q12 s_pageMany s_readMany s_readLate s_state s_many s_late s_armNow s_barNow s_skips s_hallsRead s_nowArm s_turnedMany s_recordMany s_beganMany s_seedNow s_keptHall s_keptArm s_keptBar s_keptSkips s_keptRecordMany s_hash s_page s_read s_rows s_sounds s_clapped s_now s_nowLong s_ahead s_records s_keptSounds s_keptClapped s_keptRecords) → va_S A s.heap H locs → decode cX6_byLag pc = .ok (.ireturn, 1) → W p l e rX6_byLag s m args below meth c H locs 0 0 (MQ below (kQi D cI r (wM cI q0 q1 q2 q3 q4 q5 q6 q7 q8 q9 q10 q11 q12 s_pageMany s_readMany s_readLate s_state s_many s_late s_armNow s_barNow s_skips s_hallsRead s_nowArm s_turnedMany s_recordMany s_beganMany s_seedNow s_keptHall s_keptArm s_keptBar s_keptSkips s_keptRecordMany s_hash s_page s_read s_rows s_sounds s_clapped s_now s_nowLong s_ahead s_records s_keptSounds s_keptClapped s_keptRecords) A) args s 0 0 A) (F0 m pc ls [.int r]) := fun H locs ls pc hP hD hS hd => k_iret hx hb hr hlocks hK hP hD hS hd
  generalize MQ below (kQi D cI r (wM cI q0 q1 q2 q3 q4 q5 q6 q7 q8 q9 q10 q11 q12 s_pageMany s_readMany s_readLate s_state s_many s_late s_armNow s_barNow s_skips s_hallsRead s_nowArm s_turnedMany s_recordMany s_beganMany s_seedNow s_keptHall s_keptArm s_keptBar s_keptSkips s_keptRecordMany s_hash s_page s_read s_rows s_sounds s_clapped s_now s_nowLong s_ahead s_records s_keptSounds s_keptClapped s_keptRecords) A) args s 0 0 A = Q at hRet ⊢
  unfold fX6_byLag at h
  refine lv_aload_n hx hb dX6_byLag_0 rfl (lv_at hl 0 rfl) ?_
  refine lv_iload_n hx hb dX6_byLag_1 rfl (lv_at hl 1 rfl) ?_
  obtain ⟨u1, hu1, h⟩ := k_bs h
  refine k_ciA (r := u1) (k2 := 0) (n2 := 0) (ws := (wM cI q0 q1 q2 q3 q4 q5 q6 q7 q8 q9 q10 q11 q12 s_pageMany s_readMany s_readLate s_state s_many s_late s_armNow s_barNow s_skips s_hallsRead s_nowArm s_turnedMany s_recordMany s_beganMany s_seedNow s_keptHall s_keptArm s_keptBar s_keptSkips s_keptRecordMany s_hash s_page s_read s_rows s_sounds s_clapped s_now s_nowLong s_ahead s_records s_keptSounds s_keptClapped s_keptRecords)) (wc' := (wM cI q0 q1 q2 q3 q4 q5 q6 q7 q8 q9 q10 q11 q12 s_pageMany s_readMany s_readLate s_state s_many s_late s_armNow s_barNow s_skips s_hallsRead s_nowArm s_turnedMany s_recordMany s_beganMany s_seedNow s_keptHall s_keptArm s_keptBar s_keptSkips s_keptRecordMany s_hash s_page s_read s_rows s_sounds s_clapped s_now s_nowLong s_ahead s_records s_keptSounds s_keptClapped s_keptRecords)) (va_runV (C := RX6) (As := [.int p1]) (rest := []) ⟨hx, hb, hml, hown, hts⟩ (mX6_lagOf l D cI ad q0 q1 q2 q3 q4 q5 q6 q7 q8 q9 q10 q11 q12 _ s_pageMany s_readMany s_readLate s_state s_many s_late s_armNow s_barNow s_skips s_hallsRead s_nowArm s_turnedMany s_recordMany s_beganMany s_seedNow s_keptHall s_keptArm s_keptBar s_keptSkips s_keptRecordMany s_hash s_page s_read s_rows s_sounds s_clapped s_now s_nowLong s_ahead s_records s_keptSounds s_keptClapped s_keptRecords p1 u1 hu1) (cwV 1 hts gX6_byLag_X6_lagOf rfl rfl rfl (by decide +kernel) ⟨Nat.le_of_ble_eq_true rfl, Nat.le_of_ble_eq_true rfl⟩) (k_preA (q := (RX6, TX6, 33)) hN hST hA hK hP hD hS 0 (ci := 6) rfl rfl) rfl rfl hl.1 rfl (lv_room (Nat.le_of_ble_eq_true rfl)) dX6_byLag_2 ⟨Nat.le_of_ble_eq_true rfl, Nat.le_of_ble_eq_true rfl⟩) hP hD hS hA rfl rfl (fun H locs hP hD hS => ?_)
  refine lv_iconst (v := 2) hx hb dX6_byLag_5 (by decide) ?_
  refine lv_irem hx hb dX6_byLag_6 (by decide) ?_
  refine lv_iconst (v := 1) hx hb dX6_byLag_7 (by decide) ?_
  obtain ⟨u2, hu2, h⟩ := k_bs h
  have J2 : ∀ (H : Heap) (locs : List Loc) (ls : Array Slot), va_P D vwCl (wM cI q0 q1 q2 q3 q4 q5 q6 q7 q8 q9 q10 q11 q12 s_pageMany s_readMany s_readLate s_state s_many s_late s_armNow s_barNow s_skips s_hallsRead s_nowArm s_turnedMany s_recordMany s_beganMany s_seedNow s_keptHall s_keptArm s_keptBar s_keptSkips s_keptRecordMany s_hash s_page s_read s_rows s_sounds s_clapped s_now s_nowLong s_ahead s_records s_keptSounds s_keptClapped s_keptRecords) H → va_D A (wM cI q0 q1 q2 q3 q4 q5 q6 q7 q8 q9 q10 q11 q12 s_pageMany s_readMany s_readLate s_state s_many s_late s_armNow s_barNow s_skips s_hallsRead s_nowArm s_turnedMany s_recordMany s_beganMany s_seedNow s_keptHall s_keptArm s_keptBar s_keptSkips s_keptRecordMany s_hash s_page s_read s_rows s_sounds s_clapped s_now s_nowLong s_ahead s_records s_keptSounds s_keptClapped s_keptRecords) → va_S A s.heap H locs → lv_has ls 4 [(0, .ref q0), (1, .int p1), (2, .int p2)] → W p l e rX6_byLag s m args below meth c H locs 0 0 Q (F0 m 16 ls [.int u2]) := by
    intro H locs ls hP hD hS hl
    refine lv_istore_n (lv' := [(3, .int u2), (0, .ref q0), (1, .int p1), (2, .int p2)]) hx hb dX6_byLag_16 rfl hl (by decide) rfl (fun ls hl => ?_)
    refine lv_iload_n hx hb dX6_byLag_17 rfl (lv_at hl 0 rfl) ?_
    refine lv_if_eq (tgt := 30) hx hb dX6_byLag_18 (by decide) (fun c0 => ?_) (fun c0 => ?_)
    · have h := (if_pos c0).symm.trans h
      refine lv_iload_n hx hb dX6_byLag_30 rfl (lv_at hl 0 rfl) ?_
      refine lv_if_eq (tgt := 43) hx hb dX6_byLag_31 (by decide) (fun c0 => ?_) (fun c0 => ?_)
      · have h := (if_pos c0).symm.trans h
        refine lv_iload_n hx hb dX6_byLag_43 rfl (lv_at hl 3 rfl) ?_
        have h := Option.some.inj h
        subst h
        exact hRet _ _ _ _ hP hD hS dX6_byLag_44
      · have h := (if_neg c0).symm.trans h
        refine lv_iload_n hx hb dX6_byLag_34 rfl (lv_at hl 3 rfl) ?_
        refine lv_iconst (v := 2) hx hb dX6_byLag_35 (by decide) ?_
        refine lv_icmp_ne (tgt := 43) hx hb dX6_byLag_36 (by decide) (fun c0 => ?_) (fun c0 => ?_)
        · have h := (if_neg c0).symm.trans h
          refine lv_iload_n hx hb dX6_byLag_43 rfl (lv_at hl 3 rfl) ?_
          have h := Option.some.inj h
          subst h
          exact hRet _ _ _ _ hP hD hS dX6_byLag_44
        · have h := (if_pos c0).symm.trans h
          refine lv_iconst (v := 1) hx hb dX6_byLag_39 (by decide) ?_
          refine lv_goto (tgt := 44) hx hb dX6_byLag_40 (by decide) ?_
          have h := Option.some.inj h
          subst h
          exact hRet _ _ _ _ hP hD hS dX6_byLag_44
    · have h := (if_neg c0).symm.trans h
      refine lv_iload_n hx hb dX6_byLag_21 rfl (lv_at hl 3 rfl) ?_
      refine lv_iconst (v := 1) hx hb dX6_byLag_22 (by decide) ?_
      refine lv_icmp_ne (tgt := 30) hx hb dX6_byLag_23 (by decide) (fun c0 => ?_) (fun c0 => ?_)
      · have h := (if_neg c0).symm.trans h
        refine lv_iload_n hx hb dX6_byLag_30 rfl (lv_at hl 0 rfl) ?_
        refine lv_if_eq (tgt := 43) hx hb dX6_byLag_31 (by decide) (fun c0 => ?_) (fun c0 => ?_)
        · have h := (if_pos c0).symm.trans h
          refine lv_iload_n hx hb dX6_byLag_43 rfl (lv_at hl 3 rfl) ?_
          have h := Option.some.inj h
          subst h
          exact hRet _ _ _ _ hP hD hS dX6_byLag_44
        · have h := (if_neg c0).symm.trans h
          refine lv_iload_n hx hb dX6_byLag_34 rfl (lv_at hl 3 rfl) ?_
          refine lv_iconst (v := 2) hx hb dX6_byLag_35 (by decide) ?_
          refine lv_icmp_ne (tgt := 43) hx hb dX6_byLag_36 (by decide) (fun c0 => ?_) (fun c0 => ?_)
          · have h := (if_neg c0).symm.trans h
            refine lv_iload_n hx hb dX6_byLag_43 rfl (lv_at hl 3 rfl) ?_
            have h := Option.some.inj h
            subst h
            exact hRet _ _ _ _ hP hD hS dX6_byLag_44
          · have h := (if_pos c0).symm.trans h
            refine lv_iconst (v := 1) hx hb dX6_byLag_39 (by decide) ?_
            refine lv_goto (tgt := 44) hx hb dX6_byLag_40 (by decide) ?_
            have h := Option.some.inj h
            subst h
            exact hRet _ _ _ _ hP hD hS dX6_byLag_44
      · have h := (if_pos c0).symm.trans h
        refine lv_iconst (v := 2) hx hb dX6_byLag_26 (by decide) ?_
        refine lv_goto (tgt := 44) hx hb dX6_byLag_27 (by decide) ?_
        have h := Option.some.inj h
        subst h
        exact hRet _ _ _ _ hP hD hS dX6_byLag_44
  clear h
  have h := hu2
  refine lv_icmp_ne (tgt := 15) hx hb dX6_byLag_8 (by decide) (fun c0 => ?_) (fun c0 => ?_)
  · have h := (if_neg c0).symm.trans h
    refine lv_iconst (v := 0) hx hb dX6_byLag_15 (by decide) ?_
    have h := Option.some.inj h
    subst h
    exact J2 _ _ _ hP hD hS (lv_sub hl [0, 1, 2] rfl)
  · have h := (if_pos c0).symm.trans h
    refine lv_iconst (v := 1) hx hb dX6_byLag_11 (by decide) ?_
    refine lv_goto (tgt := 16) hx hb dX6_byLag_12 (by decide) ?_
    have h := Option.some.inj h
    subst h
    exact J2 _ _ _ hP hD hS (lv_sub hl [0, 1, 2] rfl)
theorem iX6_isTired_X6 : ∀ w ∈ wsX60, w ∈ wsX6_isTired := by decide +kernel
def rX6_isTired_clapped : Room := { frames := 0, cells := 0, slots := 0, locals := 0 }
set_option maxHeartbeats 4000000 in
set_option maxRecDepth 100000 in
theorem mX6_isTired_clapped (l : Launch) (D : va_G) (cI : ClassId) (ad : Nat × Nat) (q0 q1 q2 q3 q4 q5 q6 q7 q8 q9 q10 q11 q12 : Nat) (sz : Nat) (s_pageMany : Int32) (s_readMany : Int32) (s_readLate : Int32) (s_state : Int32) (s_many : Int32) (s_late : Int32) (s_armNow : Int32) (s_barNow : Int32) (s_skips : Int32) (s_hallsRead : Int32) (s_nowArm : Int32) (s_turnedMany : Int32) (s_recordMany : Int32) (s_beganMany : Int32) (s_seedNow : Int32) (s_keptHall : Int32) (s_keptArm : Int32) (s_keptBar : Int32) (s_keptSkips : Int32) (s_keptRecordMany : Int32) (s_hash : Int64) (s_page : (Nat → Int32)) (s_read : (Nat → Int32)) (s_rows : (Nat → Int32)) (s_sounds : (Nat → Int32)) (s_clapped : (Nat → Int32)) (s_now : (Nat → Int32)) (s_nowLong : (Nat → Int32)) (s_ahead : (Nat → Int32)) (s_records : (Nat → Int32)) (s_keptSounds : (Nat → Int32)) (s_keptClapped : (Nat → Int32)) (s_keptRecords : (Nat → Int32)) (p2 : Int32) (r : Int32) (h : fX6_isTired_clapped s_rows s_clapped p2 = some r) : Met l yX6_isTired wsX6_isTired rX6_isTired_clapped (kPre D cI ad [.ref q0, .ref q5, .int p2] (wM cI q0 q1 q2 q3 q4 q5 q6 q7 q8 q9 q10 q11 q12 s_pageMany s_readMany s_readLate s_state s_many s_late s_armNow s_barNow s_skips s_hallsRead s_nowArm s_turnedMany s_recordMany s_beganMany s_seedNow s_keptHall s_keptArm s_keptBar s_keptSkips s_keptRecordMany s_hash s_page s_read s_rows s_sounds s_clapped s_now s_nowLong s_ahead s_records s_keptSounds s_keptClapped s_keptRecords) sz) (kQi D cI r (wM cI q0 q1 q2 q3 q4 q5 q6 q7 q8 q9 q10 q11 q12 s_pageMany s_readMany s_readLate s_state s_many s_late s_armNow s_barNow s_skips s_hallsRead s_nowArm s_turnedMany s_recordMany s_beganMany s_seedNow s_keptHall s_keptArm s_keptBar s_keptSkips s_keptRecordMany s_hash s_page s_read s_rows s_sounds s_clapped s_now s_nowLong s_ahead s_records s_keptSounds s_keptClapped s_keptRecords) (va_A (wM cI q0 q1 q2 q3 q4 q5 q6 q7 q8 q9 q10 q11 q12 s_pageMany s_readMany s_readLate s_state s_many s_late s_armNow s_barNow s_skips s_hallsRead s_nowArm s_turnedMany s_recordMany s_beganMany s_seedNow s_keptHall s_keptArm s_keptBar s_keptSkips s_keptRecordMany s_hash s_page s_read s_rows s_sounds s_clapped s_now s_nowLong s_ahead s_records s_keptSounds s_keptClapped s_keptRecords) sz)) 0 0 (va_A (wM cI q0 q1 q2 q3 q4 q5 q6 q7 q8 q9 q10 q11 q12 s_pageMany s_readMany s_readLate s_state s_many s_late s_armNow s_barNow s_skips s_hallsRead s_nowArm s_turnedMany s_recordMany s_beganMany s_seedNow s_keptHall s_keptArm s_keptBar s_keptSkips s_keptRecordMany s_hash s_page s_read s_rows s_sounds s_clapped s_now s_nowLong s_ahead s_records s_keptSounds s_keptClapped s_keptRecords) sz) := by
  refine kStart (cc := cX6_isTired) (maxL := 3) (ret := (some .boolean)) (Qc := fun A => kQi D cI r (wM cI q0 q1 q2 q3 q4 q5 q6 q7 q8 q9 q10 q11 q12 s_pageMany s_readMany s_readLate s_state s_many s_late s_armNow s_barNow s_skips s_hallsRead s_nowArm s_turnedMany s_recordMany s_beganMany s_seedNow s_keptHall s_keptArm s_keptBar s_keptSkips s_keptRecordMany s_hash s_page s_read s_rows s_sounds s_clapped s_now s_nowLong s_ahead s_records s_keptSounds s_keptClapped s_keptRecords) A) (by decide) rfl (Nat.le_of_ble_eq_true rfl) ?_
  intro p e s m args below meth c A ls hx hb hr hts hown hlocks hin hml hN hST hA hS hP hK hD hl
  have hown : s.vm.findClass RX6 = some m.cls := hown
  have hl : lv_has ls 3 [(0, .ref q0), (1, .ref q5), (2, .int p2)] := hl
  have hRet : ∀ (H : Heap) (locs : List Loc) (ls : Array Slot) (pc : Nat), narrow .boolean (.int r) = .int r → va_P D vwCl (wM cI q0 q1 q2 q3 q4 q5 q6 q7 q8 q9 q10 q11 q12 s_pageMany s_readMany s_readLate s_state s_many s_late s_armNow s_barNow s_skips s_hallsRead s_nowArm s_turnedMany s_recordMany s_beganMany s_seedNow s_keptHall s_keptArm s_keptBar s_keptSkips s_keptRecordMany s_hash s_page s_read s_rows s_sounds s_clapped s_now s_nowLong s_ahead s_records s_keptSounds s_keptClapped s_keptRecords) H → va_D A (wM cI q0 q1 q2 q3 q4 q5 q6 q7 q8 q9 q10 q11 q12 s_pageMany s_readMany s_readLate s_state s_many s_late s_armNow s_barNow s_skips s_hallsRead s_nowArm s_turnedMany s_recordMany s_beganMany s_seedNow s_keptHall s_keptArm s_keptBar s_keptSkips s_keptRecordMany s_hash s_page s_read s_rows s_sounds s_clapped s_now s_nowLong s_ahead s_records s_keptSounds s_keptClapped s_keptRecords) → va_S A s.heap H locs → decode cX6_isTired pc = .ok (.ireturn, 1) → W p l e rX6_isTired_clapped s m args below meth c H locs 0 0 (MQ below (kQi D cI r (wM cI q0 q1 q2 q3 q4 q5 q6 q7 q8 q9 q10 q11 q12 s_pageMany s_readMany s_readLate s_state s_many s_late s_armNow s_barNow s_skips s_hallsRead s_nowArm s_turnedMany s_recordMany s_beganMany s_seedNow s_keptHall s_keptArm s_keptBar s_keptSkips s_keptRecordMany s_hash s_page s_read s_rows s_sounds s_clapped s_now s_nowLong s_ahead s_records s_keptSounds s_keptClapped s_keptRecords) A) args s 0 0 A) (F0 m pc ls [.int r]) := fun H locs ls pc hz hP hD hS hd => k_zret hx hb hr hlocks hK hz hP hD hS hd
  generalize MQ below (kQi D cI r (wM cI q0 q1 q2 q3 q4 q5 q6 q7 q8 q9 q10 q11 q12 s_pageMany s_readMany s_readLate s_state s_many s_late s_armNow s_barNow s_skips s_hallsRead s_nowArm s_turnedMany s_recordMany s_beganMany s_seedNow s_keptHall s_keptArm s_keptBar s_keptSkips s_keptRecordMany s_hash s_page s_read s_rows s_sounds s_clapped s_now s_nowLong s_ahead s_records s_keptSounds s_keptClapped s_keptRecords) A) args s 0 0 A = Q at hRet ⊢
  unfold fX6_isTired_clapped at h
  refine lv_aload_n hx hb dX6_isTired_0 rfl (lv_at hl 0 rfl) ?_
  refine va_get (D := D) (ci := 6) (v := .ref q3) (C := RX6) (T := TX6) (N := 33) hx hb hts iX6_isTired_X6 hown hK hP 0 rfl rfl 12 (by decide) (hts (.fieldLink RX6 16 "ClappedWrongModel" "rows" "[I") (by decide +kernel)) (fun _ h9 => h9) rfl dX6_isTired_1 ?_
  refine lv_iconst (v := 3) hx hb dX6_isTired_4 (by decide) ?_
  refine lv_iload_n hx hb dX6_isTired_5 rfl (lv_at hl 2 rfl) ?_
  refine lv_imul hx hb dX6_isTired_6 ?_
  refine lv_iconst (v := 2) hx hb dX6_isTired_7 (by decide) ?_
  refine lv_iadd hx hb dX6_isTired_8 ?_
  refine k_iald hx hb hK hP 3 rfl dX6_isTired_9 h (fun v1 h => ?_)
  refine lv_if_le (tgt := 33) hx hb dX6_isTired_10 (by decide) (fun c0 => ?_) (fun c0 => ?_)
  · have h := (if_pos c0).symm.trans h
    refine lv_iconst (v := 0) hx hb dX6_isTired_33 (by decide) ?_
    have h := Option.some.inj h
    subst h
    exact hRet _ _ _ _ kn_bo0 hP hD hS dX6_isTired_34
  · have h := (if_neg c0).symm.trans h
    refine lv_aload_n hx hb dX6_isTired_13 rfl (lv_at hl 1 rfl) ?_
    refine lv_iload_n hx hb dX6_isTired_14 rfl (lv_at hl 2 rfl) ?_
    refine k_iald hx hb hK hP 5 rfl dX6_isTired_15 h (fun v2 h => ?_)
    refine lv_aload_n hx hb dX6_isTired_16 rfl (lv_at hl 0 rfl) ?_
    refine va_get (D := D) (ci := 6) (v := .ref q3) (C := RX6) (T := TX6) (N := 33) hx hb hts iX6_isTired_X6 hown hK hP 0 rfl rfl 12 (by decide) (hts (.fieldLink RX6 16 "ClappedWrongModel" "rows" "[I") (by decide +kernel)) (fun _ h9 => h9) rfl dX6_isTired_17 ?_
    refine lv_iconst (v := 3) hx hb dX6_isTired_20 (by decide) ?_
    refine lv_iload_n hx hb dX6_isTired_21 rfl (lv_at hl 2 rfl) ?_
    refine lv_imul hx hb dX6_isTired_22 ?_
    refine lv_iconst (v := 2) hx hb dX6_isTired_23 (by decide) ?_
    refine lv_iadd hx hb dX6_isTired_24 ?_
    refine k_iald hx hb hK hP 3 rfl dX6_isTired_25 h (fun v3 h => ?_)
    refine lv_icmp_lt (tgt := 33) hx hb dX6_isTired_26 (by decide) (fun c0 => ?_) (fun c0 => ?_)
    · have h := (if_pos c0).symm.trans h
      refine lv_iconst (v := 0) hx hb dX6_isTired_33 (by decide) ?_
      have h := Option.some.inj h
      subst h
      exact hRet _ _ _ _ kn_bo0 hP hD hS dX6_isTired_34
    · have h := (if_neg c0).symm.trans h
      refine lv_iconst (v := 1) hx hb dX6_isTired_29 (by decide) ?_
      refine lv_goto (tgt := 34) hx hb dX6_isTired_30 (by decide) ?_
      have h := Option.some.inj h
      subst h
      exact hRet _ _ _ _ kn_bo1 hP hD hS dX6_isTired_34
def rX6_isTired_nowLong : Room := { frames := 0, cells := 0, slots := 0, locals := 0 }
set_option maxHeartbeats 4000000 in
set_option maxRecDepth 100000 in
theorem mX6_isTired_nowLong (l : Launch) (D : va_G) (cI : ClassId) (ad : Nat × Nat) (q0 q1 q2 q3 q4 q5 q6 q7 q8 q9 q10 q11 q12 : Nat) (sz : Nat) (s_pageMany : Int32) (s_readMany : Int32) (s_readLate : Int32) (s_state : Int32) (s_many : Int32) (s_late : Int32) (s_armNow : Int32) (s_barNow : Int32) (s_skips : Int32) (s_hallsRead : Int32) (s_nowArm : Int32) (s_turnedMany : Int32) (s_recordMany : Int32) (s_beganMany : Int32) (s_seedNow : Int32) (s_keptHall : Int32) (s_keptArm : Int32) (s_keptBar : Int32) (s_keptSkips : Int32) (s_keptRecordMany : Int32) (s_hash : Int64) (s_page : (Nat → Int32)) (s_read : (Nat → Int32)) (s_rows : (Nat → Int32)) (s_sounds : (Nat → Int32)) (s_clapped : (Nat → Int32)) (s_now : (Nat → Int32)) (s_nowLong : (Nat → Int32)) (s_ahead : (Nat → Int32)) (s_records : (Nat → Int32)) (s_keptSounds : (Nat → Int32)) (s_keptClapped : (Nat → Int32)) (s_keptRecords : (Nat → Int32)) (p2 : Int32) (r : Int32) (h : fX6_isTired_nowLong s_rows s_nowLong p2 = some r) : Met l yX6_isTired wsX6_isTired rX6_isTired_nowLong (kPre D cI ad [.ref q0, .ref q7, .int p2] (wM cI q0 q1 q2 q3 q4 q5 q6 q7 q8 q9 q10 q11 q12 s_pageMany s_readMany s_readLate s_state s_many s_late s_armNow s_barNow s_skips s_hallsRead s_nowArm s_turnedMany s_recordMany s_beganMany s_seedNow s_keptHall s_keptArm s_keptBar s_keptSkips s_keptRecordMany s_hash s_page s_read s_rows s_sounds s_clapped s_now s_nowLong s_ahead s_records s_keptSounds s_keptClapped s_keptRecords) sz) (kQi D cI r (wM cI q0 q1 q2 q3 q4 q5 q6 q7 q8 q9 q10 q11 q12 s_pageMany s_readMany s_readLate s_state s_many s_late s_armNow s_barNow s_skips s_hallsRead s_nowArm s_turnedMany s_recordMany s_beganMany s_seedNow s_keptHall s_keptArm s_keptBar s_keptSkips s_keptRecordMany s_hash s_page s_read s_rows s_sounds s_clapped s_now s_nowLong s_ahead s_records s_keptSounds s_keptClapped s_keptRecords) (va_A (wM cI q0 q1 q2 q3 q4 q5 q6 q7 q8 q9 q10 q11 q12 s_pageMany s_readMany s_readLate s_state s_many s_late s_armNow s_barNow s_skips s_hallsRead s_nowArm s_turnedMany s_recordMany s_beganMany s_seedNow s_keptHall s_keptArm s_keptBar s_keptSkips s_keptRecordMany s_hash s_page s_read s_rows s_sounds s_clapped s_now s_nowLong s_ahead s_records s_keptSounds s_keptClapped s_keptRecords) sz)) 0 0 (va_A (wM cI q0 q1 q2 q3 q4 q5 q6 q7 q8 q9 q10 q11 q12 s_pageMany s_readMany s_readLate s_state s_many s_late s_armNow s_barNow s_skips s_hallsRead s_nowArm s_turnedMany s_recordMany s_beganMany s_seedNow s_keptHall s_keptArm s_keptBar s_keptSkips s_keptRecordMany s_hash s_page s_read s_rows s_sounds s_clapped s_now s_nowLong s_ahead s_records s_keptSounds s_keptClapped s_keptRecords) sz) := by
  refine kStart (cc := cX6_isTired) (maxL := 3) (ret := (some .boolean)) (Qc := fun A => kQi D cI r (wM cI q0 q1 q2 q3 q4 q5 q6 q7 q8 q9 q10 q11 q12 s_pageMany s_readMany s_readLate s_state s_many s_late s_armNow s_barNow s_skips s_hallsRead s_nowArm s_turnedMany s_recordMany s_beganMany s_seedNow s_keptHall s_keptArm s_keptBar s_keptSkips s_keptRecordMany s_hash s_page s_read s_rows s_sounds s_clapped s_now s_nowLong s_ahead s_records s_keptSounds s_keptClapped s_keptRecords) A) (by decide) rfl (Nat.le_of_ble_eq_true rfl) ?_
  intro p e s m args below meth c A ls hx hb hr hts hown hlocks hin hml hN hST hA hS hP hK hD hl
  have hown : s.vm.findClass RX6 = some m.cls := hown
  have hl : lv_has ls 3 [(0, .ref q0), (1, .ref q7), (2, .int p2)] := hl
  have hRet : ∀ (H : Heap) (locs : List Loc) (ls : Array Slot) (pc : Nat), narrow .boolean (.int r) = .int r → va_P D vwCl (wM cI q0 q1 q2 q3 q4 q5 q6 q7 q8 q9 q10 q11 q12 s_pageMany s_readMany s_readLate s_state s_many s_late s_armNow s_barNow s_skips s_hallsRead s_nowArm s_turnedMany s_recordMany s_beganMany s_seedNow s_keptHall s_keptArm s_keptBar s_keptSkips s_keptRecordMany s_hash s_page s_read s_rows s_sounds s_clapped s_now s_nowLong s_ahead s_records s_keptSounds s_keptClapped s_keptRecords) H → va_D A (wM cI q0 q1 q2 q3 q4 q5 q6 q7 q8 q9 q10 q11 q12 s_pageMany s_readMany s_readLate s_state s_many s_late s_armNow s_barNow s_skips s_hallsRead s_nowArm s_turnedMany s_recordMany s_beganMany s_seedNow s_keptHall s_keptArm s_keptBar s_keptSkips s_keptRecordMany s_hash s_page s_read s_rows s_sounds s_clapped s_now s_nowLong s_ahead s_records s_keptSounds s_keptClapped s_keptRecords) → va_S A s.heap H locs → decode cX6_isTired pc = .ok (.ireturn, 1) → W p l e rX6_isTired_nowLong s m args below meth c H locs 0 0 (MQ below (kQi D cI r (wM cI q0 q1 q2 q3 q4 q5 q6 q7 q8 q9 q10 q11 q12 s_pageMany s_readMany s_readLate s_state s_many s_late s_armNow s_barNow s_skips s_hallsRead s_nowArm s_turnedMany s_recordMany s_beganMany s_seedNow s_keptHall s_keptArm s_keptBar s_keptSkips s_keptRecordMany s_hash s_page s_read s_rows s_sounds s_clapped s_now s_nowLong s_ahead s_records s_keptSounds s_keptClapped s_keptRecords) A) args s 0 0 A) (F0 m pc ls [.int r]) := fun H locs ls pc hz hP hD hS hd => k_zret hx hb hr hlocks hK hz hP hD hS hd
  generalize MQ below (kQi D cI r (wM cI q0 q1 q2 q3 q4 q5 q6 q7 q8 q9 q10 q11 q12 s_pageMany s_readMany s_readLate s_state s_many s_late s_armNow s_barNow s_skips s_hallsRead s_nowArm s_turnedMany s_recordMany s_beganMany s_seedNow s_keptHall s_keptArm s_keptBar s_keptSkips s_keptRecordMany s_hash s_page s_read s_rows s_sounds s_clapped s_now s_nowLong s_ahead s_records s_keptSounds s_keptClapped s_keptRecords) A) args s 0 0 A = Q at hRet ⊢
  unfold fX6_isTired_nowLong at h
  refine lv_aload_n hx hb dX6_isTired_0 rfl (lv_at hl 0 rfl) ?_
  refine va_get (D := D) (ci := 6) (v := .ref q3) (C := RX6) (T := TX6) (N := 33) hx hb hts iX6_isTired_X6 hown hK hP 0 rfl rfl 12 (by decide) (hts (.fieldLink RX6 16 "ClappedWrongModel" "rows" "[I") (by decide +kernel)) (fun _ h9 => h9) rfl dX6_isTired_1 ?_
  refine lv_iconst (v := 3) hx hb dX6_isTired_4 (by decide) ?_
  refine lv_iload_n hx hb dX6_isTired_5 rfl (lv_at hl 2 rfl) ?_
  refine lv_imul hx hb dX6_isTired_6 ?_
  refine lv_iconst (v := 2) hx hb dX6_isTired_7 (by decide) ?_
  refine lv_iadd hx hb dX6_isTired_8 ?_
  refine k_iald hx hb hK hP 3 rfl dX6_isTired_9 h (fun v1 h => ?_)
  refine lv_if_le (tgt := 33) hx hb dX6_isTired_10 (by decide) (fun c0 => ?_) (fun c0 => ?_)
  · have h := (if_pos c0).symm.trans h
    refine lv_iconst (v := 0) hx hb dX6_isTired_33 (by decide) ?_
    have h := Option.some.inj h
    subst h
    exact hRet _ _ _ _ kn_bo0 hP hD hS dX6_isTired_34
  · have h := (if_neg c0).symm.trans h
    refine lv_aload_n hx hb dX6_isTired_13 rfl (lv_at hl 1 rfl) ?_
    refine lv_iload_n hx hb dX6_isTired_14 rfl (lv_at hl 2 rfl) ?_
    refine k_iald hx hb hK hP 7 rfl dX6_isTired_15 h (fun v2 h => ?_)
    refine lv_aload_n hx hb dX6_isTired_16 rfl (lv_at hl 0 rfl) ?_
    refine va_get (D := D) (ci := 6) (v := .ref q3) (C := RX6) (T := TX6) (N := 33) hx hb hts iX6_isTired_X6 hown hK hP 0 rfl rfl 12 (by decide) (hts (.fieldLink RX6 16 "ClappedWrongModel" "rows" "[I") (by decide +kernel)) (fun _ h9 => h9) rfl dX6_isTired_17 ?_
    refine lv_iconst (v := 3) hx hb dX6_isTired_20 (by decide) ?_
    refine lv_iload_n hx hb dX6_isTired_21 rfl (lv_at hl 2 rfl) ?_
    refine lv_imul hx hb dX6_isTired_22 ?_
    refine lv_iconst (v := 2) hx hb dX6_isTired_23 (by decide) ?_
    refine lv_iadd hx hb dX6_isTired_24 ?_
    refine k_iald hx hb hK hP 3 rfl dX6_isTired_25 h (fun v3 h => ?_)
    refine lv_icmp_lt (tgt := 33) hx hb dX6_isTired_26 (by decide) (fun c0 => ?_) (fun c0 => ?_)
    · have h := (if_pos c0).symm.trans h
      refine lv_iconst (v := 0) hx hb dX6_isTired_33 (by decide) ?_
      have h := Option.some.inj h
      subst h
      exact hRet _ _ _ _ kn_bo0 hP hD hS dX6_isTired_34
    · have h := (if_neg c0).symm.trans h
      refine lv_iconst (v := 1) hx hb dX6_isTired_29 (by decide) ?_
      refine lv_goto (tgt := 34) hx hb dX6_isTired_30 (by decide) ?_
      have h := Option.some.inj h
      subst h
      exact hRet _ _ _ _ kn_bo1 hP hD hS dX6_isTired_34
theorem iX6_tell_X6 : ∀ w ∈ wsX60, w ∈ wsX6_tell := by decide +kernel
def rX6_tell : Room := { frames := 2, cells := 0, slots := 0, locals := 44 }
set_option maxHeartbeats 4000000 in
set_option maxRecDepth 100000 in
theorem mX6_tell (l : Launch) (D : va_G) (cI : ClassId) (ad : Nat × Nat) (q0 q1 q2 q3 q4 q5 q6 q7 q8 q9 q10 q11 q12 : Nat) (sz : Nat) (s_pageMany : Int32) (s_readMany : Int32) (s_readLate : Int32) (s_state : Int32) (s_many : Int32) (s_late : Int32) (s_armNow : Int32) (s_barNow : Int32) (s_skips : Int32) (s_hallsRead : Int32) (s_nowArm : Int32) (s_turnedMany : Int32) (s_recordMany : Int32) (s_beganMany : Int32) (s_seedNow : Int32) (s_keptHall : Int32) (s_keptArm : Int32) (s_keptBar : Int32) (s_keptSkips : Int32) (s_keptRecordMany : Int32) (s_hash : Int64) (s_page : (Nat → Int32)) (s_read : (Nat → Int32)) (s_rows : (Nat → Int32)) (s_sounds : (Nat → Int32)) (s_clapped : (Nat → Int32)) (s_now : (Nat → Int32)) (s_nowLong : (Nat → Int32)) (s_ahead : (Nat → Int32)) (s_records : (Nat → Int32)) (s_keptSounds : (Nat → Int32)) (s_keptClapped : (Nat → Int32)) (s_keptRecords : (Nat → Int32)) (p1 : Int32) (p2 : Int32) (r : Int32) (h : fX6_tell s_late s_armNow s_rows s_sounds s_clapped p1 p2 = some r) : Met l yX6_tell wsX6_tell rX6_tell (kPre D cI ad [.ref q0, .int p1, .int p2] (wM cI q0 q1 q2 q3 q4 q5 q6 q7 q8 q9 q10 q11 q12 s_pageMany s_readMany s_readLate s_state s_many s_late s_armNow s_barNow s_skips s_hallsRead s_nowArm s_turnedMany s_recordMany s_beganMany s_seedNow s_keptHall s_keptArm s_keptBar s_keptSkips s_keptRecordMany s_hash s_page s_read s_rows s_sounds s_clapped s_now s_nowLong s_ahead s_records s_keptSounds s_keptClapped s_keptRecords) sz) (kQi D cI r (wM cI q0 q1 q2 q3 q4 q5 q6 q7 q8 q9 q10 q11 q12 s_pageMany s_readMany s_readLate s_state s_many s_late s_armNow s_barNow s_skips s_hallsRead s_nowArm s_turnedMany s_recordMany s_beganMany s_seedNow s_keptHall s_keptArm s_keptBar s_keptSkips s_keptRecordMany s_hash s_page s_read s_rows s_sounds s_clapped s_now s_nowLong s_ahead s_records s_keptSounds s_keptClapped s_keptRecords) (va_A (wM cI q0 q1 q2 q3 q4 q5 q6 q7 q8 q9 q10 q11 q12 s_pageMany s_readMany s_readLate s_state s_many s_late s_armNow s_barNow s_skips s_hallsRead s_nowArm s_turnedMany s_recordMany s_beganMany s_seedNow s_keptHall s_keptArm s_keptBar s_keptSkips s_keptRecordMany s_hash s_page s_read s_rows s_sounds s_clapped s_now s_nowLong s_ahead s_records s_keptSounds s_keptClapped s_keptRecords) sz)) 0 0 (va_A (wM cI q0 q1 q2 q3 q4 q5 q6 q7 q8 q9 q10 q11 q12 s_pageMany s_readMany s_readLate s_state s_many s_late s_armNow s_barNow s_skips s_hallsRead s_nowArm s_turnedMany s_recordMany s_beganMany s_seedNow s_keptHall s_keptArm s_keptBar s_keptSkips s_keptRecordMany s_hash s_page s_read s_rows s_sounds s_clapped s_now s_nowLong s_ahead s_records s_keptSounds s_keptClapped s_keptRecords) sz) := by
  refine kStart (cc := cX6_tell) (maxL := 3) (ret := (some .int)) (Qc := fun A => kQi D cI r (wM cI q0 q1 q2 q3 q4 q5 q6 q7 q8 q9 q10 q11 q12 s_pageMany s_readMany s_readLate s_state s_many s_late s_armNow s_barNow s_skips s_hallsRead s_nowArm s_turnedMany s_recordMany s_beganMany s_seedNow s_keptHall s_keptArm s_keptBar s_keptSkips s_keptRecordMany s_hash s_page s_read s_rows s_sounds s_clapped s_now s_nowLong s_ahead s_records s_keptSounds s_keptClapped s_keptRecords) A) (by decide) rfl (Nat.le_of_ble_eq_true rfl) ?_
  intro p e s m args below meth c A ls hx hb hr hts hown hlocks hin hml hN hST hA hS hP hK hD hl
  have hown : s.vm.findClass RX6 = some m.cls := hown
  have hl : lv_has ls 3 [(0, .ref q0), (1, .int p1), (2, .int p2)] := hl
  have hRet : ∀ (H : Heap) (locs : List Loc) (ls : Array Slot) (pc : Nat), va_P D vwCl (wM cI q0 q1 q2 q3 q4 q5 q6 q7 q8 q9 q10 q11 q12 s_pageMany s_readMany s_readLate s_state s_many s_late s_armNow s_barNow s_skips s_hallsRead s_nowArm s_turnedMany s_recordMany s_beganMany s_seedNow s_keptHall s_keptArm s_keptBar s_keptSkips s_keptRecordMany s_hash s_page s_read s_rows s_sounds s_clapped s_now s_nowLong s_ahead s_records s_keptSounds s_keptClapped s_keptRecords) H → va_D A (wM cI q0 q1 q2 q3 q4 q5 q6 q7 q8 q9 q10 q11 q12 s_pageMany s_readMany s_readLate s_state s_many s_late s_armNow s_barNow s_skips s_hallsRead s_nowArm s_turnedMany s_recordMany s_beganMany s_seedNow s_keptHall s_keptArm s_keptBar s_keptSkips s_keptRecordMany s_hash s_page s_read s_rows s_sounds s_clapped s_now s_nowLong s_ahead s_records s_keptSounds s_keptClapped s_keptRecords) → va_S A s.heap H locs → decode cX6_tell pc = .ok (.ireturn, 1) → W p l e rX6_tell s m args below meth c H locs 0 0 (MQ below (kQi D cI r (wM cI q0 q1 q2 q3 q4 q5 q6 q7 q8 q9 q10 q11 q12 s_pageMany s_readMany s_readLate s_state s_many s_late s_armNow s_barNow s_skips s_hallsRead s_nowArm s_turnedMany s_recordMany s_beganMany s_seedNow s_keptHall s_keptArm s_keptBar s_keptSkips s_keptRecordMany s_hash s_page s_read s_rows s_sounds s_clapped s_now s_nowLong s_ahead s_records s_keptSounds s_keptClapped s_keptRecords) A) args s 0 0 A) (F0 m pc ls [.int r]) := fun H locs ls pc hP hD hS hd => k_iret hx hb hr hlocks hK hP hD hS hd
  generalize MQ below (kQi D cI r (wM cI q0 q1 q2 q3 q4 q5 q6 q7 q8 q9 q10 q11 q12 s_pageMany s_readMany s_readLate s_state s_many s_late s_armNow s_barNow s_skips s_hallsRead s_nowArm s_turnedMany s_recordMany s_beganMany s_seedNow s_keptHall s_keptArm s_keptBar s_keptSkips s_keptRecordMany s_hash s_page s_read s_rows s_sounds s_clapped s_now s_nowLong s_ahead s_records s_keptSounds s_keptClapped s_keptRecords) A) args s 0 0 A = Q at hRet ⊢
  unfold fX6_tell at h
  refine lv_iload_n hx hb dX6_tell_0 rfl (lv_at hl 2 rfl) ?_
  by_cases c1_0 : p2 = (0 : Int32)
  · have h := (if_pos c1_0).symm.trans h
    refine lv_tableIn (off := 51) (tgt := 52) hx hb dX6_tell_1 (by rw [c1_0]; decide) (by rw [c1_0]; decide) (by rw [c1_0]; rfl) (by decide) ?_
    refine lv_aload_n hx hb dX6_tell_52 rfl (lv_at hl 0 rfl) ?_
    refine va_get (D := D) (ci := 6) (v := .ref q3) (C := RX6) (T := TX6) (N := 33) hx hb hts iX6_tell_X6 hown hK hP 0 rfl rfl 12 (by decide) (hts (.fieldLink RX6 16 "ClappedWrongModel" "rows" "[I") (by decide +kernel)) (fun _ h9 => h9) rfl dX6_tell_53 ?_
    refine lv_iconst (v := 3) hx hb dX6_tell_56 (by decide) ?_
    refine lv_iload_n hx hb dX6_tell_57 rfl (lv_at hl 1 rfl) ?_
    refine lv_imul hx hb dX6_tell_58 ?_
    refine lv_iload_n hx hb dX6_tell_59 rfl (lv_at hl 2 rfl) ?_
    refine lv_iadd hx hb dX6_tell_60 ?_
    refine k_iald hx hb hK hP 3 rfl dX6_tell_61 h (fun v9 h => ?_)
    have h := Option.some.inj h
    subst h
    exact hRet _ _ _ _ hP hD hS dX6_tell_62
  · have h := (if_neg c1_0).symm.trans h
    by_cases c1_1 : p2 = (1 : Int32)
    · have h := (if_pos c1_1).symm.trans h
      refine lv_tableIn (off := 51) (tgt := 52) hx hb dX6_tell_1 (by rw [c1_1]; decide) (by rw [c1_1]; decide) (by rw [c1_1]; rfl) (by decide) ?_
      refine lv_aload_n hx hb dX6_tell_52 rfl (lv_at hl 0 rfl) ?_
      refine va_get (D := D) (ci := 6) (v := .ref q3) (C := RX6) (T := TX6) (N := 33) hx hb hts iX6_tell_X6 hown hK hP 0 rfl rfl 12 (by decide) (hts (.fieldLink RX6 16 "ClappedWrongModel" "rows" "[I") (by decide +kernel)) (fun _ h9 => h9) rfl dX6_tell_53 ?_
      refine lv_iconst (v := 3) hx hb dX6_tell_56 (by decide) ?_
      refine lv_iload_n hx hb dX6_tell_57 rfl (lv_at hl 1 rfl) ?_
      refine lv_imul hx hb dX6_tell_58 ?_
      refine lv_iload_n hx hb dX6_tell_59 rfl (lv_at hl 2 rfl) ?_
      refine lv_iadd hx hb dX6_tell_60 ?_
      refine k_iald hx hb hK hP 3 rfl dX6_tell_61 h (fun v8 h => ?_)
      have h := Option.some.inj h
      subst h
      exact hRet _ _ _ _ hP hD hS dX6_tell_62
    · have h := (if_neg c1_1).symm.trans h
      by_cases c1_2 : p2 = (2 : Int32)
      · have h := (if_pos c1_2).symm.trans h
        refine lv_tableIn (off := 51) (tgt := 52) hx hb dX6_tell_1 (by rw [c1_2]; decide) (by rw [c1_2]; decide) (by rw [c1_2]; rfl) (by decide) ?_
        refine lv_aload_n hx hb dX6_tell_52 rfl (lv_at hl 0 rfl) ?_
        refine va_get (D := D) (ci := 6) (v := .ref q3) (C := RX6) (T := TX6) (N := 33) hx hb hts iX6_tell_X6 hown hK hP 0 rfl rfl 12 (by decide) (hts (.fieldLink RX6 16 "ClappedWrongModel" "rows" "[I") (by decide +kernel)) (fun _ h9 => h9) rfl dX6_tell_53 ?_
        refine lv_iconst (v := 3) hx hb dX6_tell_56 (by decide) ?_
        refine lv_iload_n hx hb dX6_tell_57 rfl (lv_at hl 1 rfl) ?_
        refine lv_imul hx hb dX6_tell_58 ?_
        refine lv_iload_n hx hb dX6_tell_59 rfl (lv_at hl 2 rfl) ?_
        refine lv_iadd hx hb dX6_tell_60 ?_
        refine k_iald hx hb hK hP 3 rfl dX6_tell_61 h (fun v7 h => ?_)
        have h := Option.some.inj h
        subst h
        exact hRet _ _ _ _ hP hD hS dX6_tell_62
      · have h := (if_neg c1_2).symm.trans h
        by_cases c1_3 : p2 = (3 : Int32)
        · have h := (if_pos c1_3).symm.trans h
          refine lv_tableIn (off := 62) (tgt := 63) hx hb dX6_tell_1 (by rw [c1_3]; decide) (by rw [c1_3]; decide) (by rw [c1_3]; rfl) (by decide) ?_
          refine lv_aload_n hx hb dX6_tell_63 rfl (lv_at hl 0 rfl) ?_
          refine lv_iload_n hx hb dX6_tell_64 rfl (lv_at hl 1 rfl) ?_
          obtain ⟨u6, hu6, h⟩ := k_bs h
          refine k_ciA (r := u6) (k2 := 0) (n2 := 0) (ws := (wM cI q0 q1 q2 q3 q4 q5 q6 q7 q8 q9 q10 q11 q12 s_pageMany s_readMany s_readLate s_state s_many s_late s_armNow s_barNow s_skips s_hallsRead s_nowArm s_turnedMany s_recordMany s_beganMany s_seedNow s_keptHall s_keptArm s_keptBar s_keptSkips s_keptRecordMany s_hash s_page s_read s_rows s_sounds s_clapped s_now s_nowLong s_ahead s_records s_keptSounds s_keptClapped s_keptRecords)) (wc' := (wM cI q0 q1 q2 q3 q4 q5 q6 q7 q8 q9 q10 q11 q12 s_pageMany s_readMany s_readLate s_state s_many s_late s_armNow s_barNow s_skips s_hallsRead s_nowArm s_turnedMany s_recordMany s_beganMany s_seedNow s_keptHall s_keptArm s_keptBar s_keptSkips s_keptRecordMany s_hash s_page s_read s_rows s_sounds s_clapped s_now s_nowLong s_ahead s_records s_keptSounds s_keptClapped s_keptRecords)) (va_runV (C := RX6) (As := [.int p1]) (rest := []) ⟨hx, hb, hml, hown, hts⟩ (mX6_lagOf l D cI ad q0 q1 q2 q3 q4 q5 q6 q7 q8 q9 q10 q11 q12 _ s_pageMany s_readMany s_readLate s_state s_many s_late s_armNow s_barNow s_skips s_hallsRead s_nowArm s_turnedMany s_recordMany s_beganMany s_seedNow s_keptHall s_keptArm s_keptBar s_keptSkips s_keptRecordMany s_hash s_page s_read s_rows s_sounds s_clapped s_now s_nowLong s_ahead s_records s_keptSounds s_keptClapped s_keptRecords p1 u6 hu6) (cwV 1 hts gX6_tell_X6_lagOf rfl rfl rfl (by decide +kernel) ⟨Nat.le_of_ble_eq_true rfl, Nat.le_of_ble_eq_true rfl⟩) (k_preA (q := (RX6, TX6, 33)) hN hST hA hK hP hD hS 0 (ci := 6) rfl rfl) rfl rfl hl.1 rfl (lv_room (Nat.le_of_ble_eq_true rfl)) dX6_tell_65 ⟨Nat.le_of_ble_eq_true rfl, Nat.le_of_ble_eq_true rfl⟩) hP hD hS hA rfl rfl (fun H locs hP hD hS => ?_)
          have h := Option.some.inj h
          subst h
          exact hRet _ _ _ _ hP hD hS dX6_tell_68
        · have h := (if_neg c1_3).symm.trans h
          by_cases c1_4 : p2 = (4 : Int32)
          · have h := (if_pos c1_4).symm.trans h
            refine lv_tableIn (off := 68) (tgt := 69) hx hb dX6_tell_1 (by rw [c1_4]; decide) (by rw [c1_4]; decide) (by rw [c1_4]; rfl) (by decide) ?_
            refine lv_aload_n hx hb dX6_tell_69 rfl (lv_at hl 0 rfl) ?_
            refine va_get (D := D) (ci := 6) (v := .ref q4) (C := RX6) (T := TX6) (N := 33) hx hb hts iX6_tell_X6 hown hK hP 0 rfl rfl 13 (by decide) (hts (.fieldLink RX6 19 "ClappedWrongModel" "sounds" "[I") (by decide +kernel)) (fun _ h9 => h9) rfl dX6_tell_70 ?_
            refine lv_iload_n hx hb dX6_tell_73 rfl (lv_at hl 1 rfl) ?_
            refine k_iald hx hb hK hP 4 rfl dX6_tell_74 h (fun v5 h => ?_)
            have h := Option.some.inj h
            subst h
            exact hRet _ _ _ _ hP hD hS dX6_tell_75
          · have h := (if_neg c1_4).symm.trans h
            by_cases c1_5 : p2 = (5 : Int32)
            · have h := (if_pos c1_5).symm.trans h
              refine lv_tableIn (off := 75) (tgt := 76) hx hb dX6_tell_1 (by rw [c1_5]; decide) (by rw [c1_5]; decide) (by rw [c1_5]; rfl) (by decide) ?_
              refine lv_aload_n hx hb dX6_tell_76 rfl (lv_at hl 0 rfl) ?_
              refine lv_iload_n hx hb dX6_tell_77 rfl (lv_at hl 1 rfl) ?_
              refine lv_aload_n hx hb dX6_tell_78 rfl (lv_at hl 0 rfl) ?_
              refine va_get (D := D) (ci := 6) (v := .ref q4) (C := RX6) (T := TX6) (N := 33) hx hb hts iX6_tell_X6 hown hK hP 0 rfl rfl 13 (by decide) (hts (.fieldLink RX6 19 "ClappedWrongModel" "sounds" "[I") (by decide +kernel)) (fun _ h9 => h9) rfl dX6_tell_79 ?_
              refine lv_iload_n hx hb dX6_tell_82 rfl (lv_at hl 1 rfl) ?_
              refine k_iald hx hb hK hP 4 rfl dX6_tell_83 h (fun v3 h => ?_)
              obtain ⟨u4, hu4, h⟩ := k_bs h
              refine k_ciA (r := u4) (k2 := 0) (n2 := 0) (ws := (wM cI q0 q1 q2 q3 q4 q5 q6 q7 q8 q9 q10 q11 q12 s_pageMany s_readMany s_readLate s_state s_many s_late s_armNow s_barNow s_skips s_hallsRead s_nowArm s_turnedMany s_recordMany s_beganMany s_seedNow s_keptHall s_keptArm s_keptBar s_keptSkips s_keptRecordMany s_hash s_page s_read s_rows s_sounds s_clapped s_now s_nowLong s_ahead s_records s_keptSounds s_keptClapped s_keptRecords)) (wc' := (wM cI q0 q1 q2 q3 q4 q5 q6 q7 q8 q9 q10 q11 q12 s_pageMany s_readMany s_readLate s_state s_many s_late s_armNow s_barNow s_skips s_hallsRead s_nowArm s_turnedMany s_recordMany s_beganMany s_seedNow s_keptHall s_keptArm s_keptBar s_keptSkips s_keptRecordMany s_hash s_page s_read s_rows s_sounds s_clapped s_now s_nowLong s_ahead s_records s_keptSounds s_keptClapped s_keptRecords)) (va_runV (C := RX6) (As := [.int p1, .int v3]) (rest := []) ⟨hx, hb, hml, hown, hts⟩ (mX6_byLag l D cI ad q0 q1 q2 q3 q4 q5 q6 q7 q8 q9 q10 q11 q12 _ s_pageMany s_readMany s_readLate s_state s_many s_late s_armNow s_barNow s_skips s_hallsRead s_nowArm s_turnedMany s_recordMany s_beganMany s_seedNow s_keptHall s_keptArm s_keptBar s_keptSkips s_keptRecordMany s_hash s_page s_read s_rows s_sounds s_clapped s_now s_nowLong s_ahead s_records s_keptSounds s_keptClapped s_keptRecords p1 v3 u4 hu4) (cwV 2 hts gX6_tell_X6_byLag rfl rfl rfl (by decide +kernel) ⟨Nat.le_of_ble_eq_true rfl, Nat.le_of_ble_eq_true rfl⟩) (k_preA (q := (RX6, TX6, 33)) hN hST hA hK hP hD hS 0 (ci := 6) rfl rfl) rfl rfl hl.1 rfl (lv_room (Nat.le_of_ble_eq_true rfl)) dX6_tell_84 ⟨Nat.le_of_ble_eq_true rfl, Nat.le_of_ble_eq_true rfl⟩) hP hD hS hA rfl rfl (fun H locs hP hD hS => ?_)
              have h := Option.some.inj h
              subst h
              exact hRet _ _ _ _ hP hD hS dX6_tell_87
            · have h := (if_neg c1_5).symm.trans h
              by_cases c1_6 : p2 = (6 : Int32)
              · have h := (if_pos c1_6).symm.trans h
                refine lv_tableIn (off := 87) (tgt := 88) hx hb dX6_tell_1 (by rw [c1_6]; decide) (by rw [c1_6]; decide) (by rw [c1_6]; rfl) (by decide) ?_
                refine lv_aload_n hx hb dX6_tell_88 rfl (lv_at hl 0 rfl) ?_
                refine va_get (D := D) (ci := 6) (v := .ref q5) (C := RX6) (T := TX6) (N := 33) hx hb hts iX6_tell_X6 hown hK hP 0 rfl rfl 14 (by decide) (hts (.fieldLink RX6 22 "ClappedWrongModel" "clapped" "[I") (by decide +kernel)) (fun _ h9 => h9) rfl dX6_tell_89 ?_
                refine lv_iload_n hx hb dX6_tell_92 rfl (lv_at hl 1 rfl) ?_
                refine k_iald hx hb hK hP 5 rfl dX6_tell_93 h (fun v2 h => ?_)
                have h := Option.some.inj h
                subst h
                exact hRet _ _ _ _ hP hD hS dX6_tell_94
              · have h := (if_neg c1_6).symm.trans h
                by_cases c1_7 : p2 = (7 : Int32)
                · have h := (if_pos c1_7).symm.trans h
                  refine lv_tableIn (off := 94) (tgt := 95) hx hb dX6_tell_1 (by rw [c1_7]; decide) (by rw [c1_7]; decide) (by rw [c1_7]; rfl) (by decide) ?_
                  refine lv_aload_n hx hb dX6_tell_95 rfl (lv_at hl 0 rfl) ?_
                  refine lv_aload_n hx hb dX6_tell_96 rfl (lv_at hl 0 rfl) ?_
                  refine va_get (D := D) (ci := 6) (v := .ref q5) (C := RX6) (T := TX6) (N := 33) hx hb hts iX6_tell_X6 hown hK hP 0 rfl rfl 14 (by decide) (hts (.fieldLink RX6 22 "ClappedWrongModel" "clapped" "[I") (by decide +kernel)) (fun _ h9 => h9) rfl dX6_tell_97 ?_
                  refine lv_iload_n hx hb dX6_tell_100 rfl (lv_at hl 1 rfl) ?_
                  obtain ⟨u1, hu1, h⟩ := k_bs h
                  refine k_ciA (r := u1) (k2 := 0) (n2 := 0) (ws := (wM cI q0 q1 q2 q3 q4 q5 q6 q7 q8 q9 q10 q11 q12 s_pageMany s_readMany s_readLate s_state s_many s_late s_armNow s_barNow s_skips s_hallsRead s_nowArm s_turnedMany s_recordMany s_beganMany s_seedNow s_keptHall s_keptArm s_keptBar s_keptSkips s_keptRecordMany s_hash s_page s_read s_rows s_sounds s_clapped s_now s_nowLong s_ahead s_records s_keptSounds s_keptClapped s_keptRecords)) (wc' := (wM cI q0 q1 q2 q3 q4 q5 q6 q7 q8 q9 q10 q11 q12 s_pageMany s_readMany s_readLate s_state s_many s_late s_armNow s_barNow s_skips s_hallsRead s_nowArm s_turnedMany s_recordMany s_beganMany s_seedNow s_keptHall s_keptArm s_keptBar s_keptSkips s_keptRecordMany s_hash s_page s_read s_rows s_sounds s_clapped s_now s_nowLong s_ahead s_records s_keptSounds s_keptClapped s_keptRecords)) (va_runV (C := RX6) (As := [.ref q5, .int p1]) (rest := []) ⟨hx, hb, hml, hown, hts⟩ (mX6_isTired_clapped l D cI ad q0 q1 q2 q3 q4 q5 q6 q7 q8 q9 q10 q11 q12 _ s_pageMany s_readMany s_readLate s_state s_many s_late s_armNow s_barNow s_skips s_hallsRead s_nowArm s_turnedMany s_recordMany s_beganMany s_seedNow s_keptHall s_keptArm s_keptBar s_keptSkips s_keptRecordMany s_hash s_page s_read s_rows s_sounds s_clapped s_now s_nowLong s_ahead s_records s_keptSounds s_keptClapped s_keptRecords p1 u1 hu1) (cwV 2 hts gX6_tell_X6_isTired rfl rfl rfl (by decide +kernel) ⟨Nat.le_of_ble_eq_true rfl, Nat.le_of_ble_eq_true rfl⟩) (k_preA (q := (RX6, TX6, 33)) hN hST hA hK hP hD hS 0 (ci := 6) rfl rfl) rfl rfl hl.1 rfl (lv_room (Nat.le_of_ble_eq_true rfl)) dX6_tell_101 ⟨Nat.le_of_ble_eq_true rfl, Nat.le_of_ble_eq_true rfl⟩) hP hD hS hA rfl rfl (fun H locs hP hD hS => ?_)
                  refine lv_if_eq (tgt := 111) hx hb dX6_tell_104 (by decide) (fun c0 => ?_) (fun c0 => ?_)
                  · have h := (if_pos c0).symm.trans h
                    refine lv_iconst (v := 0) hx hb dX6_tell_111 (by decide) ?_
                    have h := Option.some.inj h
                    subst h
                    exact hRet _ _ _ _ hP hD hS dX6_tell_112
                  · have h := (if_neg c0).symm.trans h
                    refine lv_iconst (v := 1) hx hb dX6_tell_107 (by decide) ?_
                    refine lv_goto (tgt := 112) hx hb dX6_tell_108 (by decide) ?_
                    have h := Option.some.inj h
                    subst h
                    exact hRet _ _ _ _ hP hD hS dX6_tell_112
                · have h := (if_neg c1_7).symm.trans h
                  by_cases c1_8 : p2 = (8 : Int32)
                  · have h := (if_pos c1_8).symm.trans h
                    refine lv_tableIn (off := 112) (tgt := 113) hx hb dX6_tell_1 (by rw [c1_8]; decide) (by rw [c1_8]; decide) (by rw [c1_8]; rfl) (by decide) ?_
                    refine lv_iload_n hx hb dX6_tell_113 rfl (lv_at hl 1 rfl) ?_
                    refine lv_aload_n hx hb dX6_tell_114 rfl (lv_at hl 0 rfl) ?_
                    refine va_get (D := D) (ci := 6) (v := .int s_armNow) (C := RX6) (T := TX6) (N := 33) hx hb hts iX6_tell_X6 hown hK hP 0 rfl rfl 8 (by decide) (hts (.fieldLink RX6 90 "ClappedWrongModel" "armNow" "I") (by decide +kernel)) (fun _ h9 => h9) rfl dX6_tell_115 ?_
                    refine lv_icmp_ge (tgt := 125) hx hb dX6_tell_118 (by decide) (fun c0 => ?_) (fun c0 => ?_)
                    · have h := (if_pos c0).symm.trans h
                      refine lv_iconst (v := 0) hx hb dX6_tell_125 (by decide) ?_
                      have h := Option.some.inj h
                      subst h
                      exact hRet _ _ _ _ hP hD hS dX6_tell_126
                    · have h := (if_neg c0).symm.trans h
                      refine lv_iconst (v := 1) hx hb dX6_tell_121 (by decide) ?_
                      refine lv_goto (tgt := 126) hx hb dX6_tell_122 (by decide) ?_
                      have h := Option.some.inj h
                      subst h
                      exact hRet _ _ _ _ hP hD hS dX6_tell_126
                  · have h := (if_neg c1_8).symm.trans h
                    refine lv_tableOut (tgt := 127) hx hb dX6_tell_1 (kdn (by decide) (lv_neT c1_0 (a := 0) rfl) (kdn (by decide) (lv_neT c1_1 (a := 1) rfl) (kdn (by decide) (lv_neT c1_2 (a := 2) rfl) (kdn (by decide) (lv_neT c1_3 (a := 3) rfl) (kdn (by decide) (lv_neT c1_4 (a := 4) rfl) (kdn (by decide) (lv_neT c1_5 (a := 5) rfl) (kdn (by decide) (lv_neT c1_6 (a := 6) rfl) (kdn (by decide) (lv_neT c1_7 (a := 7) rfl) (kdn (by decide) (lv_neT c1_8 (a := 8) rfl) (kdb (k1 := 9) (by decide) _)))))))))) (by decide) ?_
                    refine lv_bipush (v := (-102)) hx hb dX6_tell_127 (by decide) ?_
                    have h := Option.some.inj h
                    subst h
                    exact hRet _ _ _ _ hP hD hS dX6_tell_129
def rX6_about : Room := { frames := 3, cells := 0, slots := 0, locals := 66 }
set_option maxHeartbeats 4000000 in
set_option maxRecDepth 100000 in
theorem mX6_about (l : Launch) (D : va_G) (cI : ClassId) (ad : Nat × Nat) (q0 q1 q2 q3 q4 q5 q6 q7 q8 q9 q10 q11 q12 : Nat) (sz : Nat) (s_pageMany : Int32) (s_readMany : Int32) (s_readLate : Int32) (s_state : Int32) (s_many : Int32) (s_late : Int32) (s_armNow : Int32) (s_barNow : Int32) (s_skips : Int32) (s_hallsRead : Int32) (s_nowArm : Int32) (s_turnedMany : Int32) (s_recordMany : Int32) (s_beganMany : Int32) (s_seedNow : Int32) (s_keptHall : Int32) (s_keptArm : Int32) (s_keptBar : Int32) (s_keptSkips : Int32) (s_keptRecordMany : Int32) (s_hash : Int64) (s_page : (Nat → Int32)) (s_read : (Nat → Int32)) (s_rows : (Nat → Int32)) (s_sounds : (Nat → Int32)) (s_clapped : (Nat → Int32)) (s_now : (Nat → Int32)) (s_nowLong : (Nat → Int32)) (s_ahead : (Nat → Int32)) (s_records : (Nat → Int32)) (s_keptSounds : (Nat → Int32)) (s_keptClapped : (Nat → Int32)) (s_keptRecords : (Nat → Int32)) (p1 : Int32) (p2 : Int32) (r : Int32) (h : fX6_about s_many s_late s_armNow s_rows s_sounds s_clapped p1 p2 = some r) : Met l yX6_about wsX6_about rX6_about (kPre D cI ad [.ref q0, .int p1, .int p2] (wM cI q0 q1 q2 q3 q4 q5 q6 q7 q8 q9 q10 q11 q12 s_pageMany s_readMany s_readLate s_state s_many s_late s_armNow s_barNow s_skips s_hallsRead s_nowArm s_turnedMany s_recordMany s_beganMany s_seedNow s_keptHall s_keptArm s_keptBar s_keptSkips s_keptRecordMany s_hash s_page s_read s_rows s_sounds s_clapped s_now s_nowLong s_ahead s_records s_keptSounds s_keptClapped s_keptRecords) sz) (kQi D cI r (wM cI q0 q1 q2 q3 q4 q5 q6 q7 q8 q9 q10 q11 q12 s_pageMany s_readMany s_readLate s_state s_many s_late s_armNow s_barNow s_skips s_hallsRead s_nowArm s_turnedMany s_recordMany s_beganMany s_seedNow s_keptHall s_keptArm s_keptBar s_keptSkips s_keptRecordMany s_hash s_page s_read s_rows s_sounds s_clapped s_now s_nowLong s_ahead s_records s_keptSounds s_keptClapped s_keptRecords) (va_A (wM cI q0 q1 q2 q3 q4 q5 q6 q7 q8 q9 q10 q11 q12 s_pageMany s_readMany s_readLate s_state s_many s_late s_armNow s_barNow s_skips s_hallsRead s_nowArm s_turnedMany s_recordMany s_beganMany s_seedNow s_keptHall s_keptArm s_keptBar s_keptSkips s_keptRecordMany s_hash s_page s_read s_rows s_sounds s_clapped s_now s_nowLong s_ahead s_records s_keptSounds s_keptClapped s_keptRecords) sz)) 0 0 (va_A (wM cI q0 q1 q2 q3 q4 q5 q6 q7 q8 q9 q10 q11 q12 s_pageMany s_readMany s_readLate s_state s_many s_late s_armNow s_barNow s_skips s_hallsRead s_nowArm s_turnedMany s_recordMany s_beganMany s_seedNow s_keptHall s_keptArm s_keptBar s_keptSkips s_keptRecordMany s_hash s_page s_read s_rows s_sounds s_clapped s_now s_nowLong s_ahead s_records s_keptSounds s_keptClapped s_keptRecords) sz) := by
  refine kStart (cc := cX6_about) (maxL := 3) (ret := (some .int)) (Qc := fun A => kQi D cI r (wM cI q0 q1 q2 q3 q4 q5 q6 q7 q8 q9 q10 q11 q12 s_pageMany s_readMany s_readLate s_state s_many s_late s_armNow s_barNow s_skips s_hallsRead s_nowArm s_turnedMany s_recordMany s_beganMany s_seedNow s_keptHall s_keptArm s_keptBar s_keptSkips s_keptRecordMany s_hash s_page s_read s_rows s_sounds s_clapped s_now s_nowLong s_ahead s_records s_keptSounds s_keptClapped s_keptRecords) A) (by decide) rfl (Nat.le_of_ble_eq_true rfl) ?_
  intro p e s m args below meth c A ls hx hb hr hts hown hlocks hin hml hN hST hA hS hP hK hD hl
  have hown : s.vm.findClass RX6 = some m.cls := hown
  have hl : lv_has ls 3 [(0, .ref q0), (1, .int p1), (2, .int p2)] := hl
  have hRet : ∀ (H : Heap) (locs : List Loc) (ls : Array Slot) (pc : Nat), va_P D vwCl (wM cI q0 q1 q2 q3 q4 q5 q6 q7 q8 q9 q10 q11 q12 s_pageMany s_readMany s_readLate s_state s_many s_late s_armNow s_barNow s_skips s_hallsRead s_nowArm s_turnedMany s_recordMany s_beganMany s_seedNow s_keptHall s_keptArm s_keptBar s_keptSkips s_keptRecordMany s_hash s_page s_read s_rows s_sounds s_clapped s_now s_nowLong s_ahead s_records s_keptSounds s_keptClapped s_keptRecords) H → va_D A (wM cI q0 q1 q2 q3 q4 q5 q6 q7 q8 q9 q10 q11 q12 s_pageMany s_readMany s_readLate s_state s_many s_late s_armNow s_barNow s_skips s_hallsRead s_nowArm s_turnedMany s_recordMany s_beganMany s_seedNow s_keptHall s_keptArm s_keptBar s_keptSkips s_keptRecordMany s_hash s_page s_read s_rows s_sounds s_clapped s_now s_nowLong s_ahead s_records s_keptSounds s_keptClapped s_keptRecords) → va_S A s.heap H locs → decode cX6_about pc = .ok (.ireturn, 1) → W p l e rX6_about s m args below meth c H locs 0 0 (MQ below (kQi D cI r (wM cI q0 q1 q2 q3 q4 q5 q6 q7 q8 q9 q10 q11 q12 s_pageMany s_readMany s_readLate s_state s_many s_late s_armNow s_barNow s_skips s_hallsRead s_nowArm s_turnedMany s_recordMany s_beganMany s_seedNow s_keptHall s_keptArm s_keptBar s_keptSkips s_keptRecordMany s_hash s_page s_read s_rows s_sounds s_clapped s_now s_nowLong s_ahead s_records s_keptSounds s_keptClapped s_keptRecords) A) args s 0 0 A) (F0 m pc ls [.int r]) := fun H locs ls pc hP hD hS hd => k_iret hx hb hr hlocks hK hP hD hS hd
  generalize MQ below (kQi D cI r (wM cI q0 q1 q2 q3 q4 q5 q6 q7 q8 q9 q10 q11 q12 s_pageMany s_readMany s_readLate s_state s_many s_late s_armNow s_barNow s_skips s_hallsRead s_nowArm s_turnedMany s_recordMany s_beganMany s_seedNow s_keptHall s_keptArm s_keptBar s_keptSkips s_keptRecordMany s_hash s_page s_read s_rows s_sounds s_clapped s_now s_nowLong s_ahead s_records s_keptSounds s_keptClapped s_keptRecords) A) args s 0 0 A = Q at hRet ⊢
  unfold fX6_about at h
  refine lv_aload_n hx hb dX6_about_0 rfl (lv_at hl 0 rfl) ?_
  refine lv_iload_n hx hb dX6_about_1 rfl (lv_at hl 1 rfl) ?_
  obtain ⟨u1, hu1, h⟩ := k_bs h
  refine k_ciA (r := u1) (k2 := 0) (n2 := 0) (ws := (wM cI q0 q1 q2 q3 q4 q5 q6 q7 q8 q9 q10 q11 q12 s_pageMany s_readMany s_readLate s_state s_many s_late s_armNow s_barNow s_skips s_hallsRead s_nowArm s_turnedMany s_recordMany s_beganMany s_seedNow s_keptHall s_keptArm s_keptBar s_keptSkips s_keptRecordMany s_hash s_page s_read s_rows s_sounds s_clapped s_now s_nowLong s_ahead s_records s_keptSounds s_keptClapped s_keptRecords)) (wc' := (wM cI q0 q1 q2 q3 q4 q5 q6 q7 q8 q9 q10 q11 q12 s_pageMany s_readMany s_readLate s_state s_many s_late s_armNow s_barNow s_skips s_hallsRead s_nowArm s_turnedMany s_recordMany s_beganMany s_seedNow s_keptHall s_keptArm s_keptBar s_keptSkips s_keptRecordMany s_hash s_page s_read s_rows s_sounds s_clapped s_now s_nowLong s_ahead s_records s_keptSounds s_keptClapped s_keptRecords)) (va_runV (C := RX6) (As := [.int p1]) (rest := []) ⟨hx, hb, hml, hown, hts⟩ (mX6_isRow l D cI ad q0 q1 q2 q3 q4 q5 q6 q7 q8 q9 q10 q11 q12 _ s_pageMany s_readMany s_readLate s_state s_many s_late s_armNow s_barNow s_skips s_hallsRead s_nowArm s_turnedMany s_recordMany s_beganMany s_seedNow s_keptHall s_keptArm s_keptBar s_keptSkips s_keptRecordMany s_hash s_page s_read s_rows s_sounds s_clapped s_now s_nowLong s_ahead s_records s_keptSounds s_keptClapped s_keptRecords p1 u1 hu1) (cwV 1 hts gX6_about_X6_isRow rfl rfl rfl (by decide +kernel) ⟨Nat.le_of_ble_eq_true rfl, Nat.le_of_ble_eq_true rfl⟩) (k_preA (q := (RX6, TX6, 33)) hN hST hA hK hP hD hS 0 (ci := 6) rfl rfl) rfl rfl hl.1 rfl (lv_room (Nat.le_of_ble_eq_true rfl)) dX6_about_2 ⟨Nat.le_of_ble_eq_true rfl, Nat.le_of_ble_eq_true rfl⟩) hP hD hS hA rfl rfl (fun H locs hP hD hS => ?_)
  refine lv_if_eq (tgt := 17) hx hb dX6_about_5 (by decide) (fun c0 => ?_) (fun c0 => ?_)
  · have h := (if_pos c0).symm.trans h
    refine lv_bipush (v := (-101)) hx hb dX6_about_17 (by decide) ?_
    have h := Option.some.inj h
    subst h
    exact hRet _ _ _ _ hP hD hS dX6_about_19
  · have h := (if_neg c0).symm.trans h
    refine lv_aload_n hx hb dX6_about_8 rfl (lv_at hl 0 rfl) ?_
    refine lv_iload_n hx hb dX6_about_9 rfl (lv_at hl 1 rfl) ?_
    refine lv_iload_n hx hb dX6_about_10 rfl (lv_at hl 2 rfl) ?_
    obtain ⟨u2, hu2, h⟩ := k_bs h
    refine k_ciA (r := u2) (k2 := 0) (n2 := 0) (ws := (wM cI q0 q1 q2 q3 q4 q5 q6 q7 q8 q9 q10 q11 q12 s_pageMany s_readMany s_readLate s_state s_many s_late s_armNow s_barNow s_skips s_hallsRead s_nowArm s_turnedMany s_recordMany s_beganMany s_seedNow s_keptHall s_keptArm s_keptBar s_keptSkips s_keptRecordMany s_hash s_page s_read s_rows s_sounds s_clapped s_now s_nowLong s_ahead s_records s_keptSounds s_keptClapped s_keptRecords)) (wc' := (wM cI q0 q1 q2 q3 q4 q5 q6 q7 q8 q9 q10 q11 q12 s_pageMany s_readMany s_readLate s_state s_many s_late s_armNow s_barNow s_skips s_hallsRead s_nowArm s_turnedMany s_recordMany s_beganMany s_seedNow s_keptHall s_keptArm s_keptBar s_keptSkips s_keptRecordMany s_hash s_page s_read s_rows s_sounds s_clapped s_now s_nowLong s_ahead s_records s_keptSounds s_keptClapped s_keptRecords)) (va_runV (C := RX6) (As := [.int p1, .int p2]) (rest := []) ⟨hx, hb, hml, hown, hts⟩ (mX6_tell l D cI ad q0 q1 q2 q3 q4 q5 q6 q7 q8 q9 q10 q11 q12 _ s_pageMany s_readMany s_readLate s_state s_many s_late s_armNow s_barNow s_skips s_hallsRead s_nowArm s_turnedMany s_recordMany s_beganMany s_seedNow s_keptHall s_keptArm s_keptBar s_keptSkips s_keptRecordMany s_hash s_page s_read s_rows s_sounds s_clapped s_now s_nowLong s_ahead s_records s_keptSounds s_keptClapped s_keptRecords p1 p2 u2 hu2) (cwV 2 hts gX6_about_X6_tell rfl rfl rfl (by decide +kernel) ⟨Nat.le_of_ble_eq_true rfl, Nat.le_of_ble_eq_true rfl⟩) (k_preA (q := (RX6, TX6, 33)) hN hST hA hK hP hD hS 0 (ci := 6) rfl rfl) rfl rfl hl.1 rfl (lv_room (Nat.le_of_ble_eq_true rfl)) dX6_about_11 ⟨Nat.le_of_ble_eq_true rfl, Nat.le_of_ble_eq_true rfl⟩) hP hD hS hA rfl rfl (fun H locs hP hD hS => ?_)
    refine lv_goto (tgt := 19) hx hb dX6_about_14 (by decide) ?_
    have h := Option.some.inj h
    subst h
    exact hRet _ _ _ _ hP hD hS dX6_about_19
theorem iX6_as_X6 : ∀ w ∈ wsX60, w ∈ wsX6_as := by decide +kernel
def rX6_as : Room := { frames := 2, cells := 0, slots := 0, locals := 46 }
set_option maxHeartbeats 4000000 in
set_option maxRecDepth 100000 in
theorem mX6_as (l : Launch) (D : va_G) (cI : ClassId) (ad : Nat × Nat) (q0 q1 q2 q3 q4 q5 q6 q7 q8 q9 q10 q11 q12 : Nat) (sz : Nat) (s_pageMany : Int32) (s_readMany : Int32) (s_readLate : Int32) (s_state : Int32) (s_many : Int32) (s_late : Int32) (s_armNow : Int32) (s_barNow : Int32) (s_skips : Int32) (s_hallsRead : Int32) (s_nowArm : Int32) (s_turnedMany : Int32) (s_recordMany : Int32) (s_beganMany : Int32) (s_seedNow : Int32) (s_keptHall : Int32) (s_keptArm : Int32) (s_keptBar : Int32) (s_keptSkips : Int32) (s_keptRecordMany : Int32) (s_hash : Int64) (s_page : (Nat → Int32)) (s_read : (Nat → Int32)) (s_rows : (Nat → Int32)) (s_sounds : (Nat → Int32)) (s_clapped : (Nat → Int32)) (s_now : (Nat → Int32)) (s_nowLong : (Nat → Int32)) (s_ahead : (Nat → Int32)) (s_records : (Nat → Int32)) (s_keptSounds : (Nat → Int32)) (s_keptClapped : (Nat → Int32)) (s_keptRecords : (Nat → Int32)) (p1 : Int32) (p2 : Int32) (r : Int32) (h : fX6_as s_many s_rows p1 p2 = some r) : Met l yX6_as wsX6_as rX6_as (kPre D cI ad [.ref q0, .int p1, .int p2] (wM cI q0 q1 q2 q3 q4 q5 q6 q7 q8 q9 q10 q11 q12 s_pageMany s_readMany s_readLate s_state s_many s_late s_armNow s_barNow s_skips s_hallsRead s_nowArm s_turnedMany s_recordMany s_beganMany s_seedNow s_keptHall s_keptArm s_keptBar s_keptSkips s_keptRecordMany s_hash s_page s_read s_rows s_sounds s_clapped s_now s_nowLong s_ahead s_records s_keptSounds s_keptClapped s_keptRecords) sz) (kQi D cI r (wM cI q0 q1 q2 q3 q4 q5 q6 q7 q8 q9 q10 q11 q12 s_pageMany s_readMany s_readLate s_state s_many s_late s_armNow s_barNow s_skips s_hallsRead s_nowArm s_turnedMany s_recordMany s_beganMany s_seedNow s_keptHall s_keptArm s_keptBar s_keptSkips s_keptRecordMany s_hash s_page s_read s_rows s_sounds s_clapped s_now s_nowLong s_ahead s_records s_keptSounds s_keptClapped s_keptRecords) (va_A (wM cI q0 q1 q2 q3 q4 q5 q6 q7 q8 q9 q10 q11 q12 s_pageMany s_readMany s_readLate s_state s_many s_late s_armNow s_barNow s_skips s_hallsRead s_nowArm s_turnedMany s_recordMany s_beganMany s_seedNow s_keptHall s_keptArm s_keptBar s_keptSkips s_keptRecordMany s_hash s_page s_read s_rows s_sounds s_clapped s_now s_nowLong s_ahead s_records s_keptSounds s_keptClapped s_keptRecords) sz)) 0 0 (va_A (wM cI q0 q1 q2 q3 q4 q5 q6 q7 q8 q9 q10 q11 q12 s_pageMany s_readMany s_readLate s_state s_many s_late s_armNow s_barNow s_skips s_hallsRead s_nowArm s_turnedMany s_recordMany s_beganMany s_seedNow s_keptHall s_keptArm s_keptBar s_keptSkips s_keptRecordMany s_hash s_page s_read s_rows s_sounds s_clapped s_now s_nowLong s_ahead s_records s_keptSounds s_keptClapped s_keptRecords) sz) := by
  refine kStart (cc := cX6_as) (maxL := 5) (ret := (some .int)) (Qc := fun A => kQi D cI r (wM cI q0 q1 q2 q3 q4 q5 q6 q7 q8 q9 q10 q11 q12 s_pageMany s_readMany s_readLate s_state s_many s_late s_armNow s_barNow s_skips s_hallsRead s_nowArm s_turnedMany s_recordMany s_beganMany s_seedNow s_keptHall s_keptArm s_keptBar s_keptSkips s_keptRecordMany s_hash s_page s_read s_rows s_sounds s_clapped s_now s_nowLong s_ahead s_records s_keptSounds s_keptClapped s_keptRecords) A) (by decide) rfl (Nat.le_of_ble_eq_true rfl) ?_
  intro p e s m args below meth c A ls hx hb hr hts hown hlocks hin hml hN hST hA hS hP hK hD hl
  have hown : s.vm.findClass RX6 = some m.cls := hown
  have hl : lv_has ls 5 [(0, .ref q0), (1, .int p1), (2, .int p2)] := hl
  have hRet : ∀ (H : Heap) (locs : List Loc) (ls : Array Slot) (pc : Nat), va_P D vwCl (wM cI q0 q1 q2 q3 q4 q5 q6 q7 q8 q9 q10 q11 q12 s_pageMany s_readMany s_readLate s_state s_many s_late s_armNow s_barNow s_skips s_hallsRead s_nowArm s_turnedMany s_recordMany s_beganMany s_seedNow s_keptHall s_keptArm s_keptBar s_keptSkips s_keptRecordMany s_hash s_page s_read s_rows s_sounds s_clapped s_now s_nowLong s_ahead s_records s_keptSounds s_keptClapped s_keptRecords) H → va_D A (wM cI q0 q1 q2 q3 q4 q5 q6 q7 q8 q9 q10 q11 q12 s_pageMany s_readMany s_readLate s_state s_many s_late s_armNow s_barNow s_skips s_hallsRead s_nowArm s_turnedMany s_recordMany s_beganMany s_seedNow s_keptHall s_keptArm s_keptBar s_keptSkips s_keptRecordMany s_hash s_page s_read s_rows s_sounds s_clapped s_now s_nowLong s_ahead s_records s_keptSounds s_keptClapped s_keptRecords) → va_S A s.heap H locs → decode cX6_as pc = .ok (.ireturn, 1) → W p l e rX6_as s m args below meth c H locs 0 0 (MQ below (kQi D cI r (wM cI q0 q1 q2 q3 q4 q5 q6 q7 q8 q9 q10 q11 q12 s_pageMany s_readMany s_readLate s_state s_many s_late s_armNow s_barNow s_skips s_hallsRead s_nowArm s_turnedMany s_recordMany s_beganMany s_seedNow s_keptHall s_keptArm s_keptBar s_keptSkips s_keptRecordMany s_hash s_page s_read s_rows s_sounds s_clapped s_now s_nowLong s_ahead s_records s_keptSounds s_keptClapped s_keptRecords) A) args s 0 0 A) (F0 m pc ls [.int r]) := fun H locs ls pc hP hD hS hd => k_iret hx hb hr hlocks hK hP hD hS hd
  generalize MQ below (kQi D cI r (wM cI q0 q1 q2 q3 q4 q5 q6 q7 q8 q9 q10 q11 q12 s_pageMany s_readMany s_readLate s_state s_many s_late s_armNow s_barNow s_skips s_hallsRead s_nowArm s_turnedMany s_recordMany s_beganMany s_seedNow s_keptHall s_keptArm s_keptBar s_keptSkips s_keptRecordMany s_hash s_page s_read s_rows s_sounds s_clapped s_now s_nowLong s_ahead s_records s_keptSounds s_keptClapped s_keptRecords) A) args s 0 0 A = Q at hRet ⊢
  unfold fX6_as at h
  refine lv_aload_n hx hb dX6_as_0 rfl (lv_at hl 0 rfl) ?_
  refine lv_iload_n hx hb dX6_as_1 rfl (lv_at hl 1 rfl) ?_
  obtain ⟨u1, hu1, h⟩ := k_bs h
  refine k_ciA (r := u1) (k2 := 0) (n2 := 0) (ws := (wM cI q0 q1 q2 q3 q4 q5 q6 q7 q8 q9 q10 q11 q12 s_pageMany s_readMany s_readLate s_state s_many s_late s_armNow s_barNow s_skips s_hallsRead s_nowArm s_turnedMany s_recordMany s_beganMany s_seedNow s_keptHall s_keptArm s_keptBar s_keptSkips s_keptRecordMany s_hash s_page s_read s_rows s_sounds s_clapped s_now s_nowLong s_ahead s_records s_keptSounds s_keptClapped s_keptRecords)) (wc' := (wM cI q0 q1 q2 q3 q4 q5 q6 q7 q8 q9 q10 q11 q12 s_pageMany s_readMany s_readLate s_state s_many s_late s_armNow s_barNow s_skips s_hallsRead s_nowArm s_turnedMany s_recordMany s_beganMany s_seedNow s_keptHall s_keptArm s_keptBar s_keptSkips s_keptRecordMany s_hash s_page s_read s_rows s_sounds s_clapped s_now s_nowLong s_ahead s_records s_keptSounds s_keptClapped s_keptRecords)) (va_runV (C := RX6) (As := [.int p1]) (rest := []) ⟨hx, hb, hml, hown, hts⟩ (mX6_isRow l D cI ad q0 q1 q2 q3 q4 q5 q6 q7 q8 q9 q10 q11 q12 _ s_pageMany s_readMany s_readLate s_state s_many s_late s_armNow s_barNow s_skips s_hallsRead s_nowArm s_turnedMany s_recordMany s_beganMany s_seedNow s_keptHall s_keptArm s_keptBar s_keptSkips s_keptRecordMany s_hash s_page s_read s_rows s_sounds s_clapped s_now s_nowLong s_ahead s_records s_keptSounds s_keptClapped s_keptRecords p1 u1 hu1) (cwV 1 hts gX6_as_X6_isRow rfl rfl rfl (by decide +kernel) ⟨Nat.le_of_ble_eq_true rfl, Nat.le_of_ble_eq_true rfl⟩) (k_preA (q := (RX6, TX6, 33)) hN hST hA hK hP hD hS 0 (ci := 6) rfl rfl) rfl rfl hl.1 rfl (lv_room (Nat.le_of_ble_eq_true rfl)) dX6_as_2 ⟨Nat.le_of_ble_eq_true rfl, Nat.le_of_ble_eq_true rfl⟩) hP hD hS hA rfl rfl (fun H locs hP hD hS => ?_)
  refine lv_if_ne (tgt := 11) hx hb dX6_as_5 (by decide) (fun c0 => ?_) (fun c0 => ?_)
  · have h := (if_neg c0).symm.trans h
    refine lv_iload_n hx hb dX6_as_11 rfl (lv_at hl 2 rfl) ?_
    refine lv_i2l hx hb dX6_as_12 rfl ?_
    refine lv_lconst (v := 0) hx hb dX6_as_13 (by decide) ?_
    refine lv_ldc2 (v := 4) hx hb hown (hts (.constantLong RX6 122 4) (by decide +kernel)) dX6_as_14 ?_
    obtain ⟨u2, hu2, h⟩ := k_bs h
    refine k_ci (r := u2) (k2 := 0) (n2 := 0) (wc := []) (wc' := []) (w2 := (wM cI q0 q1 q2 q3 q4 q5 q6 q7 q8 q9 q10 q11 q12 s_pageMany s_readMany s_readLate s_state s_many s_late s_armNow s_barNow s_skips s_hallsRead s_nowArm s_turnedMany s_recordMany s_beganMany s_seedNow s_keptHall s_keptArm s_keptBar s_keptSkips s_keptRecordMany s_hash s_page s_read s_rows s_sounds s_clapped s_now s_nowLong s_ahead s_records s_keptSounds s_keptClapped s_keptRecords)) (va_runS (As := [.long (Int32.toInt64 p2), .long (0 : Int64), .long (4 : Int64)]) (rest := []) ⟨hx, hb, hml, hown, hts⟩ (mX6_in l D cI ad _ (Int32.toInt64 p2) (0 : Int64) (4 : Int64) u2 hu2) (va_cwS 3 hts gX6_as_X6_in rfl rfl rfl (by decide +kernel) ⟨Nat.le_of_ble_eq_true rfl, Nat.le_of_ble_eq_true rfl⟩) (k_pres hN hST hA hK hP hD hS (isC := []) rfl rfl) rfl rfl hl.1 rfl (lv_room (Nat.le_of_ble_eq_true rfl)) dX6_as_17 ⟨Nat.le_of_ble_eq_true rfl, Nat.le_of_ble_eq_true rfl⟩) hP hD hS hA [] rfl rfl rfl rfl rfl (fun H locs hP hD hS => ?_)
    refine lv_if_ne (tgt := 26) hx hb dX6_as_20 (by decide) (fun c0 => ?_) (fun c0 => ?_)
    · have h := (if_neg c0).symm.trans h
      refine lv_aload_n hx hb dX6_as_26 rfl (lv_at hl 0 rfl) ?_
      refine va_get (D := D) (ci := 6) (v := .ref q3) (C := RX6) (T := TX6) (N := 33) hx hb hts iX6_as_X6 hown hK hP 0 rfl rfl 12 (by decide) (hts (.fieldLink RX6 16 "ClappedWrongModel" "rows" "[I") (by decide +kernel)) (fun _ h9 => h9) rfl dX6_as_27 ?_
      refine lv_iconst (v := 3) hx hb dX6_as_30 (by decide) ?_
      refine lv_iload_n hx hb dX6_as_31 rfl (lv_at hl 1 rfl) ?_
      refine lv_imul hx hb dX6_as_32 ?_
      refine k_iald hx hb hK hP 3 rfl dX6_as_33 h (fun v3 h => ?_)
      refine lv_istore_n (lv' := [(3, .int v3), (0, .ref q0), (1, .int p1), (2, .int p2)]) hx hb dX6_as_34 rfl hl (by decide) rfl (fun ls hl => ?_)
      refine lv_iload_n hx hb dX6_as_35 rfl (lv_at hl 3 rfl) ?_
      refine lv_if_eq (tgt := 54) hx hb dX6_as_36 (by decide) (fun c0 => ?_) (fun c0 => ?_)
      · have h := (if_pos c0).symm.trans h
        refine lv_iconst (v := 1) hx hb dX6_as_54 (by decide) ?_
        refine lv_goto (tgt := 59) hx hb dX6_as_55 (by decide) ?_
        refine lv_istore (lv' := [(4, .int 1), (3, .int v3), (0, .ref q0), (1, .int p1), (2, .int p2)]) hx hb dX6_as_59 hl (by decide) rfl (fun ls hl => ?_)
        refine lv_iload hx hb dX6_as_61 (lv_at hl 0 rfl) ?_
        refine lv_if_eq (tgt := 70) hx hb dX6_as_63 (by decide) (fun c0 => absurd c0 (by decide)) (fun _ => ?_)
        refine lv_iload_n hx hb dX6_as_66 rfl (lv_at hl 3 rfl) ?_
        refine lv_goto (tgt := 71) hx hb dX6_as_67 (by decide) ?_
        have h := Option.some.inj h
        subst h
        exact hRet _ _ _ _ hP hD hS dX6_as_71
      · have h := (if_neg c0).symm.trans h
        refine lv_iload_n hx hb dX6_as_39 rfl (lv_at hl 3 rfl) ?_
        refine lv_iload_n hx hb dX6_as_40 rfl (lv_at hl 0 rfl) ?_
        refine lv_icmp_eq (tgt := 54) hx hb dX6_as_41 (by decide) (fun c0 => ?_) (fun c0 => ?_)
        · have h := (if_pos c0).symm.trans h
          refine lv_iconst (v := 1) hx hb dX6_as_54 (by decide) ?_
          refine lv_goto (tgt := 59) hx hb dX6_as_55 (by decide) ?_
          refine lv_istore (lv' := [(4, .int 1), (3, .int v3), (0, .ref q0), (1, .int p1), (2, .int p2)]) hx hb dX6_as_59 hl (by decide) rfl (fun ls hl => ?_)
          refine lv_iload hx hb dX6_as_61 (lv_at hl 0 rfl) ?_
          refine lv_if_eq (tgt := 70) hx hb dX6_as_63 (by decide) (fun c0 => absurd c0 (by decide)) (fun _ => ?_)
          refine lv_iload_n hx hb dX6_as_66 rfl (lv_at hl 3 rfl) ?_
          refine lv_goto (tgt := 71) hx hb dX6_as_67 (by decide) ?_
          have h := Option.some.inj h
          subst h
          exact hRet _ _ _ _ hP hD hS dX6_as_71
        · have h := (if_neg c0).symm.trans h
          refine lv_iload_n hx hb dX6_as_44 rfl (lv_at hl 3 rfl) ?_
          refine lv_iconst (v := 1) hx hb dX6_as_45 (by decide) ?_
          refine lv_icmp_ne (tgt := 58) hx hb dX6_as_46 (by decide) (fun c0 => ?_) (fun c0 => ?_)
          · have h := (if_neg c0).symm.trans h
            refine lv_iconst (v := 0) hx hb dX6_as_58 (by decide) ?_
            refine lv_istore (lv' := [(4, .int 0), (3, .int v3), (0, .ref q0), (1, .int p1), (2, .int p2)]) hx hb dX6_as_59 hl (by decide) rfl (fun ls hl => ?_)
            refine lv_iload hx hb dX6_as_61 (lv_at hl 0 rfl) ?_
            refine lv_if_eq (tgt := 70) hx hb dX6_as_63 (by decide) (fun _ => ?_) (fun c0 => absurd (by decide) c0)
            refine lv_iconst (v := (-1)) hx hb dX6_as_70 (by decide) ?_
            have h := Option.some.inj h
            subst h
            exact hRet _ _ _ _ hP hD hS dX6_as_71
          · have h := (if_pos c0).symm.trans h
            refine lv_iload_n hx hb dX6_as_49 rfl (lv_at hl 0 rfl) ?_
            refine lv_iconst (v := 4) hx hb dX6_as_50 (by decide) ?_
            refine lv_icmp_ne (tgt := 58) hx hb dX6_as_51 (by decide) (fun c0 => ?_) (fun c0 => ?_)
            · have h := (if_neg c0).symm.trans h
              refine lv_iconst (v := 0) hx hb dX6_as_58 (by decide) ?_
              refine lv_istore (lv' := [(4, .int 0), (3, .int v3), (0, .ref q0), (1, .int p1), (2, .int p2)]) hx hb dX6_as_59 hl (by decide) rfl (fun ls hl => ?_)
              refine lv_iload hx hb dX6_as_61 (lv_at hl 0 rfl) ?_
              refine lv_if_eq (tgt := 70) hx hb dX6_as_63 (by decide) (fun _ => ?_) (fun c0 => absurd (by decide) c0)
              refine lv_iconst (v := (-1)) hx hb dX6_as_70 (by decide) ?_
              have h := Option.some.inj h
              subst h
              exact hRet _ _ _ _ hP hD hS dX6_as_71
            · have h := (if_pos c0).symm.trans h
              refine lv_iconst (v := 1) hx hb dX6_as_54 (by decide) ?_
              refine lv_goto (tgt := 59) hx hb dX6_as_55 (by decide) ?_
              refine lv_istore (lv' := [(4, .int 1), (3, .int v3), (0, .ref q0), (1, .int p1), (2, .int p2)]) hx hb dX6_as_59 hl (by decide) rfl (fun ls hl => ?_)
              refine lv_iload hx hb dX6_as_61 (lv_at hl 0 rfl) ?_
              refine lv_if_eq (tgt := 70) hx hb dX6_as_63 (by decide) (fun c0 => absurd c0 (by decide)) (fun _ => ?_)
              refine lv_iload_n hx hb dX6_as_66 rfl (lv_at hl 3 rfl) ?_
              refine lv_goto (tgt := 71) hx hb dX6_as_67 (by decide) ?_
              have h := Option.some.inj h
              subst h
              exact hRet _ _ _ _ hP hD hS dX6_as_71
    · have h := (if_pos c0).symm.trans h
      refine lv_bipush (v := (-102)) hx hb dX6_as_23 (by decide) ?_
      have h := Option.some.inj h
      subst h
      exact hRet _ _ _ _ hP hD hS dX6_as_25
  · have h := (if_pos c0).symm.trans h
    refine lv_bipush (v := (-101)) hx hb dX6_as_8 (by decide) ?_
    have h := Option.some.inj h
    subst h
    exact hRet _ _ _ _ hP hD hS dX6_as_10
theorem iX6_asItIs_X6 : ∀ w ∈ wsX60, w ∈ wsX6_asItIs := by decide +kernel
def rX6_asItIs : Room := { frames := 0, cells := 0, slots := 0, locals := 0 }
set_option maxHeartbeats 4000000 in
set_option maxRecDepth 100000 in
theorem mX6_asItIs (l : Launch) (D : va_G) (cI : ClassId) (ad : Nat × Nat) (q0 q1 q2 q3 q4 q5 q6 q7 q8 q9 q10 q11 q12 : Nat) (sz : Nat) (s_pageMany : Int32) (s_readMany : Int32) (s_readLate : Int32) (s_state : Int32) (s_many : Int32) (s_late : Int32) (s_armNow : Int32) (s_barNow : Int32) (s_skips : Int32) (s_hallsRead : Int32) (s_nowArm : Int32) (s_turnedMany : Int32) (s_recordMany : Int32) (s_beganMany : Int32) (s_seedNow : Int32) (s_keptHall : Int32) (s_keptArm : Int32) (s_keptBar : Int32) (s_keptSkips : Int32) (s_keptRecordMany : Int32) (s_hash : Int64) (s_page : (Nat → Int32)) (s_read : (Nat → Int32)) (s_rows : (Nat → Int32)) (s_sounds : (Nat → Int32)) (s_clapped : (Nat → Int32)) (s_now : (Nat → Int32)) (s_nowLong : (Nat → Int32)) (s_ahead : (Nat → Int32)) (s_records : (Nat → Int32)) (s_keptSounds : (Nat → Int32)) (s_keptClapped : (Nat → Int32)) (s_keptRecords : (Nat → Int32)) (r : (Int32 × (Nat → Int32) × (Nat → Int32))) (h : fX6_asItIs s_armNow s_sounds s_clapped s_now s_nowLong = some r) : Met l yX6_asItIs wsX6_asItIs rX6_asItIs (kPre D cI ad [.ref q0] (wM cI q0 q1 q2 q3 q4 q5 q6 q7 q8 q9 q10 q11 q12 s_pageMany s_readMany s_readLate s_state s_many s_late s_armNow s_barNow s_skips s_hallsRead s_nowArm s_turnedMany s_recordMany s_beganMany s_seedNow s_keptHall s_keptArm s_keptBar s_keptSkips s_keptRecordMany s_hash s_page s_read s_rows s_sounds s_clapped s_now s_nowLong s_ahead s_records s_keptSounds s_keptClapped s_keptRecords) sz) (kQv D cI (wM cI q0 q1 q2 q3 q4 q5 q6 q7 q8 q9 q10 q11 q12 s_pageMany s_readMany s_readLate s_state s_many s_late s_armNow s_barNow s_skips s_hallsRead r.1 s_turnedMany s_recordMany s_beganMany s_seedNow s_keptHall s_keptArm s_keptBar s_keptSkips s_keptRecordMany s_hash s_page s_read s_rows s_sounds s_clapped r.2.1 r.2.2 s_ahead s_records s_keptSounds s_keptClapped s_keptRecords) (va_A (wM cI q0 q1 q2 q3 q4 q5 q6 q7 q8 q9 q10 q11 q12 s_pageMany s_readMany s_readLate s_state s_many s_late s_armNow s_barNow s_skips s_hallsRead s_nowArm s_turnedMany s_recordMany s_beganMany s_seedNow s_keptHall s_keptArm s_keptBar s_keptSkips s_keptRecordMany s_hash s_page s_read s_rows s_sounds s_clapped s_now s_nowLong s_ahead s_records s_keptSounds s_keptClapped s_keptRecords) sz)) 0 0 (va_A (wM cI q0 q1 q2 q3 q4 q5 q6 q7 q8 q9 q10 q11 q12 s_pageMany s_readMany s_readLate s_state s_many s_late s_armNow s_barNow s_skips s_hallsRead s_nowArm s_turnedMany s_recordMany s_beganMany s_seedNow s_keptHall s_keptArm s_keptBar s_keptSkips s_keptRecordMany s_hash s_page s_read s_rows s_sounds s_clapped s_now s_nowLong s_ahead s_records s_keptSounds s_keptClapped s_keptRecords) sz) := by
  refine kStart (cc := cX6_asItIs) (maxL := 2) (ret := none) (Qc := fun A => kQv D cI (wM cI q0 q1 q2 q3 q4 q5 q6 q7 q8 q9 q10 q11 q12 s_pageMany s_readMany s_readLate s_state s_many s_late s_armNow s_barNow s_skips s_hallsRead r.1 s_turnedMany s_recordMany s_beganMany s_seedNow s_keptHall s_keptArm s_keptBar s_keptSkips s_keptRecordMany s_hash s_page s_read s_rows s_sounds s_clapped r.2.1 r.2.2 s_ahead s_records s_keptSounds s_keptClapped s_keptRecords) A) (by decide) rfl (Nat.le_of_ble_eq_true rfl) ?_
  intro p e s m args below meth c A ls hx hb hr hts hown hlocks hin hml hN hST hA hS hP hK hD hl
  have hown : s.vm.findClass RX6 = some m.cls := hown
  have hl : lv_has ls 2 [(0, .ref q0)] := hl
  have hRet : ∀ (H : Heap) (locs : List Loc) (ls : Array Slot) (pc : Nat), va_P D vwCl (wM cI q0 q1 q2 q3 q4 q5 q6 q7 q8 q9 q10 q11 q12 s_pageMany s_readMany s_readLate s_state s_many s_late s_armNow s_barNow s_skips s_hallsRead r.1 s_turnedMany s_recordMany s_beganMany s_seedNow s_keptHall s_keptArm s_keptBar s_keptSkips s_keptRecordMany s_hash s_page s_read s_rows s_sounds s_clapped r.2.1 r.2.2 s_ahead s_records s_keptSounds s_keptClapped s_keptRecords) H → va_D A (wM cI q0 q1 q2 q3 q4 q5 q6 q7 q8 q9 q10 q11 q12 s_pageMany s_readMany s_readLate s_state s_many s_late s_armNow s_barNow s_skips s_hallsRead r.1 s_turnedMany s_recordMany s_beganMany s_seedNow s_keptHall s_keptArm s_keptBar s_keptSkips s_keptRecordMany s_hash s_page s_read s_rows s_sounds s_clapped r.2.1 r.2.2 s_ahead s_records s_keptSounds s_keptClapped s_keptRecords) → va_S A s.heap H locs → decode cX6_asItIs pc = .ok (.return_, 1) → W p l e rX6_asItIs s m args below meth c H locs 0 0 (MQ below (kQv D cI (wM cI q0 q1 q2 q3 q4 q5 q6 q7 q8 q9 q10 q11 q12 s_pageMany s_readMany s_readLate s_state s_many s_late s_armNow s_barNow s_skips s_hallsRead r.1 s_turnedMany s_recordMany s_beganMany s_seedNow s_keptHall s_keptArm s_keptBar s_keptSkips s_keptRecordMany s_hash s_page s_read s_rows s_sounds s_clapped r.2.1 r.2.2 s_ahead s_records s_keptSounds s_keptClapped s_keptRecords) A) args s 0 0 A) (F0 m pc ls []) := fun H locs ls pc hP hD hS hd => k_vret hx hb hr hlocks hK hP hD hS hd
  generalize MQ below (kQv D cI (wM cI q0 q1 q2 q3 q4 q5 q6 q7 q8 q9 q10 q11 q12 s_pageMany s_readMany s_readLate s_state s_many s_late s_armNow s_barNow s_skips s_hallsRead r.1 s_turnedMany s_recordMany s_beganMany s_seedNow s_keptHall s_keptArm s_keptBar s_keptSkips s_keptRecordMany s_hash s_page s_read s_rows s_sounds s_clapped r.2.1 r.2.2 s_ahead s_records s_keptSounds s_keptClapped s_keptRecords) A) args s 0 0 A = Q at hRet ⊢
  unfold fX6_asItIs at h
  refine lv_iconst (v := 0) hx hb dX6_asItIs_0 (by decide) ?_
  refine lv_istore_n (lv' := [(1, .int 0), (0, .ref q0)]) hx hb dX6_asItIs_1 rfl hl (by decide) rfl (fun ls hl => ?_)
  obtain ⟨u2, hu2, h⟩ := k_bs h
  refine kIter_ind (fun (z1 : (Int32 × (Nat → Int32) × (Nat → Int32))) (u2 : (Int32 × (Nat → Int32) × (Nat → Int32))) => ∀ (H : Heap) (locs : List Loc) (ls : Array Slot), va_P D vwCl (wM cI q0 q1 q2 q3 q4 q5 q6 q7 q8 q9 q10 q11 q12 s_pageMany s_readMany s_readLate s_state s_many s_late s_armNow s_barNow s_skips s_hallsRead s_nowArm s_turnedMany s_recordMany s_beganMany s_seedNow s_keptHall s_keptArm s_keptBar s_keptSkips s_keptRecordMany s_hash s_page s_read s_rows s_sounds s_clapped z1.2.1 z1.2.2 s_ahead s_records s_keptSounds s_keptClapped s_keptRecords) H → va_D A (wM cI q0 q1 q2 q3 q4 q5 q6 q7 q8 q9 q10 q11 q12 s_pageMany s_readMany s_readLate s_state s_many s_late s_armNow s_barNow s_skips s_hallsRead s_nowArm s_turnedMany s_recordMany s_beganMany s_seedNow s_keptHall s_keptArm s_keptBar s_keptSkips s_keptRecordMany s_hash s_page s_read s_rows s_sounds s_clapped z1.2.1 z1.2.2 s_ahead s_records s_keptSounds s_keptClapped s_keptRecords) → va_S A s.heap H locs → lv_has ls 2 [(0, .ref q0), (1, .int z1.1)] → (∀ (H : Heap) (locs : List Loc) (ls : Array Slot), va_P D vwCl (wM cI q0 q1 q2 q3 q4 q5 q6 q7 q8 q9 q10 q11 q12 s_pageMany s_readMany s_readLate s_state s_many s_late s_armNow s_barNow s_skips s_hallsRead s_nowArm s_turnedMany s_recordMany s_beganMany s_seedNow s_keptHall s_keptArm s_keptBar s_keptSkips s_keptRecordMany s_hash s_page s_read s_rows s_sounds s_clapped u2.2.1 u2.2.2 s_ahead s_records s_keptSounds s_keptClapped s_keptRecords) H → va_D A (wM cI q0 q1 q2 q3 q4 q5 q6 q7 q8 q9 q10 q11 q12 s_pageMany s_readMany s_readLate s_state s_many s_late s_armNow s_barNow s_skips s_hallsRead s_nowArm s_turnedMany s_recordMany s_beganMany s_seedNow s_keptHall s_keptArm s_keptBar s_keptSkips s_keptRecordMany s_hash s_page s_read s_rows s_sounds s_clapped u2.2.1 u2.2.2 s_ahead s_records s_keptSounds s_keptClapped s_keptRecords) → va_S A s.heap H locs → lv_has ls 2 [(0, .ref q0), (1, .int u2.1)] → W p l e rX6_asItIs s m args below meth c H locs 0 0 Q (F0 m 38 ls [])) → W p l e rX6_asItIs s m args below meth c H locs 0 0 Q (F0 m 2 ls [])) ?_ _ _ _ hu2 _ _ _ hP hD hS (lv_sub hl [1, 0] rfl) ?_
  · intro rc1 ih1 z1 u2 h H locs ls hP hD hS hl kx1
    unfold fX6_asItIs_L1 at h
    refine lv_iload_n hx hb dX6_asItIs_2 rfl (lv_at hl 1 rfl) ?_
    refine lv_bipush (v := 8) hx hb dX6_asItIs_3 (by decide) ?_
    refine lv_icmp_ge (tgt := 38) hx hb dX6_asItIs_5 (by decide) (fun c0 => ?_) (fun c0 => ?_)
    · have h := (if_pos c0).symm.trans h
      have h := Option.some.inj h
      subst h
      exact kx1 _ _ _ hP hD hS (lv_sub hl [0, 1] rfl)
    · have h := (if_neg c0).symm.trans h
      refine lv_aload_n hx hb dX6_asItIs_8 rfl (lv_at hl 0 rfl) ?_
      refine va_get (D := D) (ci := 6) (v := .ref q6) (C := RX6) (T := TX6) (N := 33) hx hb hts iX6_asItIs_X6 hown hK hP 0 rfl rfl 15 (by decide) (hts (.fieldLink RX6 25 "ClappedWrongModel" "now" "[I") (by decide +kernel)) (fun _ h9 => h9) rfl dX6_asItIs_9 ?_
      refine lv_iload_n hx hb dX6_asItIs_12 rfl (lv_at hl 1 rfl) ?_
      refine lv_aload_n hx hb dX6_asItIs_13 rfl (lv_at hl 0 rfl) ?_
      refine va_get (D := D) (ci := 6) (v := .ref q4) (C := RX6) (T := TX6) (N := 33) hx hb hts iX6_asItIs_X6 hown hK hP 0 rfl rfl 13 (by decide) (hts (.fieldLink RX6 19 "ClappedWrongModel" "sounds" "[I") (by decide +kernel)) (fun _ h9 => h9) rfl dX6_asItIs_14 ?_
      refine lv_iload_n hx hb dX6_asItIs_17 rfl (lv_at hl 1 rfl) ?_
      refine k_iald hx hb hK hP 4 rfl dX6_asItIs_18 h (fun v3 h => ?_)
      refine k_iast hx hb hK hP hD hS 6 rfl dX6_asItIs_19 h (fun g4 => (wM cI q0 q1 q2 q3 q4 q5 q6 q7 q8 q9 q10 q11 q12 s_pageMany s_readMany s_readLate s_state s_many s_late s_armNow s_barNow s_skips s_hallsRead s_nowArm s_turnedMany s_recordMany s_beganMany s_seedNow s_keptHall s_keptArm s_keptBar s_keptSkips s_keptRecordMany s_hash s_page s_read s_rows s_sounds s_clapped g4 z1.2.2 s_ahead s_records s_keptSounds s_keptClapped s_keptRecords)) (fun _ => rfl) (fun g4 H locs h hP hD hS => ?_)
      refine lv_aload_n hx hb dX6_asItIs_20 rfl (lv_at hl 0 rfl) ?_
      refine va_get (D := D) (ci := 6) (v := .ref q7) (C := RX6) (T := TX6) (N := 33) hx hb hts iX6_asItIs_X6 hown hK hP 0 rfl rfl 16 (by decide) (hts (.fieldLink RX6 28 "ClappedWrongModel" "nowLong" "[I") (by decide +kernel)) (fun _ h9 => h9) rfl dX6_asItIs_21 ?_
      refine lv_iload_n hx hb dX6_asItIs_24 rfl (lv_at hl 1 rfl) ?_
      refine lv_aload_n hx hb dX6_asItIs_25 rfl (lv_at hl 0 rfl) ?_
      refine va_get (D := D) (ci := 6) (v := .ref q5) (C := RX6) (T := TX6) (N := 33) hx hb hts iX6_asItIs_X6 hown hK hP 0 rfl rfl 14 (by decide) (hts (.fieldLink RX6 22 "ClappedWrongModel" "clapped" "[I") (by decide +kernel)) (fun _ h9 => h9) rfl dX6_asItIs_26 ?_
      refine lv_iload_n hx hb dX6_asItIs_29 rfl (lv_at hl 1 rfl) ?_
      refine k_iald hx hb hK hP 5 rfl dX6_asItIs_30 h (fun v5 h => ?_)
      refine k_iast hx hb hK hP hD hS 7 rfl dX6_asItIs_31 h (fun g6 => (wM cI q0 q1 q2 q3 q4 q5 q6 q7 q8 q9 q10 q11 q12 s_pageMany s_readMany s_readLate s_state s_many s_late s_armNow s_barNow s_skips s_hallsRead s_nowArm s_turnedMany s_recordMany s_beganMany s_seedNow s_keptHall s_keptArm s_keptBar s_keptSkips s_keptRecordMany s_hash s_page s_read s_rows s_sounds s_clapped g4 g6 s_ahead s_records s_keptSounds s_keptClapped s_keptRecords)) (fun _ => rfl) (fun g6 H locs h hP hD hS => ?_)
      refine lv_iinc (v := (z1.1 + 1)) (lv' := [(1, .int (z1.1 + 1)), (0, .ref q0)]) hx hb dX6_asItIs_32 hl (k := 1) rfl rfl (by decide) rfl (fun ls hl => ?_)
      refine lv_goto (tgt := 2) hx hb dX6_asItIs_35 (by decide) ?_
      exact ih1 _ _ h _ _ _ hP hD hS (lv_sub hl [1, 0] rfl) kx1
  · intro H locs ls hP hD hS hl
    refine lv_aload_n hx hb dX6_asItIs_38 rfl (lv_at hl 0 rfl) ?_
    refine lv_aload_n hx hb dX6_asItIs_39 rfl (lv_at hl 0 rfl) ?_
    refine va_get (D := D) (ci := 6) (v := .int s_armNow) (C := RX6) (T := TX6) (N := 33) hx hb hts iX6_asItIs_X6 hown hK hP 0 rfl rfl 8 (by decide) (hts (.fieldLink RX6 90 "ClappedWrongModel" "armNow" "I") (by decide +kernel)) (fun _ h9 => h9) rfl dX6_asItIs_40 ?_
    refine va_put (D := D) (ci := 6) (v := .int s_armNow) (ty := .int) (C := RX6) (T := TX6) (N := 33) hx hb hts iX6_asItIs_X6 tyX6 tyX6_ok nmX6 hown hK hP hD hS 0 rfl rfl 18 (by decide) (hts (.fieldLink RX6 124 "ClappedWrongModel" "nowArm" "I") (by decide +kernel)) (fun _ h9 => h9) rfl (by decide +kernel) rfl rfl (Nat.le_of_ble_eq_true rfl) dX6_asItIs_43 (fun H locs hP hD hS => ?_)
    have hP : va_P D vwCl (wM cI q0 q1 q2 q3 q4 q5 q6 q7 q8 q9 q10 q11 q12 s_pageMany s_readMany s_readLate s_state s_many s_late s_armNow s_barNow s_skips s_hallsRead s_armNow s_turnedMany s_recordMany s_beganMany s_seedNow s_keptHall s_keptArm s_keptBar s_keptSkips s_keptRecordMany s_hash s_page s_read s_rows s_sounds s_clapped u2.2.1 u2.2.2 s_ahead s_records s_keptSounds s_keptClapped s_keptRecords) H := hP
    have hD : va_D A (wM cI q0 q1 q2 q3 q4 q5 q6 q7 q8 q9 q10 q11 q12 s_pageMany s_readMany s_readLate s_state s_many s_late s_armNow s_barNow s_skips s_hallsRead s_armNow s_turnedMany s_recordMany s_beganMany s_seedNow s_keptHall s_keptArm s_keptBar s_keptSkips s_keptRecordMany s_hash s_page s_read s_rows s_sounds s_clapped u2.2.1 u2.2.2 s_ahead s_records s_keptSounds s_keptClapped s_keptRecords) := hD
    have h := Option.some.inj h
    subst h
    exact hRet _ _ _ _ hP hD hS dX6_asItIs_46
theorem iX6_isStubborn_X6 : ∀ w ∈ wsX60, w ∈ wsX6_isStubborn := by decide +kernel
def rX6_isStubborn : Room := { frames := 0, cells := 0, slots := 0, locals := 0 }
set_option maxHeartbeats 4000000 in
set_option maxRecDepth 100000 in
theorem mX6_isStubborn (l : Launch) (D : va_G) (cI : ClassId) (ad : Nat × Nat) (q0 q1 q2 q3 q4 q5 q6 q7 q8 q9 q10 q11 q12 : Nat) (sz : Nat) (s_pageMany : Int32) (s_readMany : Int32) (s_readLate : Int32) (s_state : Int32) (s_many : Int32) (s_late : Int32) (s_armNow : Int32) (s_barNow : Int32) (s_skips : Int32) (s_hallsRead : Int32) (s_nowArm : Int32) (s_turnedMany : Int32) (s_recordMany : Int32) (s_beganMany : Int32) (s_seedNow : Int32) (s_keptHall : Int32) (s_keptArm : Int32) (s_keptBar : Int32) (s_keptSkips : Int32) (s_keptRecordMany : Int32) (s_hash : Int64) (s_page : (Nat → Int32)) (s_read : (Nat → Int32)) (s_rows : (Nat → Int32)) (s_sounds : (Nat → Int32)) (s_clapped : (Nat → Int32)) (s_now : (Nat → Int32)) (s_nowLong : (Nat → Int32)) (s_ahead : (Nat → Int32)) (s_records : (Nat → Int32)) (s_keptSounds : (Nat → Int32)) (s_keptClapped : (Nat → Int32)) (s_keptRecords : (Nat → Int32)) (p1 : Int32) (r : Int32) (h : fX6_isStubborn s_rows p1 = some r) : Met l yX6_isStubborn wsX6_isStubborn rX6_isStubborn (kPre D cI ad [.ref q0, .int p1] (wM cI q0 q1 q2 q3 q4 q5 q6 q7 q8 q9 q10 q11 q12 s_pageMany s_readMany s_readLate s_state s_many s_late s_armNow s_barNow s_skips s_hallsRead s_nowArm s_turnedMany s_recordMany s_beganMany s_seedNow s_keptHall s_keptArm s_keptBar s_keptSkips s_keptRecordMany s_hash s_page s_read s_rows s_sounds s_clapped s_now s_nowLong s_ahead s_records s_keptSounds s_keptClapped s_keptRecords) sz) (kQi D cI r (wM cI q0 q1 q2 q3 q4 q5 q6 q7 q8 q9 q10 q11 q12 s_pageMany s_readMany s_readLate s_state s_many s_late s_armNow s_barNow s_skips s_hallsRead s_nowArm s_turnedMany s_recordMany s_beganMany s_seedNow s_keptHall s_keptArm s_keptBar s_keptSkips s_keptRecordMany s_hash s_page s_read s_rows s_sounds s_clapped s_now s_nowLong s_ahead s_records s_keptSounds s_keptClapped s_keptRecords) (va_A (wM cI q0 q1 q2 q3 q4 q5 q6 q7 q8 q9 q10 q11 q12 s_pageMany s_readMany s_readLate s_state s_many s_late s_armNow s_barNow s_skips s_hallsRead s_nowArm s_turnedMany s_recordMany s_beganMany s_seedNow s_keptHall s_keptArm s_keptBar s_keptSkips s_keptRecordMany s_hash s_page s_read s_rows s_sounds s_clapped s_now s_nowLong s_ahead s_records s_keptSounds s_keptClapped s_keptRecords) sz)) 0 0 (va_A (wM cI q0 q1 q2 q3 q4 q5 q6 q7 q8 q9 q10 q11 q12 s_pageMany s_readMany s_readLate s_state s_many s_late s_armNow s_barNow s_skips s_hallsRead s_nowArm s_turnedMany s_recordMany s_beganMany s_seedNow s_keptHall s_keptArm s_keptBar s_keptSkips s_keptRecordMany s_hash s_page s_read s_rows s_sounds s_clapped s_now s_nowLong s_ahead s_records s_keptSounds s_keptClapped s_keptRecords) sz) := by
  refine kStart (cc := cX6_isStubborn) (maxL := 2) (ret := (some .boolean)) (Qc := fun A => kQi D cI r (wM cI q0 q1 q2 q3 q4 q5 q6 q7 q8 q9 q10 q11 q12 s_pageMany s_readMany s_readLate s_state s_many s_late s_armNow s_barNow s_skips s_hallsRead s_nowArm s_turnedMany s_recordMany s_beganMany s_seedNow s_keptHall s_keptArm s_keptBar s_keptSkips s_keptRecordMany s_hash s_page s_read s_rows s_sounds s_clapped s_now s_nowLong s_ahead s_records s_keptSounds s_keptClapped s_keptRecords) A) (by decide) rfl (Nat.le_of_ble_eq_true rfl) ?_
  intro p e s m args below meth c A ls hx hb hr hts hown hlocks hin hml hN hST hA hS hP hK hD hl
  have hown : s.vm.findClass RX6 = some m.cls := hown
  have hl : lv_has ls 2 [(0, .ref q0), (1, .int p1)] := hl
  have hRet : ∀ (H : Heap) (locs : List Loc) (ls : Array Slot) (pc : Nat), narrow .boolean (.int r) = .int r → va_P D vwCl (wM cI q0 q1 q2 q3 q4 q5 q6 q7 q8 q9 q10 q11 q12 s_pageMany s_readMany s_readLate s_state s_many s_late s_armNow s_barNow s_skips s_hallsRead s_nowArm s_turnedMany s_recordMany s_beganMany s_seedNow s_keptHall s_keptArm s_keptBar s_keptSkips s_keptRecordMany s_hash s_page s_read s_rows s_sounds s_clapped s_now s_nowLong s_ahead s_records s_keptSounds s_keptClapped s_keptRecords) H → va_D A (wM cI q0 q1 q2 q3 q4 q5 q6 q7 q8 q9 q10 q11 q12 s_pageMany s_readMany s_readLate s_state s_many s_late s_armNow s_barNow s_skips s_hallsRead s_nowArm s_turnedMany s_recordMany s_beganMany s_seedNow s_keptHall s_keptArm s_keptBar s_keptSkips s_keptRecordMany s_hash s_page s_read s_rows s_sounds s_clapped s_now s_nowLong s_ahead s_records s_keptSounds s_keptClapped s_keptRecords) → va_S A s.heap H locs → decode cX6_isStubborn pc = .ok (.ireturn, 1) → W p l e rX6_isStubborn s m args below meth c H locs 0 0 (MQ below (kQi D cI r (wM cI q0 q1 q2 q3 q4 q5 q6 q7 q8 q9 q10 q11 q12 s_pageMany s_readMany s_readLate s_state s_many s_late s_armNow s_barNow s_skips s_hallsRead s_nowArm s_turnedMany s_recordMany s_beganMany s_seedNow s_keptHall s_keptArm s_keptBar s_keptSkips s_keptRecordMany s_hash s_page s_read s_rows s_sounds s_clapped s_now s_nowLong s_ahead s_records s_keptSounds s_keptClapped s_keptRecords) A) args s 0 0 A) (F0 m pc ls [.int r]) := fun H locs ls pc hz hP hD hS hd => k_zret hx hb hr hlocks hK hz hP hD hS hd
  generalize MQ below (kQi D cI r (wM cI q0 q1 q2 q3 q4 q5 q6 q7 q8 q9 q10 q11 q12 s_pageMany s_readMany s_readLate s_state s_many s_late s_armNow s_barNow s_skips s_hallsRead s_nowArm s_turnedMany s_recordMany s_beganMany s_seedNow s_keptHall s_keptArm s_keptBar s_keptSkips s_keptRecordMany s_hash s_page s_read s_rows s_sounds s_clapped s_now s_nowLong s_ahead s_records s_keptSounds s_keptClapped s_keptRecords) A) args s 0 0 A = Q at hRet ⊢
  unfold fX6_isStubborn at h
  refine lv_aload_n hx hb dX6_isStubborn_0 rfl (lv_at hl 0 rfl) ?_
  refine va_get (D := D) (ci := 6) (v := .ref q3) (C := RX6) (T := TX6) (N := 33) hx hb hts iX6_isStubborn_X6 hown hK hP 0 rfl rfl 12 (by decide) (hts (.fieldLink RX6 16 "ClappedWrongModel" "rows" "[I") (by decide +kernel)) (fun _ h9 => h9) rfl dX6_isStubborn_1 ?_
  refine lv_iconst (v := 3) hx hb dX6_isStubborn_4 (by decide) ?_
  refine lv_iload_n hx hb dX6_isStubborn_5 rfl (lv_at hl 1 rfl) ?_
  refine lv_imul hx hb dX6_isStubborn_6 ?_
  refine k_iald hx hb hK hP 3 rfl dX6_isStubborn_7 h (fun v1 h => ?_)
  refine lv_iconst (v := 1) hx hb dX6_isStubborn_8 (by decide) ?_
  refine lv_icmp_eq (tgt := 24) hx hb dX6_isStubborn_9 (by decide) (fun c0 => ?_) (fun c0 => ?_)
  · have h := (if_pos c0).symm.trans h
    refine lv_iconst (v := 1) hx hb dX6_isStubborn_24 (by decide) ?_
    refine lv_goto (tgt := 29) hx hb dX6_isStubborn_25 (by decide) ?_
    have h := Option.some.inj h
    subst h
    exact hRet _ _ _ _ kn_bo1 hP hD hS dX6_isStubborn_29
  · have h := (if_neg c0).symm.trans h
    refine lv_aload_n hx hb dX6_isStubborn_12 rfl (lv_at hl 0 rfl) ?_
    refine va_get (D := D) (ci := 6) (v := .ref q3) (C := RX6) (T := TX6) (N := 33) hx hb hts iX6_isStubborn_X6 hown hK hP 0 rfl rfl 12 (by decide) (hts (.fieldLink RX6 16 "ClappedWrongModel" "rows" "[I") (by decide +kernel)) (fun _ h9 => h9) rfl dX6_isStubborn_13 ?_
    refine lv_iconst (v := 3) hx hb dX6_isStubborn_16 (by decide) ?_
    refine lv_iload_n hx hb dX6_isStubborn_17 rfl (lv_at hl 1 rfl) ?_
    refine lv_imul hx hb dX6_isStubborn_18 ?_
    refine k_iald hx hb hK hP 3 rfl dX6_isStubborn_19 h (fun v2 h => ?_)
    refine lv_iconst (v := 4) hx hb dX6_isStubborn_20 (by decide) ?_
    refine lv_icmp_ne (tgt := 28) hx hb dX6_isStubborn_21 (by decide) (fun c0 => ?_) (fun c0 => ?_)
    · have h := (if_neg c0).symm.trans h
      refine lv_iconst (v := 0) hx hb dX6_isStubborn_28 (by decide) ?_
      have h := Option.some.inj h
      subst h
      exact hRet _ _ _ _ kn_bo0 hP hD hS dX6_isStubborn_29
    · have h := (if_pos c0).symm.trans h
      refine lv_iconst (v := 1) hx hb dX6_isStubborn_24 (by decide) ?_
      refine lv_goto (tgt := 29) hx hb dX6_isStubborn_25 (by decide) ?_
      have h := Option.some.inj h
      subst h
      exact hRet _ _ _ _ kn_bo1 hP hD hS dX6_isStubborn_29
theorem iX6_palmsBy_X6 : ∀ w ∈ wsX60, w ∈ wsX6_palmsBy := by decide +kernel
def rX6_palmsBy : Room := { frames := 2, cells := 0, slots := 0, locals := 46 }
set_option maxHeartbeats 4000000 in
set_option maxRecDepth 100000 in
theorem mX6_palmsBy (l : Launch) (D : va_G) (cI : ClassId) (ad : Nat × Nat) (q0 q1 q2 q3 q4 q5 q6 q7 q8 q9 q10 q11 q12 : Nat) (sz : Nat) (s_pageMany : Int32) (s_readMany : Int32) (s_readLate : Int32) (s_state : Int32) (s_many : Int32) (s_late : Int32) (s_armNow : Int32) (s_barNow : Int32) (s_skips : Int32) (s_hallsRead : Int32) (s_nowArm : Int32) (s_turnedMany : Int32) (s_recordMany : Int32) (s_beganMany : Int32) (s_seedNow : Int32) (s_keptHall : Int32) (s_keptArm : Int32) (s_keptBar : Int32) (s_keptSkips : Int32) (s_keptRecordMany : Int32) (s_hash : Int64) (s_page : (Nat → Int32)) (s_read : (Nat → Int32)) (s_rows : (Nat → Int32)) (s_sounds : (Nat → Int32)) (s_clapped : (Nat → Int32)) (s_now : (Nat → Int32)) (s_nowLong : (Nat → Int32)) (s_ahead : (Nat → Int32)) (s_records : (Nat → Int32)) (s_keptSounds : (Nat → Int32)) (s_keptClapped : (Nat → Int32)) (s_keptRecords : (Nat → Int32)) (p1 : Int32) (p2 : Int32) (r : Int32) (h : fX6_palmsBy s_many s_rows s_ahead p1 p2 = some r) : Met l yX6_palmsBy wsX6_palmsBy rX6_palmsBy (kPre D cI ad [.ref q0, .int p1, .int p2] (wM cI q0 q1 q2 q3 q4 q5 q6 q7 q8 q9 q10 q11 q12 s_pageMany s_readMany s_readLate s_state s_many s_late s_armNow s_barNow s_skips s_hallsRead s_nowArm s_turnedMany s_recordMany s_beganMany s_seedNow s_keptHall s_keptArm s_keptBar s_keptSkips s_keptRecordMany s_hash s_page s_read s_rows s_sounds s_clapped s_now s_nowLong s_ahead s_records s_keptSounds s_keptClapped s_keptRecords) sz) (kQi D cI r (wM cI q0 q1 q2 q3 q4 q5 q6 q7 q8 q9 q10 q11 q12 s_pageMany s_readMany s_readLate s_state s_many s_late s_armNow s_barNow s_skips s_hallsRead s_nowArm s_turnedMany s_recordMany s_beganMany s_seedNow s_keptHall s_keptArm s_keptBar s_keptSkips s_keptRecordMany s_hash s_page s_read s_rows s_sounds s_clapped s_now s_nowLong s_ahead s_records s_keptSounds s_keptClapped s_keptRecords) (va_A (wM cI q0 q1 q2 q3 q4 q5 q6 q7 q8 q9 q10 q11 q12 s_pageMany s_readMany s_readLate s_state s_many s_late s_armNow s_barNow s_skips s_hallsRead s_nowArm s_turnedMany s_recordMany s_beganMany s_seedNow s_keptHall s_keptArm s_keptBar s_keptSkips s_keptRecordMany s_hash s_page s_read s_rows s_sounds s_clapped s_now s_nowLong s_ahead s_records s_keptSounds s_keptClapped s_keptRecords) sz)) 0 0 (va_A (wM cI q0 q1 q2 q3 q4 q5 q6 q7 q8 q9 q10 q11 q12 s_pageMany s_readMany s_readLate s_state s_many s_late s_armNow s_barNow s_skips s_hallsRead s_nowArm s_turnedMany s_recordMany s_beganMany s_seedNow s_keptHall s_keptArm s_keptBar s_keptSkips s_keptRecordMany s_hash s_page s_read s_rows s_sounds s_clapped s_now s_nowLong s_ahead s_records s_keptSounds s_keptClapped s_keptRecords) sz) := by
  refine kStart (cc := cX6_palmsBy) (maxL := 5) (ret := (some .int)) (Qc := fun A => kQi D cI r (wM cI q0 q1 q2 q3 q4 q5 q6 q7 q8 q9 q10 q11 q12 s_pageMany s_readMany s_readLate s_state s_many s_late s_armNow s_barNow s_skips s_hallsRead s_nowArm s_turnedMany s_recordMany s_beganMany s_seedNow s_keptHall s_keptArm s_keptBar s_keptSkips s_keptRecordMany s_hash s_page s_read s_rows s_sounds s_clapped s_now s_nowLong s_ahead s_records s_keptSounds s_keptClapped s_keptRecords) A) (by decide) rfl (Nat.le_of_ble_eq_true rfl) ?_
  intro p e s m args below meth c A ls hx hb hr hts hown hlocks hin hml hN hST hA hS hP hK hD hl
  have hown : s.vm.findClass RX6 = some m.cls := hown
  have hl : lv_has ls 5 [(0, .ref q0), (1, .int p1), (2, .int p2)] := hl
  have hRet : ∀ (H : Heap) (locs : List Loc) (ls : Array Slot) (pc : Nat), va_P D vwCl (wM cI q0 q1 q2 q3 q4 q5 q6 q7 q8 q9 q10 q11 q12 s_pageMany s_readMany s_readLate s_state s_many s_late s_armNow s_barNow s_skips s_hallsRead s_nowArm s_turnedMany s_recordMany s_beganMany s_seedNow s_keptHall s_keptArm s_keptBar s_keptSkips s_keptRecordMany s_hash s_page s_read s_rows s_sounds s_clapped s_now s_nowLong s_ahead s_records s_keptSounds s_keptClapped s_keptRecords) H → va_D A (wM cI q0 q1 q2 q3 q4 q5 q6 q7 q8 q9 q10 q11 q12 s_pageMany s_readMany s_readLate s_state s_many s_late s_armNow s_barNow s_skips s_hallsRead s_nowArm s_turnedMany s_recordMany s_beganMany s_seedNow s_keptHall s_keptArm s_keptBar s_keptSkips s_keptRecordMany s_hash s_page s_read s_rows s_sounds s_clapped s_now s_nowLong s_ahead s_records s_keptSounds s_keptClapped s_keptRecords) → va_S A s.heap H locs → decode cX6_palmsBy pc = .ok (.ireturn, 1) → W p l e rX6_palmsBy s m args below meth c H locs 0 0 (MQ below (kQi D cI r (wM cI q0 q1 q2 q3 q4 q5 q6 q7 q8 q9 q10 q11 q12 s_pageMany s_readMany s_readLate s_state s_many s_late s_armNow s_barNow s_skips s_hallsRead s_nowArm s_turnedMany s_recordMany s_beganMany s_seedNow s_keptHall s_keptArm s_keptBar s_keptSkips s_keptRecordMany s_hash s_page s_read s_rows s_sounds s_clapped s_now s_nowLong s_ahead s_records s_keptSounds s_keptClapped s_keptRecords) A) args s 0 0 A) (F0 m pc ls [.int r]) := fun H locs ls pc hP hD hS hd => k_iret hx hb hr hlocks hK hP hD hS hd
  generalize MQ below (kQi D cI r (wM cI q0 q1 q2 q3 q4 q5 q6 q7 q8 q9 q10 q11 q12 s_pageMany s_readMany s_readLate s_state s_many s_late s_armNow s_barNow s_skips s_hallsRead s_nowArm s_turnedMany s_recordMany s_beganMany s_seedNow s_keptHall s_keptArm s_keptBar s_keptSkips s_keptRecordMany s_hash s_page s_read s_rows s_sounds s_clapped s_now s_nowLong s_ahead s_records s_keptSounds s_keptClapped s_keptRecords) A) args s 0 0 A = Q at hRet ⊢
  unfold fX6_palmsBy at h
  refine lv_iconst (v := 0) hx hb dX6_palmsBy_0 (by decide) ?_
  refine lv_istore_n (lv' := [(3, .int 0), (0, .ref q0), (1, .int p1), (2, .int p2)]) hx hb dX6_palmsBy_1 rfl hl (by decide) rfl (fun ls hl => ?_)
  refine lv_iload_n hx hb dX6_palmsBy_2 rfl (lv_at hl 2 rfl) ?_
  refine lv_iconst (v := 1) hx hb dX6_palmsBy_3 (by decide) ?_
  refine lv_isub hx hb dX6_palmsBy_4 ?_
  refine lv_istore (lv' := [(4, .int (p1 - 1)), (3, .int 0), (0, .ref q0), (1, .int p1), (2, .int p2)]) hx hb dX6_palmsBy_5 hl (by decide) rfl (fun ls hl => ?_)
  obtain ⟨u2, hu2, h⟩ := k_bs h
  refine kIter_ind (fun (z1 : (Int32 × Int32)) (u2 : (Int32 × Int32)) => ∀ (H : Heap) (locs : List Loc) (ls : Array Slot), va_P D vwCl (wM cI q0 q1 q2 q3 q4 q5 q6 q7 q8 q9 q10 q11 q12 s_pageMany s_readMany s_readLate s_state s_many s_late s_armNow s_barNow s_skips s_hallsRead s_nowArm s_turnedMany s_recordMany s_beganMany s_seedNow s_keptHall s_keptArm s_keptBar s_keptSkips s_keptRecordMany s_hash s_page s_read s_rows s_sounds s_clapped s_now s_nowLong s_ahead s_records s_keptSounds s_keptClapped s_keptRecords) H → va_D A (wM cI q0 q1 q2 q3 q4 q5 q6 q7 q8 q9 q10 q11 q12 s_pageMany s_readMany s_readLate s_state s_many s_late s_armNow s_barNow s_skips s_hallsRead s_nowArm s_turnedMany s_recordMany s_beganMany s_seedNow s_keptHall s_keptArm s_keptBar s_keptSkips s_keptRecordMany s_hash s_page s_read s_rows s_sounds s_clapped s_now s_nowLong s_ahead s_records s_keptSounds s_keptClapped s_keptRecords) → va_S A s.heap H locs → lv_has ls 5 [(0, .ref q0), (1, .int p1), (2, .int p2), (3, .int z1.1), (4, .int z1.2)] → (∀ (H : Heap) (locs : List Loc) (ls : Array Slot), va_P D vwCl (wM cI q0 q1 q2 q3 q4 q5 q6 q7 q8 q9 q10 q11 q12 s_pageMany s_readMany s_readLate s_state s_many s_late s_armNow s_barNow s_skips s_hallsRead s_nowArm s_turnedMany s_recordMany s_beganMany s_seedNow s_keptHall s_keptArm s_keptBar s_keptSkips s_keptRecordMany s_hash s_page s_read s_rows s_sounds s_clapped s_now s_nowLong s_ahead s_records s_keptSounds s_keptClapped s_keptRecords) H → va_D A (wM cI q0 q1 q2 q3 q4 q5 q6 q7 q8 q9 q10 q11 q12 s_pageMany s_readMany s_readLate s_state s_many s_late s_armNow s_barNow s_skips s_hallsRead s_nowArm s_turnedMany s_recordMany s_beganMany s_seedNow s_keptHall s_keptArm s_keptBar s_keptSkips s_keptRecordMany s_hash s_page s_read s_rows s_sounds s_clapped s_now s_nowLong s_ahead s_records s_keptSounds s_keptClapped s_keptRecords) → va_S A s.heap H locs → lv_has ls 5 [(0, .ref q0), (1, .int p1), (2, .int p2), (3, .int u2.1), (4, .int u2.2)] → W p l e rX6_palmsBy s m args below meth c H locs 0 0 Q (F0 m 63 ls [])) → W p l e rX6_palmsBy s m args below meth c H locs 0 0 Q (F0 m 7 ls [])) ?_ _ _ _ hu2 _ _ _ hP hD hS (lv_sub hl [2, 3, 4, 1, 0] rfl) ?_
  · intro rc1 ih1 z1 u2 h H locs ls hP hD hS hl kx1
    unfold fX6_palmsBy_L1 at h
    refine lv_iload hx hb dX6_palmsBy_7 (lv_at hl 4 rfl) ?_
    refine lv_iload_n hx hb dX6_palmsBy_9 rfl (lv_at hl 1 rfl) ?_
    refine lv_iconst (v := 1) hx hb dX6_palmsBy_10 (by decide) ?_
    refine lv_iadd hx hb dX6_palmsBy_11 ?_
    refine lv_icmp_gt (tgt := 63) hx hb dX6_palmsBy_12 (by decide) (fun c0 => ?_) (fun c0 => ?_)
    · have h := (if_pos c0).symm.trans h
      have h := Option.some.inj h
      subst h
      exact kx1 _ _ _ hP hD hS (lv_sub hl [0, 1, 2, 3, 4] rfl)
    · have h := (if_neg c0).symm.trans h
      refine lv_iload_n hx hb dX6_palmsBy_15 rfl (lv_at hl 3 rfl) ?_
      refine lv_aload_n hx hb dX6_palmsBy_16 rfl (lv_at hl 0 rfl) ?_
      refine lv_iload hx hb dX6_palmsBy_17 (lv_at hl 4 rfl) ?_
      obtain ⟨u3, hu3, h⟩ := k_bs h
      refine k_ciA (r := u3) (k2 := 0) (n2 := 0) (ws := (wM cI q0 q1 q2 q3 q4 q5 q6 q7 q8 q9 q10 q11 q12 s_pageMany s_readMany s_readLate s_state s_many s_late s_armNow s_barNow s_skips s_hallsRead s_nowArm s_turnedMany s_recordMany s_beganMany s_seedNow s_keptHall s_keptArm s_keptBar s_keptSkips s_keptRecordMany s_hash s_page s_read s_rows s_sounds s_clapped s_now s_nowLong s_ahead s_records s_keptSounds s_keptClapped s_keptRecords)) (wc' := (wM cI q0 q1 q2 q3 q4 q5 q6 q7 q8 q9 q10 q11 q12 s_pageMany s_readMany s_readLate s_state s_many s_late s_armNow s_barNow s_skips s_hallsRead s_nowArm s_turnedMany s_recordMany s_beganMany s_seedNow s_keptHall s_keptArm s_keptBar s_keptSkips s_keptRecordMany s_hash s_page s_read s_rows s_sounds s_clapped s_now s_nowLong s_ahead s_records s_keptSounds s_keptClapped s_keptRecords)) (va_runV (C := RX6) (As := [.int z1.2]) (rest := [.int z1.1]) ⟨hx, hb, hml, hown, hts⟩ (mX6_isRow l D cI ad q0 q1 q2 q3 q4 q5 q6 q7 q8 q9 q10 q11 q12 _ s_pageMany s_readMany s_readLate s_state s_many s_late s_armNow s_barNow s_skips s_hallsRead s_nowArm s_turnedMany s_recordMany s_beganMany s_seedNow s_keptHall s_keptArm s_keptBar s_keptSkips s_keptRecordMany s_hash s_page s_read s_rows s_sounds s_clapped s_now s_nowLong s_ahead s_records s_keptSounds s_keptClapped s_keptRecords z1.2 u3 hu3) (cwV 1 hts gX6_palmsBy_X6_isRow rfl rfl rfl (by decide +kernel) ⟨Nat.le_of_ble_eq_true rfl, Nat.le_of_ble_eq_true rfl⟩) (k_preA (q := (RX6, TX6, 33)) hN hST hA hK hP hD hS 0 (ci := 6) rfl rfl) rfl rfl hl.1 rfl (lv_room (Nat.le_of_ble_eq_true rfl)) dX6_palmsBy_19 ⟨Nat.le_of_ble_eq_true rfl, Nat.le_of_ble_eq_true rfl⟩) hP hD hS hA rfl rfl (fun H locs hP hD hS => ?_)
      refine lv_if_eq (tgt := 54) hx hb dX6_palmsBy_22 (by decide) (fun c0 => ?_) (fun c0 => ?_)
      · have h := (if_pos c0).symm.trans h
        refine lv_iconst (v := 0) hx hb dX6_palmsBy_54 (by decide) ?_
        refine lv_iadd hx hb dX6_palmsBy_55 ?_
        refine lv_istore_n (lv' := [(3, .int (z1.1 + 0)), (0, .ref q0), (1, .int p1), (2, .int p2), (4, .int z1.2)]) hx hb dX6_palmsBy_56 rfl hl (by decide) rfl (fun ls hl => ?_)
        refine lv_iinc (v := (z1.2 + 1)) (lv' := [(4, .int (z1.2 + 1)), (3, .int (z1.1 + 0)), (0, .ref q0), (1, .int p1), (2, .int p2)]) hx hb dX6_palmsBy_57 hl (k := 4) rfl rfl (by decide) rfl (fun ls hl => ?_)
        refine lv_goto (tgt := 7) hx hb dX6_palmsBy_60 (by decide) ?_
        exact ih1 _ _ h _ _ _ hP hD hS (lv_sub hl [2, 3, 4, 1, 0] rfl) kx1
      · have h := (if_neg c0).symm.trans h
        refine lv_aload_n hx hb dX6_palmsBy_25 rfl (lv_at hl 0 rfl) ?_
        refine va_get (D := D) (ci := 6) (v := .ref q8) (C := RX6) (T := TX6) (N := 33) hx hb hts iX6_palmsBy_X6 hown hK hP 0 rfl rfl 17 (by decide) (hts (.fieldLink RX6 31 "ClappedWrongModel" "ahead" "[I") (by decide +kernel)) (fun _ h9 => h9) rfl dX6_palmsBy_26 ?_
        refine lv_iload hx hb dX6_palmsBy_29 (lv_at hl 4 rfl) ?_
        refine k_iald hx hb hK hP 8 rfl dX6_palmsBy_31 h (fun v4 h => ?_)
        refine lv_iload_n hx hb dX6_palmsBy_32 rfl (lv_at hl 2 rfl) ?_
        refine lv_ishr hx hb dX6_palmsBy_33 ?_
        refine lv_iconst (v := 1) hx hb dX6_palmsBy_34 (by decide) ?_
        refine lv_iand hx hb dX6_palmsBy_35 ?_
        refine lv_iconst (v := 1) hx hb dX6_palmsBy_36 (by decide) ?_
        refine lv_icmp_ne (tgt := 54) hx hb dX6_palmsBy_37 (by decide) (fun c0 => ?_) (fun c0 => ?_)
        · have h := (if_neg c0).symm.trans h
          refine lv_iconst (v := 0) hx hb dX6_palmsBy_54 (by decide) ?_
          refine lv_iadd hx hb dX6_palmsBy_55 ?_
          refine lv_istore_n (lv' := [(3, .int (z1.1 + 0)), (0, .ref q0), (1, .int p1), (2, .int p2), (4, .int z1.2)]) hx hb dX6_palmsBy_56 rfl hl (by decide) rfl (fun ls hl => ?_)
          refine lv_iinc (v := (z1.2 + 1)) (lv' := [(4, .int (z1.2 + 1)), (3, .int (z1.1 + 0)), (0, .ref q0), (1, .int p1), (2, .int p2)]) hx hb dX6_palmsBy_57 hl (k := 4) rfl rfl (by decide) rfl (fun ls hl => ?_)
          refine lv_goto (tgt := 7) hx hb dX6_palmsBy_60 (by decide) ?_
          exact ih1 _ _ h _ _ _ hP hD hS (lv_sub hl [2, 3, 4, 1, 0] rfl) kx1
        · have h := (if_pos c0).symm.trans h
          refine lv_aload_n hx hb dX6_palmsBy_40 rfl (lv_at hl 0 rfl) ?_
          refine va_get (D := D) (ci := 6) (v := .ref q3) (C := RX6) (T := TX6) (N := 33) hx hb hts iX6_palmsBy_X6 hown hK hP 0 rfl rfl 12 (by decide) (hts (.fieldLink RX6 16 "ClappedWrongModel" "rows" "[I") (by decide +kernel)) (fun _ h9 => h9) rfl dX6_palmsBy_41 ?_
          refine lv_iconst (v := 3) hx hb dX6_palmsBy_44 (by decide) ?_
          refine lv_iload hx hb dX6_palmsBy_45 (lv_at hl 4 rfl) ?_
          refine lv_imul hx hb dX6_palmsBy_47 ?_
          refine lv_iconst (v := 1) hx hb dX6_palmsBy_48 (by decide) ?_
          refine lv_iadd hx hb dX6_palmsBy_49 ?_
          refine k_iald hx hb hK hP 3 rfl dX6_palmsBy_50 h (fun v5 h => ?_)
          refine lv_goto (tgt := 55) hx hb dX6_palmsBy_51 (by decide) ?_
          refine lv_iadd hx hb dX6_palmsBy_55 ?_
          refine lv_istore_n (lv' := [(3, .int (z1.1 + v5)), (0, .ref q0), (1, .int p1), (2, .int p2), (4, .int z1.2)]) hx hb dX6_palmsBy_56 rfl hl (by decide) rfl (fun ls hl => ?_)
          refine lv_iinc (v := (z1.2 + 1)) (lv' := [(4, .int (z1.2 + 1)), (3, .int (z1.1 + v5)), (0, .ref q0), (1, .int p1), (2, .int p2)]) hx hb dX6_palmsBy_57 hl (k := 4) rfl rfl (by decide) rfl (fun ls hl => ?_)
          refine lv_goto (tgt := 7) hx hb dX6_palmsBy_60 (by decide) ?_
          exact ih1 _ _ h _ _ _ hP hD hS (lv_sub hl [2, 3, 4, 1, 0] rfl) kx1
  · intro H locs ls hP hD hS hl
    refine lv_iload_n hx hb dX6_palmsBy_63 rfl (lv_at hl 3 rfl) ?_
    have h := Option.some.inj h
    subst h
    exact hRet _ _ _ _ hP hD hS dX6_palmsBy_64
theorem iX6_nextOf_X6 : ∀ w ∈ wsX60, w ∈ wsX6_nextOf := by decide +kernel
def rX6_nextOf : Room := { frames := 3, cells := 0, slots := 0, locals := 70 }
set_option maxHeartbeats 4000000 in
set_option maxRecDepth 100000 in
theorem mX6_nextOf (l : Launch) (D : va_G) (cI : ClassId) (ad : Nat × Nat) (q0 q1 q2 q3 q4 q5 q6 q7 q8 q9 q10 q11 q12 : Nat) (sz : Nat) (s_pageMany : Int32) (s_readMany : Int32) (s_readLate : Int32) (s_state : Int32) (s_many : Int32) (s_late : Int32) (s_armNow : Int32) (s_barNow : Int32) (s_skips : Int32) (s_hallsRead : Int32) (s_nowArm : Int32) (s_turnedMany : Int32) (s_recordMany : Int32) (s_beganMany : Int32) (s_seedNow : Int32) (s_keptHall : Int32) (s_keptArm : Int32) (s_keptBar : Int32) (s_keptSkips : Int32) (s_keptRecordMany : Int32) (s_hash : Int64) (s_page : (Nat → Int32)) (s_read : (Nat → Int32)) (s_rows : (Nat → Int32)) (s_sounds : (Nat → Int32)) (s_clapped : (Nat → Int32)) (s_now : (Nat → Int32)) (s_nowLong : (Nat → Int32)) (s_ahead : (Nat → Int32)) (s_records : (Nat → Int32)) (s_keptSounds : (Nat → Int32)) (s_keptClapped : (Nat → Int32)) (s_keptRecords : (Nat → Int32)) (p1 : Int32) (r : Int32) (h : fX6_nextOf s_many s_rows s_nowLong s_ahead s_nowArm p1 = some r) : Met l yX6_nextOf wsX6_nextOf rX6_nextOf (kPre D cI ad [.ref q0, .int p1] (wM cI q0 q1 q2 q3 q4 q5 q6 q7 q8 q9 q10 q11 q12 s_pageMany s_readMany s_readLate s_state s_many s_late s_armNow s_barNow s_skips s_hallsRead s_nowArm s_turnedMany s_recordMany s_beganMany s_seedNow s_keptHall s_keptArm s_keptBar s_keptSkips s_keptRecordMany s_hash s_page s_read s_rows s_sounds s_clapped s_now s_nowLong s_ahead s_records s_keptSounds s_keptClapped s_keptRecords) sz) (kQi D cI r (wM cI q0 q1 q2 q3 q4 q5 q6 q7 q8 q9 q10 q11 q12 s_pageMany s_readMany s_readLate s_state s_many s_late s_armNow s_barNow s_skips s_hallsRead s_nowArm s_turnedMany s_recordMany s_beganMany s_seedNow s_keptHall s_keptArm s_keptBar s_keptSkips s_keptRecordMany s_hash s_page s_read s_rows s_sounds s_clapped s_now s_nowLong s_ahead s_records s_keptSounds s_keptClapped s_keptRecords) (va_A (wM cI q0 q1 q2 q3 q4 q5 q6 q7 q8 q9 q10 q11 q12 s_pageMany s_readMany s_readLate s_state s_many s_late s_armNow s_barNow s_skips s_hallsRead s_nowArm s_turnedMany s_recordMany s_beganMany s_seedNow s_keptHall s_keptArm s_keptBar s_keptSkips s_keptRecordMany s_hash s_page s_read s_rows s_sounds s_clapped s_now s_nowLong s_ahead s_records s_keptSounds s_keptClapped s_keptRecords) sz)) 0 0 (va_A (wM cI q0 q1 q2 q3 q4 q5 q6 q7 q8 q9 q10 q11 q12 s_pageMany s_readMany s_readLate s_state s_many s_late s_armNow s_barNow s_skips s_hallsRead s_nowArm s_turnedMany s_recordMany s_beganMany s_seedNow s_keptHall s_keptArm s_keptBar s_keptSkips s_keptRecordMany s_hash s_page s_read s_rows s_sounds s_clapped s_now s_nowLong s_ahead s_records s_keptSounds s_keptClapped s_keptRecords) sz) := by
  refine kStart (cc := cX6_nextOf) (maxL := 4) (ret := (some .int)) (Qc := fun A => kQi D cI r (wM cI q0 q1 q2 q3 q4 q5 q6 q7 q8 q9 q10 q11 q12 s_pageMany s_readMany s_readLate s_state s_many s_late s_armNow s_barNow s_skips s_hallsRead s_nowArm s_turnedMany s_recordMany s_beganMany s_seedNow s_keptHall s_keptArm s_keptBar s_keptSkips s_keptRecordMany s_hash s_page s_read s_rows s_sounds s_clapped s_now s_nowLong s_ahead s_records s_keptSounds s_keptClapped s_keptRecords) A) (by decide) rfl (Nat.le_of_ble_eq_true rfl) ?_
  intro p e s m args below meth c A ls hx hb hr hts hown hlocks hin hml hN hST hA hS hP hK hD hl
  have hown : s.vm.findClass RX6 = some m.cls := hown
  have hl : lv_has ls 4 [(0, .ref q0), (1, .int p1)] := hl
  have hRet : ∀ (H : Heap) (locs : List Loc) (ls : Array Slot) (pc : Nat), va_P D vwCl (wM cI q0 q1 q2 q3 q4 q5 q6 q7 q8 q9 q10 q11 q12 s_pageMany s_readMany s_readLate s_state s_many s_late s_armNow s_barNow s_skips s_hallsRead s_nowArm s_turnedMany s_recordMany s_beganMany s_seedNow s_keptHall s_keptArm s_keptBar s_keptSkips s_keptRecordMany s_hash s_page s_read s_rows s_sounds s_clapped s_now s_nowLong s_ahead s_records s_keptSounds s_keptClapped s_keptRecords) H → va_D A (wM cI q0 q1 q2 q3 q4 q5 q6 q7 q8 q9 q10 q11 q12 s_pageMany s_readMany s_readLate s_state s_many s_late s_armNow s_barNow s_skips s_hallsRead s_nowArm s_turnedMany s_recordMany s_beganMany s_seedNow s_keptHall s_keptArm s_keptBar s_keptSkips s_keptRecordMany s_hash s_page s_read s_rows s_sounds s_clapped s_now s_nowLong s_ahead s_records s_keptSounds s_keptClapped s_keptRecords) → va_S A s.heap H locs → decode cX6_nextOf pc = .ok (.ireturn, 1) → W p l e rX6_nextOf s m args below meth c H locs 0 0 (MQ below (kQi D cI r (wM cI q0 q1 q2 q3 q4 q5 q6 q7 q8 q9 q10 q11 q12 s_pageMany s_readMany s_readLate s_state s_many s_late s_armNow s_barNow s_skips s_hallsRead s_nowArm s_turnedMany s_recordMany s_beganMany s_seedNow s_keptHall s_keptArm s_keptBar s_keptSkips s_keptRecordMany s_hash s_page s_read s_rows s_sounds s_clapped s_now s_nowLong s_ahead s_records s_keptSounds s_keptClapped s_keptRecords) A) args s 0 0 A) (F0 m pc ls [.int r]) := fun H locs ls pc hP hD hS hd => k_iret hx hb hr hlocks hK hP hD hS hd
  generalize MQ below (kQi D cI r (wM cI q0 q1 q2 q3 q4 q5 q6 q7 q8 q9 q10 q11 q12 s_pageMany s_readMany s_readLate s_state s_many s_late s_armNow s_barNow s_skips s_hallsRead s_nowArm s_turnedMany s_recordMany s_beganMany s_seedNow s_keptHall s_keptArm s_keptBar s_keptSkips s_keptRecordMany s_hash s_page s_read s_rows s_sounds s_clapped s_now s_nowLong s_ahead s_records s_keptSounds s_keptClapped s_keptRecords) A) args s 0 0 A = Q at hRet ⊢
  unfold fX6_nextOf at h
  refine lv_aload_n hx hb dX6_nextOf_0 rfl (lv_at hl 0 rfl) ?_
  refine lv_aload_n hx hb dX6_nextOf_1 rfl (lv_at hl 0 rfl) ?_
  refine va_get (D := D) (ci := 6) (v := .ref q7) (C := RX6) (T := TX6) (N := 33) hx hb hts iX6_nextOf_X6 hown hK hP 0 rfl rfl 16 (by decide) (hts (.fieldLink RX6 28 "ClappedWrongModel" "nowLong" "[I") (by decide +kernel)) (fun _ h9 => h9) rfl dX6_nextOf_2 ?_
  refine lv_iload_n hx hb dX6_nextOf_5 rfl (lv_at hl 1 rfl) ?_
  obtain ⟨u1, hu1, h⟩ := k_bs h
  refine k_ciA (r := u1) (k2 := 0) (n2 := 0) (ws := (wM cI q0 q1 q2 q3 q4 q5 q6 q7 q8 q9 q10 q11 q12 s_pageMany s_readMany s_readLate s_state s_many s_late s_armNow s_barNow s_skips s_hallsRead s_nowArm s_turnedMany s_recordMany s_beganMany s_seedNow s_keptHall s_keptArm s_keptBar s_keptSkips s_keptRecordMany s_hash s_page s_read s_rows s_sounds s_clapped s_now s_nowLong s_ahead s_records s_keptSounds s_keptClapped s_keptRecords)) (wc' := (wM cI q0 q1 q2 q3 q4 q5 q6 q7 q8 q9 q10 q11 q12 s_pageMany s_readMany s_readLate s_state s_many s_late s_armNow s_barNow s_skips s_hallsRead s_nowArm s_turnedMany s_recordMany s_beganMany s_seedNow s_keptHall s_keptArm s_keptBar s_keptSkips s_keptRecordMany s_hash s_page s_read s_rows s_sounds s_clapped s_now s_nowLong s_ahead s_records s_keptSounds s_keptClapped s_keptRecords)) (va_runV (C := RX6) (As := [.ref q7, .int p1]) (rest := []) ⟨hx, hb, hml, hown, hts⟩ (mX6_isTired_nowLong l D cI ad q0 q1 q2 q3 q4 q5 q6 q7 q8 q9 q10 q11 q12 _ s_pageMany s_readMany s_readLate s_state s_many s_late s_armNow s_barNow s_skips s_hallsRead s_nowArm s_turnedMany s_recordMany s_beganMany s_seedNow s_keptHall s_keptArm s_keptBar s_keptSkips s_keptRecordMany s_hash s_page s_read s_rows s_sounds s_clapped s_now s_nowLong s_ahead s_records s_keptSounds s_keptClapped s_keptRecords p1 u1 hu1) (cwV 2 hts gX6_nextOf_X6_isTired rfl rfl rfl (by decide +kernel) ⟨Nat.le_of_ble_eq_true rfl, Nat.le_of_ble_eq_true rfl⟩) (k_preA (q := (RX6, TX6, 33)) hN hST hA hK hP hD hS 0 (ci := 6) rfl rfl) rfl rfl hl.1 rfl (lv_room (Nat.le_of_ble_eq_true rfl)) dX6_nextOf_6 ⟨Nat.le_of_ble_eq_true rfl, Nat.le_of_ble_eq_true rfl⟩) hP hD hS hA rfl rfl (fun H locs hP hD hS => ?_)
  refine lv_if_eq (tgt := 14) hx hb dX6_nextOf_9 (by decide) (fun c0 => ?_) (fun c0 => ?_)
  · have h := (if_pos c0).symm.trans h
    refine lv_aload_n hx hb dX6_nextOf_14 rfl (lv_at hl 0 rfl) ?_
    refine va_get (D := D) (ci := 6) (v := .ref q8) (C := RX6) (T := TX6) (N := 33) hx hb hts iX6_nextOf_X6 hown hK hP 0 rfl rfl 17 (by decide) (hts (.fieldLink RX6 31 "ClappedWrongModel" "ahead" "[I") (by decide +kernel)) (fun _ h9 => h9) rfl dX6_nextOf_15 ?_
    refine lv_iload_n hx hb dX6_nextOf_18 rfl (lv_at hl 1 rfl) ?_
    refine k_iald hx hb hK hP 8 rfl dX6_nextOf_19 h (fun v2 h => ?_)
    refine lv_if_ne (tgt := 25) hx hb dX6_nextOf_20 (by decide) (fun c0 => ?_) (fun c0 => ?_)
    · have h := (if_neg c0).symm.trans h
      refine lv_aload_n hx hb dX6_nextOf_25 rfl (lv_at hl 0 rfl) ?_
      refine lv_iload_n hx hb dX6_nextOf_26 rfl (lv_at hl 1 rfl) ?_
      obtain ⟨u3, hu3, h⟩ := k_bs h
      refine k_ciA (r := u3) (k2 := 0) (n2 := 0) (ws := (wM cI q0 q1 q2 q3 q4 q5 q6 q7 q8 q9 q10 q11 q12 s_pageMany s_readMany s_readLate s_state s_many s_late s_armNow s_barNow s_skips s_hallsRead s_nowArm s_turnedMany s_recordMany s_beganMany s_seedNow s_keptHall s_keptArm s_keptBar s_keptSkips s_keptRecordMany s_hash s_page s_read s_rows s_sounds s_clapped s_now s_nowLong s_ahead s_records s_keptSounds s_keptClapped s_keptRecords)) (wc' := (wM cI q0 q1 q2 q3 q4 q5 q6 q7 q8 q9 q10 q11 q12 s_pageMany s_readMany s_readLate s_state s_many s_late s_armNow s_barNow s_skips s_hallsRead s_nowArm s_turnedMany s_recordMany s_beganMany s_seedNow s_keptHall s_keptArm s_keptBar s_keptSkips s_keptRecordMany s_hash s_page s_read s_rows s_sounds s_clapped s_now s_nowLong s_ahead s_records s_keptSounds s_keptClapped s_keptRecords)) (va_runV (C := RX6) (As := [.int p1]) (rest := []) ⟨hx, hb, hml, hown, hts⟩ (mX6_isStubborn l D cI ad q0 q1 q2 q3 q4 q5 q6 q7 q8 q9 q10 q11 q12 _ s_pageMany s_readMany s_readLate s_state s_many s_late s_armNow s_barNow s_skips s_hallsRead s_nowArm s_turnedMany s_recordMany s_beganMany s_seedNow s_keptHall s_keptArm s_keptBar s_keptSkips s_keptRecordMany s_hash s_page s_read s_rows s_sounds s_clapped s_now s_nowLong s_ahead s_records s_keptSounds s_keptClapped s_keptRecords p1 u3 hu3) (cwV 1 hts gX6_nextOf_X6_isStubborn rfl rfl rfl (by decide +kernel) ⟨Nat.le_of_ble_eq_true rfl, Nat.le_of_ble_eq_true rfl⟩) (k_preA (q := (RX6, TX6, 33)) hN hST hA hK hP hD hS 0 (ci := 6) rfl rfl) rfl rfl hl.1 rfl (lv_room (Nat.le_of_ble_eq_true rfl)) dX6_nextOf_27 ⟨Nat.le_of_ble_eq_true rfl, Nat.le_of_ble_eq_true rfl⟩) hP hD hS hA rfl rfl (fun H locs hP hD hS => ?_)
      refine lv_if_eq (tgt := 40) hx hb dX6_nextOf_30 (by decide) (fun c0 => ?_) (fun c0 => ?_)
      · have h := (if_pos c0).symm.trans h
        refine lv_aload_n hx hb dX6_nextOf_40 rfl (lv_at hl 0 rfl) ?_
        refine va_get (D := D) (ci := 6) (v := .ref q3) (C := RX6) (T := TX6) (N := 33) hx hb hts iX6_nextOf_X6 hown hK hP 0 rfl rfl 12 (by decide) (hts (.fieldLink RX6 16 "ClappedWrongModel" "rows" "[I") (by decide +kernel)) (fun _ h9 => h9) rfl dX6_nextOf_41 ?_
        refine lv_iconst (v := 3) hx hb dX6_nextOf_44 (by decide) ?_
        refine lv_iload_n hx hb dX6_nextOf_45 rfl (lv_at hl 1 rfl) ?_
        refine lv_imul hx hb dX6_nextOf_46 ?_
        refine k_iald hx hb hK hP 3 rfl dX6_nextOf_47 h (fun v4 h => ?_)
        refine lv_iconst (v := 2) hx hb dX6_nextOf_48 (by decide) ?_
        refine lv_icmp_ne (tgt := 62) hx hb dX6_nextOf_49 (by decide) (fun c0 => ?_) (fun c0 => ?_)
        · have h := (if_neg c0).symm.trans h
          refine lv_aload_n hx hb dX6_nextOf_62 rfl (lv_at hl 0 rfl) ?_
          refine lv_iload_n hx hb dX6_nextOf_63 rfl (lv_at hl 1 rfl) ?_
          refine lv_iconst (v := 0) hx hb dX6_nextOf_64 (by decide) ?_
          obtain ⟨u5, hu5, h⟩ := k_bs h
          refine k_ciA (r := u5) (k2 := 0) (n2 := 0) (ws := (wM cI q0 q1 q2 q3 q4 q5 q6 q7 q8 q9 q10 q11 q12 s_pageMany s_readMany s_readLate s_state s_many s_late s_armNow s_barNow s_skips s_hallsRead s_nowArm s_turnedMany s_recordMany s_beganMany s_seedNow s_keptHall s_keptArm s_keptBar s_keptSkips s_keptRecordMany s_hash s_page s_read s_rows s_sounds s_clapped s_now s_nowLong s_ahead s_records s_keptSounds s_keptClapped s_keptRecords)) (wc' := (wM cI q0 q1 q2 q3 q4 q5 q6 q7 q8 q9 q10 q11 q12 s_pageMany s_readMany s_readLate s_state s_many s_late s_armNow s_barNow s_skips s_hallsRead s_nowArm s_turnedMany s_recordMany s_beganMany s_seedNow s_keptHall s_keptArm s_keptBar s_keptSkips s_keptRecordMany s_hash s_page s_read s_rows s_sounds s_clapped s_now s_nowLong s_ahead s_records s_keptSounds s_keptClapped s_keptRecords)) (va_runV (C := RX6) (As := [.int p1, .int 0]) (rest := []) ⟨hx, hb, hml, hown, hts⟩ (mX6_palmsBy l D cI ad q0 q1 q2 q3 q4 q5 q6 q7 q8 q9 q10 q11 q12 _ s_pageMany s_readMany s_readLate s_state s_many s_late s_armNow s_barNow s_skips s_hallsRead s_nowArm s_turnedMany s_recordMany s_beganMany s_seedNow s_keptHall s_keptArm s_keptBar s_keptSkips s_keptRecordMany s_hash s_page s_read s_rows s_sounds s_clapped s_now s_nowLong s_ahead s_records s_keptSounds s_keptClapped s_keptRecords p1 0 u5 hu5) (cwV 2 hts gX6_nextOf_X6_palmsBy rfl rfl rfl (by decide +kernel) ⟨Nat.le_of_ble_eq_true rfl, Nat.le_of_ble_eq_true rfl⟩) (k_preA (q := (RX6, TX6, 33)) hN hST hA hK hP hD hS 0 (ci := 6) rfl rfl) rfl rfl hl.1 rfl (lv_room (Nat.le_of_ble_eq_true rfl)) dX6_nextOf_65 ⟨Nat.le_of_ble_eq_true rfl, Nat.le_of_ble_eq_true rfl⟩) hP hD hS hA rfl rfl (fun H locs hP hD hS => ?_)
          refine lv_istore_n (lv' := [(2, .int u5), (0, .ref q0), (1, .int p1)]) hx hb dX6_nextOf_68 rfl hl (by decide) rfl (fun ls hl => ?_)
          refine lv_aload_n hx hb dX6_nextOf_69 rfl (lv_at hl 1 rfl) ?_
          refine lv_iload_n hx hb dX6_nextOf_70 rfl (lv_at hl 2 rfl) ?_
          refine lv_iconst (v := 1) hx hb dX6_nextOf_71 (by decide) ?_
          obtain ⟨u6, hu6, h⟩ := k_bs h
          refine k_ciA (r := u6) (k2 := 0) (n2 := 0) (ws := (wM cI q0 q1 q2 q3 q4 q5 q6 q7 q8 q9 q10 q11 q12 s_pageMany s_readMany s_readLate s_state s_many s_late s_armNow s_barNow s_skips s_hallsRead s_nowArm s_turnedMany s_recordMany s_beganMany s_seedNow s_keptHall s_keptArm s_keptBar s_keptSkips s_keptRecordMany s_hash s_page s_read s_rows s_sounds s_clapped s_now s_nowLong s_ahead s_records s_keptSounds s_keptClapped s_keptRecords)) (wc' := (wM cI q0 q1 q2 q3 q4 q5 q6 q7 q8 q9 q10 q11 q12 s_pageMany s_readMany s_readLate s_state s_many s_late s_armNow s_barNow s_skips s_hallsRead s_nowArm s_turnedMany s_recordMany s_beganMany s_seedNow s_keptHall s_keptArm s_keptBar s_keptSkips s_keptRecordMany s_hash s_page s_read s_rows s_sounds s_clapped s_now s_nowLong s_ahead s_records s_keptSounds s_keptClapped s_keptRecords)) (va_runV (C := RX6) (As := [.int p1, .int 1]) (rest := []) ⟨hx, hb, hml, hown, hts⟩ (mX6_palmsBy l D cI ad q0 q1 q2 q3 q4 q5 q6 q7 q8 q9 q10 q11 q12 _ s_pageMany s_readMany s_readLate s_state s_many s_late s_armNow s_barNow s_skips s_hallsRead s_nowArm s_turnedMany s_recordMany s_beganMany s_seedNow s_keptHall s_keptArm s_keptBar s_keptSkips s_keptRecordMany s_hash s_page s_read s_rows s_sounds s_clapped s_now s_nowLong s_ahead s_records s_keptSounds s_keptClapped s_keptRecords p1 1 u6 hu6) (cwV 2 hts gX6_nextOf_X6_palmsBy rfl rfl rfl (by decide +kernel) ⟨Nat.le_of_ble_eq_true rfl, Nat.le_of_ble_eq_true rfl⟩) (k_preA (q := (RX6, TX6, 33)) hN hST hA hK hP hD hS 0 (ci := 6) rfl rfl) rfl rfl hl.1 rfl (lv_room (Nat.le_of_ble_eq_true rfl)) dX6_nextOf_72 ⟨Nat.le_of_ble_eq_true rfl, Nat.le_of_ble_eq_true rfl⟩) hP hD hS hA rfl rfl (fun H locs hP hD hS => ?_)
          refine lv_istore_n (lv' := [(3, .int u6), (2, .int u5), (0, .ref q0), (1, .int p1)]) hx hb dX6_nextOf_75 rfl hl (by decide) rfl (fun ls hl => ?_)
          refine lv_iload_n hx hb dX6_nextOf_76 rfl (lv_at hl 1 rfl) ?_
          refine lv_iload_n hx hb dX6_nextOf_77 rfl (lv_at hl 0 rfl) ?_
          refine lv_icmp_le (tgt := 85) hx hb dX6_nextOf_78 (by decide) (fun c0 => ?_) (fun c0 => ?_)
          · have h := (if_pos c0).symm.trans h
            refine lv_iload_n hx hb dX6_nextOf_85 rfl (lv_at hl 0 rfl) ?_
            refine lv_iload_n hx hb dX6_nextOf_86 rfl (lv_at hl 1 rfl) ?_
            refine lv_icmp_le (tgt := 94) hx hb dX6_nextOf_87 (by decide) (fun c0 => ?_) (fun c0 => ?_)
            · have h := (if_pos c0).symm.trans h
              refine lv_aload_n hx hb dX6_nextOf_94 rfl (lv_at hl 2 rfl) ?_
              refine va_get (D := D) (ci := 6) (v := .ref q3) (C := RX6) (T := TX6) (N := 33) hx hb hts iX6_nextOf_X6 hown hK hP 0 rfl rfl 12 (by decide) (hts (.fieldLink RX6 16 "ClappedWrongModel" "rows" "[I") (by decide +kernel)) (fun _ h9 => h9) rfl dX6_nextOf_95 ?_
              refine lv_iconst (v := 3) hx hb dX6_nextOf_98 (by decide) ?_
              refine lv_iload_n hx hb dX6_nextOf_99 rfl (lv_at hl 3 rfl) ?_
              refine lv_imul hx hb dX6_nextOf_100 ?_
              refine k_iald hx hb hK hP 3 rfl dX6_nextOf_101 h (fun v7 h => ?_)
              refine lv_iconst (v := 3) hx hb dX6_nextOf_102 (by decide) ?_
              refine lv_icmp_ne (tgt := 110) hx hb dX6_nextOf_103 (by decide) (fun c0 => ?_) (fun c0 => ?_)
              · have h := (if_neg c0).symm.trans h
                refine lv_aload_n hx hb dX6_nextOf_110 rfl (lv_at hl 2 rfl) ?_
                refine va_get (D := D) (ci := 6) (v := .ref q8) (C := RX6) (T := TX6) (N := 33) hx hb hts iX6_nextOf_X6 hown hK hP 0 rfl rfl 17 (by decide) (hts (.fieldLink RX6 31 "ClappedWrongModel" "ahead" "[I") (by decide +kernel)) (fun _ h9 => h9) rfl dX6_nextOf_111 ?_
                refine lv_iload_n hx hb dX6_nextOf_114 rfl (lv_at hl 3 rfl) ?_
                refine k_iald hx hb hK hP 8 rfl dX6_nextOf_115 h (fun v8 h => ?_)
                have h := Option.some.inj h
                subst h
                exact hRet _ _ _ _ hP hD hS dX6_nextOf_116
              · have h := (if_pos c0).symm.trans h
                refine lv_iconst (v := 3) hx hb dX6_nextOf_106 (by decide) ?_
                refine lv_goto (tgt := 116) hx hb dX6_nextOf_107 (by decide) ?_
                have h := Option.some.inj h
                subst h
                exact hRet _ _ _ _ hP hD hS dX6_nextOf_116
            · have h := (if_neg c0).symm.trans h
              refine lv_iconst (v := 2) hx hb dX6_nextOf_90 (by decide) ?_
              refine lv_goto (tgt := 116) hx hb dX6_nextOf_91 (by decide) ?_
              have h := Option.some.inj h
              subst h
              exact hRet _ _ _ _ hP hD hS dX6_nextOf_116
          · have h := (if_neg c0).symm.trans h
            refine lv_iconst (v := 1) hx hb dX6_nextOf_81 (by decide) ?_
            refine lv_goto (tgt := 116) hx hb dX6_nextOf_82 (by decide) ?_
            have h := Option.some.inj h
            subst h
            exact hRet _ _ _ _ hP hD hS dX6_nextOf_116
        · have h := (if_pos c0).symm.trans h
          refine lv_iload_n hx hb dX6_nextOf_52 rfl (lv_at hl 1 rfl) ?_
          refine lv_aload_n hx hb dX6_nextOf_53 rfl (lv_at hl 0 rfl) ?_
          refine va_get (D := D) (ci := 6) (v := .int s_nowArm) (C := RX6) (T := TX6) (N := 33) hx hb hts iX6_nextOf_X6 hown hK hP 0 rfl rfl 18 (by decide) (hts (.fieldLink RX6 124 "ClappedWrongModel" "nowArm" "I") (by decide +kernel)) (fun _ h9 => h9) rfl dX6_nextOf_54 ?_
          refine lv_icmp_ge (tgt := 62) hx hb dX6_nextOf_57 (by decide) (fun c0 => ?_) (fun c0 => ?_)
          · have h := (if_pos c0).symm.trans h
            refine lv_aload_n hx hb dX6_nextOf_62 rfl (lv_at hl 0 rfl) ?_
            refine lv_iload_n hx hb dX6_nextOf_63 rfl (lv_at hl 1 rfl) ?_
            refine lv_iconst (v := 0) hx hb dX6_nextOf_64 (by decide) ?_
            obtain ⟨u9, hu9, h⟩ := k_bs h
            refine k_ciA (r := u9) (k2 := 0) (n2 := 0) (ws := (wM cI q0 q1 q2 q3 q4 q5 q6 q7 q8 q9 q10 q11 q12 s_pageMany s_readMany s_readLate s_state s_many s_late s_armNow s_barNow s_skips s_hallsRead s_nowArm s_turnedMany s_recordMany s_beganMany s_seedNow s_keptHall s_keptArm s_keptBar s_keptSkips s_keptRecordMany s_hash s_page s_read s_rows s_sounds s_clapped s_now s_nowLong s_ahead s_records s_keptSounds s_keptClapped s_keptRecords)) (wc' := (wM cI q0 q1 q2 q3 q4 q5 q6 q7 q8 q9 q10 q11 q12 s_pageMany s_readMany s_readLate s_state s_many s_late s_armNow s_barNow s_skips s_hallsRead s_nowArm s_turnedMany s_recordMany s_beganMany s_seedNow s_keptHall s_keptArm s_keptBar s_keptSkips s_keptRecordMany s_hash s_page s_read s_rows s_sounds s_clapped s_now s_nowLong s_ahead s_records s_keptSounds s_keptClapped s_keptRecords)) (va_runV (C := RX6) (As := [.int p1, .int 0]) (rest := []) ⟨hx, hb, hml, hown, hts⟩ (mX6_palmsBy l D cI ad q0 q1 q2 q3 q4 q5 q6 q7 q8 q9 q10 q11 q12 _ s_pageMany s_readMany s_readLate s_state s_many s_late s_armNow s_barNow s_skips s_hallsRead s_nowArm s_turnedMany s_recordMany s_beganMany s_seedNow s_keptHall s_keptArm s_keptBar s_keptSkips s_keptRecordMany s_hash s_page s_read s_rows s_sounds s_clapped s_now s_nowLong s_ahead s_records s_keptSounds s_keptClapped s_keptRecords p1 0 u9 hu9) (cwV 2 hts gX6_nextOf_X6_palmsBy rfl rfl rfl (by decide +kernel) ⟨Nat.le_of_ble_eq_true rfl, Nat.le_of_ble_eq_true rfl⟩) (k_preA (q := (RX6, TX6, 33)) hN hST hA hK hP hD hS 0 (ci := 6) rfl rfl) rfl rfl hl.1 rfl (lv_room (Nat.le_of_ble_eq_true rfl)) dX6_nextOf_65 ⟨Nat.le_of_ble_eq_true rfl, Nat.le_of_ble_eq_true rfl⟩) hP hD hS hA rfl rfl (fun H locs hP hD hS => ?_)
            refine lv_istore_n (lv' := [(2, .int u9), (0, .ref q0), (1, .int p1)]) hx hb dX6_nextOf_68 rfl hl (by decide) rfl (fun ls hl => ?_)
            refine lv_aload_n hx hb dX6_nextOf_69 rfl (lv_at hl 1 rfl) ?_
            refine lv_iload_n hx hb dX6_nextOf_70 rfl (lv_at hl 2 rfl) ?_
            refine lv_iconst (v := 1) hx hb dX6_nextOf_71 (by decide) ?_
            obtain ⟨u10, hu10, h⟩ := k_bs h
            refine k_ciA (r := u10) (k2 := 0) (n2 := 0) (ws := (wM cI q0 q1 q2 q3 q4 q5 q6 q7 q8 q9 q10 q11 q12 s_pageMany s_readMany s_readLate s_state s_many s_late s_armNow s_barNow s_skips s_hallsRead s_nowArm s_turnedMany s_recordMany s_beganMany s_seedNow s_keptHall s_keptArm s_keptBar s_keptSkips s_keptRecordMany s_hash s_page s_read s_rows s_sounds s_clapped s_now s_nowLong s_ahead s_records s_keptSounds s_keptClapped s_keptRecords)) (wc' := (wM cI q0 q1 q2 q3 q4 q5 q6 q7 q8 q9 q10 q11 q12 s_pageMany s_readMany s_readLate s_state s_many s_late s_armNow s_barNow s_skips s_hallsRead s_nowArm s_turnedMany s_recordMany s_beganMany s_seedNow s_keptHall s_keptArm s_keptBar s_keptSkips s_keptRecordMany s_hash s_page s_read s_rows s_sounds s_clapped s_now s_nowLong s_ahead s_records s_keptSounds s_keptClapped s_keptRecords)) (va_runV (C := RX6) (As := [.int p1, .int 1]) (rest := []) ⟨hx, hb, hml, hown, hts⟩ (mX6_palmsBy l D cI ad q0 q1 q2 q3 q4 q5 q6 q7 q8 q9 q10 q11 q12 _ s_pageMany s_readMany s_readLate s_state s_many s_late s_armNow s_barNow s_skips s_hallsRead s_nowArm s_turnedMany s_recordMany s_beganMany s_seedNow s_keptHall s_keptArm s_keptBar s_keptSkips s_keptRecordMany s_hash s_page s_read s_rows s_sounds s_clapped s_now s_nowLong s_ahead s_records s_keptSounds s_keptClapped s_keptRecords p1 1 u10 hu10) (cwV 2 hts gX6_nextOf_X6_palmsBy rfl rfl rfl (by decide +kernel) ⟨Nat.le_of_ble_eq_true rfl, Nat.le_of_ble_eq_true rfl⟩) (k_preA (q := (RX6, TX6, 33)) hN hST hA hK hP hD hS 0 (ci := 6) rfl rfl) rfl rfl hl.1 rfl (lv_room (Nat.le_of_ble_eq_true rfl)) dX6_nextOf_72 ⟨Nat.le_of_ble_eq_true rfl, Nat.le_of_ble_eq_true rfl⟩) hP hD hS hA rfl rfl (fun H locs hP hD hS => ?_)
            refine lv_istore_n (lv' := [(3, .int u10), (2, .int u9), (0, .ref q0), (1, .int p1)]) hx hb dX6_nextOf_75 rfl hl (by decide) rfl (fun ls hl => ?_)
            refine lv_iload_n hx hb dX6_nextOf_76 rfl (lv_at hl 1 rfl) ?_
            refine lv_iload_n hx hb dX6_nextOf_77 rfl (lv_at hl 0 rfl) ?_
            refine lv_icmp_le (tgt := 85) hx hb dX6_nextOf_78 (by decide) (fun c0 => ?_) (fun c0 => ?_)
            · have h := (if_pos c0).symm.trans h
              refine lv_iload_n hx hb dX6_nextOf_85 rfl (lv_at hl 0 rfl) ?_
              refine lv_iload_n hx hb dX6_nextOf_86 rfl (lv_at hl 1 rfl) ?_
              refine lv_icmp_le (tgt := 94) hx hb dX6_nextOf_87 (by decide) (fun c0 => ?_) (fun c0 => ?_)
              · have h := (if_pos c0).symm.trans h
                refine lv_aload_n hx hb dX6_nextOf_94 rfl (lv_at hl 2 rfl) ?_
                refine va_get (D := D) (ci := 6) (v := .ref q3) (C := RX6) (T := TX6) (N := 33) hx hb hts iX6_nextOf_X6 hown hK hP 0 rfl rfl 12 (by decide) (hts (.fieldLink RX6 16 "ClappedWrongModel" "rows" "[I") (by decide +kernel)) (fun _ h9 => h9) rfl dX6_nextOf_95 ?_
                refine lv_iconst (v := 3) hx hb dX6_nextOf_98 (by decide) ?_
                refine lv_iload_n hx hb dX6_nextOf_99 rfl (lv_at hl 3 rfl) ?_
                refine lv_imul hx hb dX6_nextOf_100 ?_
                refine k_iald hx hb hK hP 3 rfl dX6_nextOf_101 h (fun v11 h => ?_)
                refine lv_iconst (v := 3) hx hb dX6_nextOf_102 (by decide) ?_
                refine lv_icmp_ne (tgt := 110) hx hb dX6_nextOf_103 (by decide) (fun c0 => ?_) (fun c0 => ?_)
                · have h := (if_neg c0).symm.trans h
                  refine lv_aload_n hx hb dX6_nextOf_110 rfl (lv_at hl 2 rfl) ?_
                  refine va_get (D := D) (ci := 6) (v := .ref q8) (C := RX6) (T := TX6) (N := 33) hx hb hts iX6_nextOf_X6 hown hK hP 0 rfl rfl 17 (by decide) (hts (.fieldLink RX6 31 "ClappedWrongModel" "ahead" "[I") (by decide +kernel)) (fun _ h9 => h9) rfl dX6_nextOf_111 ?_
                  refine lv_iload_n hx hb dX6_nextOf_114 rfl (lv_at hl 3 rfl) ?_
                  refine k_iald hx hb hK hP 8 rfl dX6_nextOf_115 h (fun v12 h => ?_)
                  have h := Option.some.inj h
                  subst h
                  exact hRet _ _ _ _ hP hD hS dX6_nextOf_116
                · have h := (if_pos c0).symm.trans h
                  refine lv_iconst (v := 3) hx hb dX6_nextOf_106 (by decide) ?_
                  refine lv_goto (tgt := 116) hx hb dX6_nextOf_107 (by decide) ?_
                  have h := Option.some.inj h
                  subst h
                  exact hRet _ _ _ _ hP hD hS dX6_nextOf_116
              · have h := (if_neg c0).symm.trans h
                refine lv_iconst (v := 2) hx hb dX6_nextOf_90 (by decide) ?_
                refine lv_goto (tgt := 116) hx hb dX6_nextOf_91 (by decide) ?_
                have h := Option.some.inj h
                subst h
                exact hRet _ _ _ _ hP hD hS dX6_nextOf_116
            · have h := (if_neg c0).symm.trans h
              refine lv_iconst (v := 1) hx hb dX6_nextOf_81 (by decide) ?_
              refine lv_goto (tgt := 116) hx hb dX6_nextOf_82 (by decide) ?_
              have h := Option.some.inj h
              subst h
              exact hRet _ _ _ _ hP hD hS dX6_nextOf_116
          · have h := (if_neg c0).symm.trans h
            refine lv_iconst (v := 2) hx hb dX6_nextOf_60 (by decide) ?_
            have h := Option.some.inj h
            subst h
            exact hRet _ _ _ _ hP hD hS dX6_nextOf_61
      · have h := (if_neg c0).symm.trans h
        refine lv_aload_n hx hb dX6_nextOf_33 rfl (lv_at hl 0 rfl) ?_
        refine va_get (D := D) (ci := 6) (v := .ref q8) (C := RX6) (T := TX6) (N := 33) hx hb hts iX6_nextOf_X6 hown hK hP 0 rfl rfl 17 (by decide) (hts (.fieldLink RX6 31 "ClappedWrongModel" "ahead" "[I") (by decide +kernel)) (fun _ h9 => h9) rfl dX6_nextOf_34 ?_
        refine lv_iload_n hx hb dX6_nextOf_37 rfl (lv_at hl 1 rfl) ?_
        refine k_iald hx hb hK hP 8 rfl dX6_nextOf_38 h (fun v13 h => ?_)
        have h := Option.some.inj h
        subst h
        exact hRet _ _ _ _ hP hD hS dX6_nextOf_39
    · have h := (if_pos c0).symm.trans h
      refine lv_iconst (v := 3) hx hb dX6_nextOf_23 (by decide) ?_
      have h := Option.some.inj h
      subst h
      exact hRet _ _ _ _ hP hD hS dX6_nextOf_24
  · have h := (if_neg c0).symm.trans h
    refine lv_iconst (v := 0) hx hb dX6_nextOf_12 (by decide) ?_
    have h := Option.some.inj h
    subst h
    exact hRet _ _ _ _ hP hD hS dX6_nextOf_13
