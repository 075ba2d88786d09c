theorem iX6_turned_X6 : ∀ w ∈ wsX60, w ∈ wsX6_turned := by decide +kernel
def rX6_turned : Room := { frames := 7, cells := 0, slots := 0, locals := 160 }
set_option maxHeartbeats 4000000 in
set_option maxRecDepth 100000 in
theorem mX6_turned (l : Launch) (D : va_G) (cI : ClassId) (ad : Nat × Nat) (q0 q1 q2 q3 q4 q5 q6 q7 q8 q9 q10 q11 q12 : Nat) (sz : Nat) (s_pageMany : Int32) (s_readMany : Int32) (s_readLate : Int32) (s_state : Int32) (s_many : Int32) (s_late : Int32) (s_armNow : Int32) (s_barNow : Int32) (s_skips : Int32) (s_hallsRead : Int32) (s_nowArm : Int32) (s_turnedMany : Int32) (s_recordMany : Int32) (s_beganMany : Int32) (s_seedNow : Int32) (s_keptHall : Int32) (s_keptArm : Int32) (s_keptBar : Int32) (s_keptSkips : Int32) (s_keptRecordMany : Int32) (s_hash : Int64) (s_page : (Nat → Int32)) (s_read : (Nat → Int32)) (s_rows : (Nat → Int32)) (s_sounds : (Nat → Int32)) (s_clapped : (Nat → Int32)) (s_now : (Nat → Int32)) (s_nowLong : (Nat → Int32)) (s_ahead : (Nat → Int32)) (s_records : (Nat → Int32)) (s_keptSounds : (Nat → Int32)) (s_keptClapped : (Nat → Int32)) (s_keptRecords : (Nat → Int32)) (p1 : Int32) (p2 : Int32) (r : (Int32 × Int32 × Int32 × (Nat → Int32) × (Nat → Int32) × (Nat → Int32))) (h : fX6_turned s_many s_armNow s_rows s_sounds s_clapped s_now s_nowLong s_ahead s_nowArm s_turnedMany p1 p2 = some r) : Met l yX6_turned wsX6_turned rX6_turned (kPre D cI ad [.ref q0, .int p1, .int p2] (wM cI q0 q1 q2 q3 q4 q5 q6 q7 q8 q9 q10 q11 q12 s_pageMany s_readMany s_readLate s_state s_many s_late s_armNow s_barNow s_skips s_hallsRead s_nowArm s_turnedMany s_recordMany s_beganMany s_seedNow s_keptHall s_keptArm s_keptBar s_keptSkips s_keptRecordMany s_hash s_page s_read s_rows s_sounds s_clapped s_now s_nowLong s_ahead s_records s_keptSounds s_keptClapped s_keptRecords) sz) (kQi D cI r.1 (wM cI q0 q1 q2 q3 q4 q5 q6 q7 q8 q9 q10 q11 q12 s_pageMany s_readMany s_readLate s_state s_many s_late s_armNow s_barNow s_skips s_hallsRead r.2.1 r.2.2.1 s_recordMany s_beganMany s_seedNow s_keptHall s_keptArm s_keptBar s_keptSkips s_keptRecordMany s_hash s_page s_read s_rows s_sounds s_clapped r.2.2.2.1 r.2.2.2.2.1 r.2.2.2.2.2 s_records s_keptSounds s_keptClapped s_keptRecords) (va_A (wM cI q0 q1 q2 q3 q4 q5 q6 q7 q8 q9 q10 q11 q12 s_pageMany s_readMany s_readLate s_state s_many s_late s_armNow s_barNow s_skips s_hallsRead s_nowArm s_turnedMany s_recordMany s_beganMany s_seedNow s_keptHall s_keptArm s_keptBar s_keptSkips s_keptRecordMany s_hash s_page s_read s_rows s_sounds s_clapped s_now s_nowLong s_ahead s_records s_keptSounds s_keptClapped s_keptRecords) sz)) 0 0 (va_A (wM cI q0 q1 q2 q3 q4 q5 q6 q7 q8 q9 q10 q11 q12 s_pageMany s_readMany s_readLate s_state s_many s_late s_armNow s_barNow s_skips s_hallsRead s_nowArm s_turnedMany s_recordMany s_beganMany s_seedNow s_keptHall s_keptArm s_keptBar s_keptSkips s_keptRecordMany s_hash s_page s_read s_rows s_sounds s_clapped s_now s_nowLong s_ahead s_records s_keptSounds s_keptClapped s_keptRecords) sz) := by
  refine kStart (cc := cX6_turned) (maxL := 6) (ret := (some .int)) (Qc := fun A => kQi D cI r.1 (wM cI q0 q1 q2 q3 q4 q5 q6 q7 q8 q9 q10 q11 q12 s_pageMany s_readMany s_readLate s_state s_many s_late s_armNow s_barNow s_skips s_hallsRead r.2.1 r.2.2.1 s_recordMany s_beganMany s_seedNow s_keptHall s_keptArm s_keptBar s_keptSkips s_keptRecordMany s_hash s_page s_read s_rows s_sounds s_clapped r.2.2.2.1 r.2.2.2.2.1 r.2.2.2.2.2 s_records s_keptSounds s_keptClapped s_keptRecords) A) (by decide) rfl (Nat.le_of_ble_eq_true rfl) ?_
  intro p e s m args below meth c A ls hx hb hr hts hown hlocks hin hml hN hST hA hS hP hK hD hl
  have hown : s.vm.findClass RX6 = some m.cls := hown
  have hl : lv_has ls 6 [(0, .ref q0), (1, .int p1), (2, .int p2)] := hl
  have hRet : ∀ (H : Heap) (locs : List Loc) (ls : Array Slot) (pc : Nat), va_P D vwCl (wM cI q0 q1 q2 q3 q4 q5 q6 q7 q8 q9 q10 q11 q12 s_pageMany s_readMany s_readLate s_state s_many s_late s_armNow s_barNow s_skips s_hallsRead r.2.1 r.2.2.1 s_recordMany s_beganMany s_seedNow s_keptHall s_keptArm s_keptBar s_keptSkips s_keptRecordMany s_hash s_page s_read s_rows s_sounds s_clapped r.2.2.2.1 r.2.2.2.2.1 r.2.2.2.2.2 s_records s_keptSounds s_keptClapped s_keptRecords) H → va_D A (wM cI q0 q1 q2 q3 q4 q5 q6 q7 q8 q9 q10 q11 q12 s_pageMany s_readMany s_readLate s_state s_many s_late s_armNow s_barNow s_skips s_hallsRead r.2.1 r.2.2.1 s_recordMany s_beganMany s_seedNow s_keptHall s_keptArm s_keptBar s_keptSkips s_keptRecordMany s_hash s_page s_read s_rows s_sounds s_clapped r.2.2.2.1 r.2.2.2.2.1 r.2.2.2.2.2 s_records s_keptSounds s_keptClapped s_keptRecords) → va_S A s.heap H locs → decode cX6_turned pc = .ok (.ireturn, 1) → W p l e rX6_turned s m args below meth c H locs 0 0 (MQ below (kQi D cI r.1 (wM cI q0 q1 q2 q3 q4 q5 q6 q7 q8 q9 q10 q11 q12 s_pageMany s_readMany s_readLate s_state s_many s_late s_armNow s_barNow s_skips s_hallsRead r.2.1 r.2.2.1 s_recordMany s_beganMany s_seedNow s_keptHall s_keptArm s_keptBar s_keptSkips s_keptRecordMany s_hash s_page s_read s_rows s_sounds s_clapped r.2.2.2.1 r.2.2.2.2.1 r.2.2.2.2.2 s_records s_keptSounds s_keptClapped s_keptRecords) A) args s 0 0 A) (F0 m pc ls [.int r.1]) := fun H locs ls pc hP hD hS hd => k_iret hx hb hr hlocks hK hP hD hS hd
  generalize MQ below (kQi D cI r.1 (wM cI q0 q1 q2 q3 q4 q5 q6 q7 q8 q9 q10 q11 q12 s_pageMany s_readMany s_readLate s_state s_many s_late s_armNow s_barNow s_skips s_hallsRead r.2.1 r.2.2.1 s_recordMany s_beganMany s_seedNow s_keptHall s_keptArm s_keptBar s_keptSkips s_keptRecordMany s_hash s_page s_read s_rows s_sounds s_clapped r.2.2.2.1 r.2.2.2.2.1 r.2.2.2.2.2 s_records s_keptSounds s_keptClapped s_keptRecords) A) args s 0 0 A = Q at hRet ⊢
  unfold fX6_turned at h
  refine lv_iload_n hx hb dX6_turned_0 rfl (lv_at hl 1 rfl) ?_
  refine lv_i2l hx hb dX6_turned_1 rfl ?_
  refine lv_lconst (v := 0) hx hb dX6_turned_2 (by decide) ?_
  refine lv_ldc2 (v := 12) hx hb hown (hts (.constantLong RX6 176 12) (by decide +kernel)) dX6_turned_3 ?_
  obtain ⟨u1, hu1, h⟩ := k_bs h
  refine k_ci (r := u1) (k2 := 0) (n2 := 0) (wc := []) (wc' := []) (w2 := (wM cI q0 q1 q2 q3 q4 q5 q6 q7 q8 q9 q10 q11 q12 s_pageMany s_readMany s_readLate s_state s_many s_late s_armNow s_barNow s_skips s_hallsRead s_nowArm s_turnedMany s_recordMany s_beganMany s_seedNow s_keptHall s_keptArm s_keptBar s_keptSkips s_keptRecordMany s_hash s_page s_read s_rows s_sounds s_clapped s_now s_nowLong s_ahead s_records s_keptSounds s_keptClapped s_keptRecords)) (va_runS (As := [.long (Int32.toInt64 p1), .long (0 : Int64), .long (12 : Int64)]) (rest := []) ⟨hx, hb, hml, hown, hts⟩ (mX6_in l D cI ad _ (Int32.toInt64 p1) (0 : Int64) (12 : Int64) u1 hu1) (va_cwS 3 hts gX6_turned_X6_in rfl rfl rfl (by decide +kernel) ⟨Nat.le_of_ble_eq_true rfl, Nat.le_of_ble_eq_true rfl⟩) (k_pres hN hST hA hK hP hD hS (isC := []) rfl rfl) rfl rfl hl.1 rfl (lv_room (Nat.le_of_ble_eq_true rfl)) dX6_turned_6 ⟨Nat.le_of_ble_eq_true rfl, Nat.le_of_ble_eq_true rfl⟩) hP hD hS hA [] rfl rfl rfl rfl rfl (fun H locs hP hD hS => ?_)
  refine lv_if_eq (tgt := 22) hx hb dX6_turned_9 (by decide) (fun c0 => ?_) (fun c0 => ?_)
  · have h := (if_pos c0).symm.trans h
    refine lv_bipush (v := (-102)) hx hb dX6_turned_22 (by decide) ?_
    have h := Option.some.inj h
    subst h
    exact hRet _ _ _ _ hP hD hS dX6_turned_24
  · have h := (if_neg c0).symm.trans h
    refine lv_iload_n hx hb dX6_turned_12 rfl (lv_at hl 2 rfl) ?_
    refine lv_i2l hx hb dX6_turned_13 rfl ?_
    refine lv_lconst (v := 0) hx hb dX6_turned_14 (by decide) ?_
    refine lv_lconst (v := 1) hx hb dX6_turned_15 (by decide) ?_
    obtain ⟨u2, hu2, h⟩ := k_bs h
    refine k_ci (r := u2) (k2 := 0) (n2 := 0) (wc := []) (wc' := []) (w2 := (wM cI q0 q1 q2 q3 q4 q5 q6 q7 q8 q9 q10 q11 q12 s_pageMany s_readMany s_readLate s_state s_many s_late s_armNow s_barNow s_skips s_hallsRead s_nowArm s_turnedMany s_recordMany s_beganMany s_seedNow s_keptHall s_keptArm s_keptBar s_keptSkips s_keptRecordMany s_hash s_page s_read s_rows s_sounds s_clapped s_now s_nowLong s_ahead s_records s_keptSounds s_keptClapped s_keptRecords)) (va_runS (As := [.long (Int32.toInt64 p2), .long (0 : Int64), .long (1 : Int64)]) (rest := []) ⟨hx, hb, hml, hown, hts⟩ (mX6_in l D cI ad _ (Int32.toInt64 p2) (0 : Int64) (1 : Int64) u2 hu2) (va_cwS 3 hts gX6_turned_X6_in rfl rfl rfl (by decide +kernel) ⟨Nat.le_of_ble_eq_true rfl, Nat.le_of_ble_eq_true rfl⟩) (k_pres hN hST hA hK hP hD hS (isC := []) rfl rfl) rfl rfl hl.1 rfl (lv_room (Nat.le_of_ble_eq_true rfl)) dX6_turned_16 ⟨Nat.le_of_ble_eq_true rfl, Nat.le_of_ble_eq_true rfl⟩) hP hD hS hA [] rfl rfl rfl rfl rfl (fun H locs hP hD hS => ?_)
    refine lv_if_ne (tgt := 25) hx hb dX6_turned_19 (by decide) (fun c0 => ?_) (fun c0 => ?_)
    · have h := (if_neg c0).symm.trans h
      refine lv_aload_n hx hb dX6_turned_25 rfl (lv_at hl 0 rfl) ?_
      obtain ⟨u3, hu3, h⟩ := k_bs h
      refine k_ciA (r := u3) (k2 := 0) (n2 := 0) (ws := (wM cI q0 q1 q2 q3 q4 q5 q6 q7 q8 q9 q10 q11 q12 s_pageMany s_readMany s_readLate s_state s_many s_late s_armNow s_barNow s_skips s_hallsRead s_nowArm s_turnedMany s_recordMany s_beganMany s_seedNow s_keptHall s_keptArm s_keptBar s_keptSkips s_keptRecordMany s_hash s_page s_read s_rows s_sounds s_clapped s_now s_nowLong s_ahead s_records s_keptSounds s_keptClapped s_keptRecords)) (wc' := (wM cI q0 q1 q2 q3 q4 q5 q6 q7 q8 q9 q10 q11 q12 s_pageMany s_readMany s_readLate s_state s_many s_late s_armNow s_barNow s_skips s_hallsRead s_nowArm s_turnedMany s_recordMany s_beganMany s_seedNow s_keptHall s_keptArm s_keptBar s_keptSkips s_keptRecordMany s_hash s_page s_read s_rows s_sounds s_clapped s_now s_nowLong s_ahead s_records s_keptSounds s_keptClapped s_keptRecords)) (va_runV (C := RX6) (As := []) (rest := []) ⟨hx, hb, hml, hown, hts⟩ (mX6_lacks l D cI ad q0 q1 q2 q3 q4 q5 q6 q7 q8 q9 q10 q11 q12 _ s_pageMany s_readMany s_readLate s_state s_many s_late s_armNow s_barNow s_skips s_hallsRead s_nowArm s_turnedMany s_recordMany s_beganMany s_seedNow s_keptHall s_keptArm s_keptBar s_keptSkips s_keptRecordMany s_hash s_page s_read s_rows s_sounds s_clapped s_now s_nowLong s_ahead s_records s_keptSounds s_keptClapped s_keptRecords u3 hu3) (cwV 0 hts gX6_turned_X6_lacks rfl rfl rfl (by decide +kernel) ⟨Nat.le_of_ble_eq_true rfl, Nat.le_of_ble_eq_true rfl⟩) (k_preA (q := (RX6, TX6, 33)) hN hST hA hK hP hD hS 0 (ci := 6) rfl rfl) rfl rfl hl.1 rfl (lv_room (Nat.le_of_ble_eq_true rfl)) dX6_turned_26 ⟨Nat.le_of_ble_eq_true rfl, Nat.le_of_ble_eq_true rfl⟩) hP hD hS hA rfl rfl (fun H locs hP hD hS => ?_)
      refine lv_if_ne (tgt := 41) hx hb dX6_turned_29 (by decide) (fun c0 => ?_) (fun c0 => ?_)
      · have h := (if_neg c0).symm.trans h
        refine lv_bipush (v := (-103)) hx hb dX6_turned_41 (by decide) ?_
        have h := Option.some.inj h
        subst h
        exact hRet _ _ _ _ hP hD hS dX6_turned_43
      · have h := (if_pos c0).symm.trans h
        refine lv_aload_n hx hb dX6_turned_32 rfl (lv_at hl 0 rfl) ?_
        refine va_get (D := D) (ci := 6) (v := .int s_turnedMany) (C := RX6) (T := TX6) (N := 33) hx hb hts iX6_turned_X6 hown hK hP 0 rfl rfl 19 (by decide) (hts (.fieldLink RX6 181 "ClappedWrongModel" "turnedMany" "I") (by decide +kernel)) (fun _ h9 => h9) rfl dX6_turned_33 ?_
        refine lv_bipush (v := 30) hx hb dX6_turned_36 (by decide) ?_
        refine lv_icmp_ne (tgt := 44) hx hb dX6_turned_38 (by decide) (fun c0 => ?_) (fun c0 => ?_)
        · have h := (if_neg c0).symm.trans h
          refine lv_aload_n hx hb dX6_turned_44 rfl (lv_at hl 0 rfl) ?_
          refine lv_dup hx hb dX6_turned_45 rfl ?_
          refine va_get (D := D) (ci := 6) (v := .int s_turnedMany) (C := RX6) (T := TX6) (N := 33) hx hb hts iX6_turned_X6 hown hK hP 0 rfl rfl 19 (by decide) (hts (.fieldLink RX6 181 "ClappedWrongModel" "turnedMany" "I") (by decide +kernel)) (fun _ h9 => h9) rfl dX6_turned_46 ?_
          refine lv_iconst (v := 1) hx hb dX6_turned_49 (by decide) ?_
          refine lv_iadd hx hb dX6_turned_50 ?_
          refine va_put (D := D) (ci := 6) (v := .int (s_turnedMany + 1)) (ty := .int) (C := RX6) (T := TX6) (N := 33) hx hb hts iX6_turned_X6 tyX6 tyX6_ok nmX6 hown hK hP hD hS 0 rfl rfl 19 (by decide) (hts (.fieldLink RX6 181 "ClappedWrongModel" "turnedMany" "I") (by decide +kernel)) (fun _ h9 => h9) rfl (by decide +kernel) rfl rfl (Nat.le_of_ble_eq_true rfl) dX6_turned_51 (fun H locs hP hD hS => ?_)
          have hP : va_P D vwCl (wM cI q0 q1 q2 q3 q4 q5 q6 q7 q8 q9 q10 q11 q12 s_pageMany s_readMany s_readLate s_state s_many s_late s_armNow s_barNow s_skips s_hallsRead s_nowArm (s_turnedMany + 1) s_recordMany s_beganMany s_seedNow s_keptHall s_keptArm s_keptBar s_keptSkips s_keptRecordMany s_hash s_page s_read s_rows s_sounds s_clapped s_now s_nowLong s_ahead s_records s_keptSounds s_keptClapped s_keptRecords) H := hP
          have hD : va_D A (wM cI q0 q1 q2 q3 q4 q5 q6 q7 q8 q9 q10 q11 q12 s_pageMany s_readMany s_readLate s_state s_many s_late s_armNow s_barNow s_skips s_hallsRead s_nowArm (s_turnedMany + 1) s_recordMany s_beganMany s_seedNow s_keptHall s_keptArm s_keptBar s_keptSkips s_keptRecordMany s_hash s_page s_read s_rows s_sounds s_clapped s_now s_nowLong s_ahead s_records s_keptSounds s_keptClapped s_keptRecords) := hD
          refine lv_iconst (v := (-1)) hx hb dX6_turned_54 (by decide) ?_
          refine lv_istore_n (lv' := [(3, .int (-1)), (0, .ref q0), (1, .int p1), (2, .int p2)]) hx hb dX6_turned_55 rfl hl (by decide) rfl (fun ls hl => ?_)
          refine lv_iconst (v := 0) hx hb dX6_turned_56 (by decide) ?_
          refine lv_istore (lv' := [(4, .int 0), (3, .int (-1)), (0, .ref q0), (1, .int p1), (2, .int p2)]) hx hb dX6_turned_57 hl (by decide) rfl (fun ls hl => ?_)
          obtain ⟨u5, hu5, h⟩ := k_bs h
          refine kIter_ind (fun (z4 : (Int32 × Int32 × Int32 × (Nat → Int32) × (Nat → Int32) × (Nat → Int32))) (u5 : (Int32 × Int32 × Int32 × (Nat → Int32) × (Nat → Int32) × (Nat → Int32))) => ∀ (H : Heap) (locs : List Loc) (ls : Array Slot), va_P D vwCl (wM cI q0 q1 q2 q3 q4 q5 q6 q7 q8 q9 q10 q11 q12 s_pageMany s_readMany s_readLate s_state s_many s_late s_armNow s_barNow s_skips s_hallsRead z4.2.2.1 (s_turnedMany + 1) s_recordMany s_beganMany s_seedNow s_keptHall s_keptArm s_keptBar s_keptSkips s_keptRecordMany s_hash s_page s_read s_rows s_sounds s_clapped z4.2.2.2.1 z4.2.2.2.2.1 z4.2.2.2.2.2 s_records s_keptSounds s_keptClapped s_keptRecords) H → va_D A (wM cI q0 q1 q2 q3 q4 q5 q6 q7 q8 q9 q10 q11 q12 s_pageMany s_readMany s_readLate s_state s_many s_late s_armNow s_barNow s_skips s_hallsRead z4.2.2.1 (s_turnedMany + 1) s_recordMany s_beganMany s_seedNow s_keptHall s_keptArm s_keptBar s_keptSkips s_keptRecordMany s_hash s_page s_read s_rows s_sounds s_clapped z4.2.2.2.1 z4.2.2.2.2.1 z4.2.2.2.2.2 s_records s_keptSounds s_keptClapped s_keptRecords) → va_S A s.heap H locs → lv_has ls 6 [(0, .ref q0), (1, .int p1), (2, .int p2), (3, .int z4.1), (4, .int z4.2.1)] → (∀ (H : Heap) (locs : List Loc) (ls : Array Slot), va_P D vwCl (wM cI q0 q1 q2 q3 q4 q5 q6 q7 q8 q9 q10 q11 q12 s_pageMany s_readMany s_readLate s_state s_many s_late s_armNow s_barNow s_skips s_hallsRead u5.2.2.1 (s_turnedMany + 1) s_recordMany s_beganMany s_seedNow s_keptHall s_keptArm s_keptBar s_keptSkips s_keptRecordMany s_hash s_page s_read s_rows s_sounds s_clapped u5.2.2.2.1 u5.2.2.2.2.1 u5.2.2.2.2.2 s_records s_keptSounds s_keptClapped s_keptRecords) H → va_D A (wM cI q0 q1 q2 q3 q4 q5 q6 q7 q8 q9 q10 q11 q12 s_pageMany s_readMany s_readLate s_state s_many s_late s_armNow s_barNow s_skips s_hallsRead u5.2.2.1 (s_turnedMany + 1) s_recordMany s_beganMany s_seedNow s_keptHall s_keptArm s_keptBar s_keptSkips s_keptRecordMany s_hash s_page s_read s_rows s_sounds s_clapped u5.2.2.2.1 u5.2.2.2.2.1 u5.2.2.2.2.2 s_records s_keptSounds s_keptClapped s_keptRecords) → va_S A s.heap H locs → lv_has ls 6 [(0, .ref q0), (1, .int p1), (2, .int p2), (3, .int u5.1), (4, .int u5.2.1)] → W p l e rX6_turned s m args below meth c H locs 0 0 Q (F0 m 122 ls [])) → W p l e rX6_turned s m args below meth c H locs 0 0 Q (F0 m 59 ls [])) ?_ _ _ _ hu5 _ _ _ hP hD hS (lv_sub hl [2, 3, 4, 1, 0] rfl) ?_
          · intro rc4 ih4 z4 u5 h H locs ls hP hD hS hl kx4
            unfold fX6_turned_L1 at h
            refine lv_iload hx hb dX6_turned_59 (lv_at hl 4 rfl) ?_
            refine lv_iconst (v := 1) hx hb dX6_turned_61 (by decide) ?_
            refine lv_aload_n hx hb dX6_turned_62 rfl (lv_at hl 0 rfl) ?_
            refine va_get (D := D) (ci := 6) (v := .int s_many) (C := RX6) (T := TX6) (N := 33) hx hb hts iX6_turned_X6 hown hK hP 0 rfl rfl 6 (by decide) (hts (.fieldLink RX6 84 "ClappedWrongModel" "many" "I") (by decide +kernel)) (fun _ h9 => h9) rfl dX6_turned_63 ?_
            refine lv_ishl hx hb dX6_turned_66 ?_
            refine lv_icmp_ge (tgt := 122) hx hb dX6_turned_67 (by decide) (fun c0 => ?_) (fun c0 => ?_)
            · have h := (if_pos c0).symm.trans h
              have h := Option.some.inj h
              subst h
              exact kx4 _ _ _ hP hD hS (lv_sub hl [0, 1, 2, 3, 4] rfl)
            · have h := (if_neg c0).symm.trans h
              refine lv_iload_n hx hb dX6_turned_70 rfl (lv_at hl 3 rfl) ?_
              refine lv_iconst (v := (-1)) hx hb dX6_turned_71 (by decide) ?_
              refine lv_icmp_eq (tgt := 87) hx hb dX6_turned_72 (by decide) (fun c0 => ?_) (fun c0 => ?_)
              · have h := (if_pos c0).symm.trans h
                refine lv_aload_n hx hb dX6_turned_87 rfl (lv_at hl 0 rfl) ?_
                refine lv_iload hx hb dX6_turned_88 (lv_at hl 4 rfl) ?_
                refine lv_iload_n hx hb dX6_turned_90 rfl (lv_at hl 1 rfl) ?_
                obtain ⟨u6, hu6, h⟩ := k_bs h
                refine k_ciA (r := u6.1) (k2 := 0) (n2 := 0) (ws := (wM cI q0 q1 q2 q3 q4 q5 q6 q7 q8 q9 q10 q11 q12 s_pageMany s_readMany s_readLate s_state s_many s_late s_armNow s_barNow s_skips s_hallsRead z4.2.2.1 (s_turnedMany + 1) s_recordMany s_beganMany s_seedNow s_keptHall s_keptArm s_keptBar s_keptSkips s_keptRecordMany s_hash s_page s_read s_rows s_sounds s_clapped z4.2.2.2.1 z4.2.2.2.2.1 z4.2.2.2.2.2 s_records s_keptSounds s_keptClapped s_keptRecords)) (wc' := (wM cI q0 q1 q2 q3 q4 q5 q6 q7 q8 q9 q10 q11 q12 s_pageMany s_readMany s_readLate s_state s_many s_late s_armNow s_barNow s_skips s_hallsRead u6.2.1 (s_turnedMany + 1) s_recordMany s_beganMany s_seedNow s_keptHall s_keptArm s_keptBar s_keptSkips s_keptRecordMany s_hash s_page s_read s_rows s_sounds s_clapped u6.2.2.1 u6.2.2.2.1 u6.2.2.2.2 s_records s_keptSounds s_keptClapped s_keptRecords)) (va_runV (C := RX6) (As := [.int z4.2.1, .int p1]) (rest := []) ⟨hx, hb, hml, hown, hts⟩ (mX6_isWonBy l D cI ad q0 q1 q2 q3 q4 q5 q6 q7 q8 q9 q10 q11 q12 _ s_pageMany s_readMany s_readLate s_state s_many s_late s_armNow s_barNow s_skips s_hallsRead z4.2.2.1 (s_turnedMany + 1) s_recordMany s_beganMany s_seedNow s_keptHall s_keptArm s_keptBar s_keptSkips s_keptRecordMany s_hash s_page s_read s_rows s_sounds s_clapped z4.2.2.2.1 z4.2.2.2.2.1 z4.2.2.2.2.2 s_records s_keptSounds s_keptClapped s_keptRecords z4.2.1 p1 u6 hu6) (cwV 2 hts gX6_turned_X6_isWonBy rfl rfl rfl (by decide +kernel) ⟨Nat.le_of_ble_eq_true rfl, Nat.le_of_ble_eq_true rfl⟩) (k_preA (q := (RX6, TX6, 33)) hN hST hA hK hP hD hS 0 (ci := 6) rfl rfl) rfl rfl hl.1 rfl (lv_room (Nat.le_of_ble_eq_true rfl)) dX6_turned_91 ⟨Nat.le_of_ble_eq_true rfl, Nat.le_of_ble_eq_true rfl⟩) hP hD hS hA rfl rfl (fun H locs hP hD hS => ?_)
                refine lv_if_eq (tgt := 101) hx hb dX6_turned_94 (by decide) (fun c0 => ?_) (fun c0 => ?_)
                · have h := (if_pos c0).symm.trans h
                  refine lv_iconst (v := 0) hx hb dX6_turned_101 (by decide) ?_
                  refine lv_istore (lv' := [(5, .int 0), (0, .ref q0), (1, .int p1), (2, .int p2), (3, .int z4.1), (4, .int z4.2.1)]) hx hb dX6_turned_102 hl (by decide) rfl (fun ls hl => ?_)
                  refine lv_iload hx hb dX6_turned_104 (lv_at hl 0 rfl) ?_
                  refine lv_if_eq (tgt := 114) hx hb dX6_turned_106 (by decide) (fun _ => ?_) (fun c0 => absurd (by decide) c0)
                  refine lv_iload_n hx hb dX6_turned_114 rfl (lv_at hl 4 rfl) ?_
                  refine lv_istore_n (lv' := [(3, .int z4.1), (5, .int 0), (0, .ref q0), (1, .int p1), (2, .int p2), (4, .int z4.2.1)]) hx hb dX6_turned_115 rfl hl (by decide) rfl (fun ls hl => ?_)
                  refine lv_iinc (v := (z4.2.1 + 1)) (lv' := [(4, .int (z4.2.1 + 1)), (3, .int z4.1), (5, .int 0), (0, .ref q0), (1, .int p1), (2, .int p2)]) hx hb dX6_turned_116 hl (k := 5) rfl rfl (by decide) rfl (fun ls hl => ?_)
                  refine lv_goto (tgt := 59) hx hb dX6_turned_119 (by decide) ?_
                  exact ih4 _ _ h _ _ _ hP hD hS (lv_sub hl [3, 4, 5, 1, 0] rfl) kx4
                · have h := (if_neg c0).symm.trans h
                  refine lv_iconst (v := 1) hx hb dX6_turned_97 (by decide) ?_
                  refine lv_goto (tgt := 102) hx hb dX6_turned_98 (by decide) ?_
                  refine lv_istore (lv' := [(5, .int 1), (0, .ref q0), (1, .int p1), (2, .int p2), (3, .int z4.1), (4, .int z4.2.1)]) hx hb dX6_turned_102 hl (by decide) rfl (fun ls hl => ?_)
                  refine lv_iload hx hb dX6_turned_104 (lv_at hl 0 rfl) ?_
                  refine lv_if_eq (tgt := 114) hx hb dX6_turned_106 (by decide) (fun c0 => absurd c0 (by decide)) (fun _ => ?_)
                  refine lv_iload hx hb dX6_turned_109 (lv_at hl 5 rfl) ?_
                  refine lv_goto (tgt := 115) hx hb dX6_turned_111 (by decide) ?_
                  refine lv_istore_n (lv' := [(3, .int z4.2.1), (5, .int 1), (0, .ref q0), (1, .int p1), (2, .int p2), (4, .int z4.2.1)]) hx hb dX6_turned_115 rfl hl (by decide) rfl (fun ls hl => ?_)
                  refine lv_iinc (v := (z4.2.1 + 1)) (lv' := [(4, .int (z4.2.1 + 1)), (3, .int z4.2.1), (5, .int 1), (0, .ref q0), (1, .int p1), (2, .int p2)]) hx hb dX6_turned_116 hl (k := 5) rfl rfl (by decide) rfl (fun ls hl => ?_)
                  refine lv_goto (tgt := 59) hx hb dX6_turned_119 (by decide) ?_
                  exact ih4 _ _ h _ _ _ hP hD hS (lv_sub hl [3, 4, 5, 1, 0] rfl) kx4
              · have h := (if_neg c0).symm.trans h
                refine lv_iload hx hb dX6_turned_75 (lv_at hl 4 rfl) ?_
                obtain ⟨u7, hu7, h⟩ := k_bs h
                refine k_ci (r := u7) (k2 := 0) (n2 := 0) (wc := []) (wc' := []) (w2 := (wM cI q0 q1 q2 q3 q4 q5 q6 q7 q8 q9 q10 q11 q12 s_pageMany s_readMany s_readLate s_state s_many s_late s_armNow s_barNow s_skips s_hallsRead z4.2.2.1 (s_turnedMany + 1) s_recordMany s_beganMany s_seedNow s_keptHall s_keptArm s_keptBar s_keptSkips s_keptRecordMany s_hash s_page s_read s_rows s_sounds s_clapped z4.2.2.2.1 z4.2.2.2.2.1 z4.2.2.2.2.2 s_records s_keptSounds s_keptClapped s_keptRecords)) (va_runS (As := [.int z4.2.1]) (rest := []) ⟨hx, hb, hml, hown, hts⟩ (mX6_ones l D cI ad _ z4.2.1 u7 hu7) (va_cwS 1 hts gX6_turned_X6_ones rfl rfl rfl (by decide +kernel) ⟨Nat.le_of_ble_eq_true rfl, Nat.le_of_ble_eq_true rfl⟩) (k_pres hN hST hA hK hP hD hS (isC := []) rfl rfl) rfl rfl hl.1 rfl (lv_room (Nat.le_of_ble_eq_true rfl)) dX6_turned_77 ⟨Nat.le_of_ble_eq_true rfl, Nat.le_of_ble_eq_true rfl⟩) hP hD hS hA [] rfl rfl rfl rfl rfl (fun H locs hP hD hS => ?_)
                refine lv_iload_n hx hb dX6_turned_80 rfl (lv_at hl 3 rfl) ?_
                obtain ⟨u8, hu8, h⟩ := k_bs h
                refine k_ci (r := u8) (k2 := 0) (n2 := 0) (wc := []) (wc' := []) (w2 := (wM cI q0 q1 q2 q3 q4 q5 q6 q7 q8 q9 q10 q11 q12 s_pageMany s_readMany s_readLate s_state s_many s_late s_armNow s_barNow s_skips s_hallsRead z4.2.2.1 (s_turnedMany + 1) s_recordMany s_beganMany s_seedNow s_keptHall s_keptArm s_keptBar s_keptSkips s_keptRecordMany s_hash s_page s_read s_rows s_sounds s_clapped z4.2.2.2.1 z4.2.2.2.2.1 z4.2.2.2.2.2 s_records s_keptSounds s_keptClapped s_keptRecords)) (va_runS (As := [.int z4.1]) (rest := [.int u7]) ⟨hx, hb, hml, hown, hts⟩ (mX6_ones l D cI ad _ z4.1 u8 hu8) (va_cwS 1 hts gX6_turned_X6_ones rfl rfl rfl (by decide +kernel) ⟨Nat.le_of_ble_eq_true rfl, Nat.le_of_ble_eq_true rfl⟩) (k_pres hN hST hA hK hP hD hS (isC := []) rfl rfl) rfl rfl hl.1 rfl (lv_room (Nat.le_of_ble_eq_true rfl)) dX6_turned_81 ⟨Nat.le_of_ble_eq_true rfl, Nat.le_of_ble_eq_true rfl⟩) hP hD hS hA [] rfl rfl rfl rfl rfl (fun H locs hP hD hS => ?_)
                refine lv_icmp_ge (tgt := 101) hx hb dX6_turned_84 (by decide) (fun c0 => ?_) (fun c0 => ?_)
                · have h := (if_pos c0).symm.trans h
                  refine lv_iconst (v := 0) hx hb dX6_turned_101 (by decide) ?_
                  refine lv_istore (lv' := [(5, .int 0), (0, .ref q0), (1, .int p1), (2, .int p2), (3, .int z4.1), (4, .int z4.2.1)]) hx hb dX6_turned_102 hl (by decide) rfl (fun ls hl => ?_)
                  refine lv_iload hx hb dX6_turned_104 (lv_at hl 0 rfl) ?_
                  refine lv_if_eq (tgt := 114) hx hb dX6_turned_106 (by decide) (fun _ => ?_) (fun c0 => absurd (by decide) c0)
                  refine lv_iload_n hx hb dX6_turned_114 rfl (lv_at hl 4 rfl) ?_
                  refine lv_istore_n (lv' := [(3, .int z4.1), (5, .int 0), (0, .ref q0), (1, .int p1), (2, .int p2), (4, .int z4.2.1)]) hx hb dX6_turned_115 rfl hl (by decide) rfl (fun ls hl => ?_)
                  refine lv_iinc (v := (z4.2.1 + 1)) (lv' := [(4, .int (z4.2.1 + 1)), (3, .int z4.1), (5, .int 0), (0, .ref q0), (1, .int p1), (2, .int p2)]) hx hb dX6_turned_116 hl (k := 5) rfl rfl (by decide) rfl (fun ls hl => ?_)
                  refine lv_goto (tgt := 59) hx hb dX6_turned_119 (by decide) ?_
                  exact ih4 _ _ h _ _ _ hP hD hS (lv_sub hl [3, 4, 5, 1, 0] rfl) kx4
                · have h := (if_neg c0).symm.trans h
                  refine lv_aload_n hx hb dX6_turned_87 rfl (lv_at hl 0 rfl) ?_
                  refine lv_iload hx hb dX6_turned_88 (lv_at hl 4 rfl) ?_
                  refine lv_iload_n hx hb dX6_turned_90 rfl (lv_at hl 1 rfl) ?_
                  obtain ⟨u9, hu9, h⟩ := k_bs h
                  refine k_ciA (r := u9.1) (k2 := 0) (n2 := 0) (ws := (wM cI q0 q1 q2 q3 q4 q5 q6 q7 q8 q9 q10 q11 q12 s_pageMany s_readMany s_readLate s_state s_many s_late s_armNow s_barNow s_skips s_hallsRead z4.2.2.1 (s_turnedMany + 1) s_recordMany s_beganMany s_seedNow s_keptHall s_keptArm s_keptBar s_keptSkips s_keptRecordMany s_hash s_page s_read s_rows s_sounds s_clapped z4.2.2.2.1 z4.2.2.2.2.1 z4.2.2.2.2.2 s_records s_keptSounds s_keptClapped s_keptRecords)) (wc' := (wM cI q0 q1 q2 q3 q4 q5 q6 q7 q8 q9 q10 q11 q12 s_pageMany s_readMany s_readLate s_state s_many s_late s_armNow s_barNow s_skips s_hallsRead u9.2.1 (s_turnedMany + 1) s_recordMany s_beganMany s_seedNow s_keptHall s_keptArm s_keptBar s_keptSkips s_keptRecordMany s_hash s_page s_read s_rows s_sounds s_clapped u9.2.2.1 u9.2.2.2.1 u9.2.2.2.2 s_records s_keptSounds s_keptClapped s_keptRecords)) (va_runV (C := RX6) (As := [.int z4.2.1, .int p1]) (rest := []) ⟨hx, hb, hml, hown, hts⟩ (mX6_isWonBy l D cI ad q0 q1 q2 q3 q4 q5 q6 q7 q8 q9 q10 q11 q12 _ s_pageMany s_readMany s_readLate s_state s_many s_late s_armNow s_barNow s_skips s_hallsRead z4.2.2.1 (s_turnedMany + 1) s_recordMany s_beganMany s_seedNow s_keptHall s_keptArm s_keptBar s_keptSkips s_keptRecordMany s_hash s_page s_read s_rows s_sounds s_clapped z4.2.2.2.1 z4.2.2.2.2.1 z4.2.2.2.2.2 s_records s_keptSounds s_keptClapped s_keptRecords z4.2.1 p1 u9 hu9) (cwV 2 hts gX6_turned_X6_isWonBy rfl rfl rfl (by decide +kernel) ⟨Nat.le_of_ble_eq_true rfl, Nat.le_of_ble_eq_true rfl⟩) (k_preA (q := (RX6, TX6, 33)) hN hST hA hK hP hD hS 0 (ci := 6) rfl rfl) rfl rfl hl.1 rfl (lv_room (Nat.le_of_ble_eq_true rfl)) dX6_turned_91 ⟨Nat.le_of_ble_eq_true rfl, Nat.le_of_ble_eq_true rfl⟩) hP hD hS hA rfl rfl (fun H locs hP hD hS => ?_)
                  refine lv_if_eq (tgt := 101) hx hb dX6_turned_94 (by decide) (fun c0 => ?_) (fun c0 => ?_)
                  · have h := (if_pos c0).symm.trans h
                    refine lv_iconst (v := 0) hx hb dX6_turned_101 (by decide) ?_
                    refine lv_istore (lv' := [(5, .int 0), (0, .ref q0), (1, .int p1), (2, .int p2), (3, .int z4.1), (4, .int z4.2.1)]) hx hb dX6_turned_102 hl (by decide) rfl (fun ls hl => ?_)
                    refine lv_iload hx hb dX6_turned_104 (lv_at hl 0 rfl) ?_
                    refine lv_if_eq (tgt := 114) hx hb dX6_turned_106 (by decide) (fun _ => ?_) (fun c0 => absurd (by decide) c0)
                    refine lv_iload_n hx hb dX6_turned_114 rfl (lv_at hl 4 rfl) ?_
                    refine lv_istore_n (lv' := [(3, .int z4.1), (5, .int 0), (0, .ref q0), (1, .int p1), (2, .int p2), (4, .int z4.2.1)]) hx hb dX6_turned_115 rfl hl (by decide) rfl (fun ls hl => ?_)
                    refine lv_iinc (v := (z4.2.1 + 1)) (lv' := [(4, .int (z4.2.1 + 1)), (3, .int z4.1), (5, .int 0), (0, .ref q0), (1, .int p1), (2, .int p2)]) hx hb dX6_turned_116 hl (k := 5) rfl rfl (by decide) rfl (fun ls hl => ?_)
                    refine lv_goto (tgt := 59) hx hb dX6_turned_119 (by decide) ?_
                    exact ih4 _ _ h _ _ _ hP hD hS (lv_sub hl [3, 4, 5, 1, 0] rfl) kx4
                  · have h := (if_neg c0).symm.trans h
                    refine lv_iconst (v := 1) hx hb dX6_turned_97 (by decide) ?_
                    refine lv_goto (tgt := 102) hx hb dX6_turned_98 (by decide) ?_
                    refine lv_istore (lv' := [(5, .int 1), (0, .ref q0), (1, .int p1), (2, .int p2), (3, .int z4.1), (4, .int z4.2.1)]) hx hb dX6_turned_102 hl (by decide) rfl (fun ls hl => ?_)
                    refine lv_iload hx hb dX6_turned_104 (lv_at hl 0 rfl) ?_
                    refine lv_if_eq (tgt := 114) hx hb dX6_turned_106 (by decide) (fun c0 => absurd c0 (by decide)) (fun _ => ?_)
                    refine lv_iload hx hb dX6_turned_109 (lv_at hl 5 rfl) ?_
                    refine lv_goto (tgt := 115) hx hb dX6_turned_111 (by decide) ?_
                    refine lv_istore_n (lv' := [(3, .int z4.2.1), (5, .int 1), (0, .ref q0), (1, .int p1), (2, .int p2), (4, .int z4.2.1)]) hx hb dX6_turned_115 rfl hl (by decide) rfl (fun ls hl => ?_)
                    refine lv_iinc (v := (z4.2.1 + 1)) (lv' := [(4, .int (z4.2.1 + 1)), (3, .int z4.2.1), (5, .int 1), (0, .ref q0), (1, .int p1), (2, .int p2)]) hx hb dX6_turned_116 hl (k := 5) rfl rfl (by decide) rfl (fun ls hl => ?_)
                    refine lv_goto (tgt := 59) hx hb dX6_turned_119 (by decide) ?_
                    exact ih4 _ _ h _ _ _ hP hD hS (lv_sub hl [3, 4, 5, 1, 0] rfl) kx4
          · intro H locs ls hP hD hS hl
            refine lv_iload_n hx hb dX6_turned_122 rfl (lv_at hl 3 rfl) ?_
            refine lv_iconst (v := (-1)) hx hb dX6_turned_123 (by decide) ?_
            refine lv_icmp_eq (tgt := 132) hx hb dX6_turned_124 (by decide) (fun c0 => ?_) (fun c0 => ?_)
            · have h := (if_pos c0).symm.trans h
              refine lv_iload_n hx hb dX6_turned_132 rfl (lv_at hl 3 rfl) ?_
              refine lv_goto (tgt := 140) hx hb dX6_turned_133 (by decide) ?_
              have h := Option.some.inj h
              subst h
              exact hRet _ _ _ _ hP hD hS dX6_turned_140
            · have h := (if_neg c0).symm.trans h
              refine lv_iload_n hx hb dX6_turned_127 rfl (lv_at hl 2 rfl) ?_
              refine lv_iconst (v := 1) hx hb dX6_turned_128 (by decide) ?_
              refine lv_icmp_ne (tgt := 136) hx hb dX6_turned_129 (by decide) (fun c0 => ?_) (fun c0 => ?_)
              · have h := (if_neg c0).symm.trans h
                refine lv_iload_n hx hb dX6_turned_136 rfl (lv_at hl 3 rfl) ?_
                obtain ⟨u10, hu10, h⟩ := k_bs h
                refine k_ci (r := u10) (k2 := 0) (n2 := 0) (wc := []) (wc' := []) (w2 := (wM cI q0 q1 q2 q3 q4 q5 q6 q7 q8 q9 q10 q11 q12 s_pageMany s_readMany s_readLate s_state s_many s_late s_armNow s_barNow s_skips s_hallsRead u5.2.2.1 (s_turnedMany + 1) s_recordMany s_beganMany s_seedNow s_keptHall s_keptArm s_keptBar s_keptSkips s_keptRecordMany s_hash s_page s_read s_rows s_sounds s_clapped u5.2.2.2.1 u5.2.2.2.2.1 u5.2.2.2.2.2 s_records s_keptSounds s_keptClapped s_keptRecords)) (va_runS (As := [.int u5.1]) (rest := []) ⟨hx, hb, hml, hown, hts⟩ (mX6_ones l D cI ad _ u5.1 u10 hu10) (va_cwS 1 hts gX6_turned_X6_ones rfl rfl rfl (by decide +kernel) ⟨Nat.le_of_ble_eq_true rfl, Nat.le_of_ble_eq_true rfl⟩) (k_pres hN hST hA hK hP hD hS (isC := []) rfl rfl) rfl rfl hl.1 rfl (lv_room (Nat.le_of_ble_eq_true rfl)) dX6_turned_137 ⟨Nat.le_of_ble_eq_true rfl, Nat.le_of_ble_eq_true rfl⟩) hP hD hS hA [] rfl rfl rfl rfl rfl (fun H locs hP hD hS => ?_)
                have h := Option.some.inj h
                subst h
                exact hRet _ _ _ _ hP hD hS dX6_turned_140
              · have h := (if_pos c0).symm.trans h
                refine lv_iload_n hx hb dX6_turned_132 rfl (lv_at hl 3 rfl) ?_
                refine lv_goto (tgt := 140) hx hb dX6_turned_133 (by decide) ?_
                have h := Option.some.inj h
                subst h
                exact hRet _ _ _ _ hP hD hS dX6_turned_140
        · have h := (if_pos c0).symm.trans h
          refine lv_bipush (v := (-103)) hx hb dX6_turned_41 (by decide) ?_
          have h := Option.some.inj h
          subst h
          exact hRet _ _ _ _ hP hD hS dX6_turned_43
    · have h := (if_pos c0).symm.trans h
      refine lv_bipush (v := (-102)) hx hb dX6_turned_22 (by decide) ?_
      have h := Option.some.inj h
      subst h
      exact hRet _ _ _ _ hP hD hS dX6_turned_24
theorem iX6_record_X6 : ∀ w ∈ wsX60, w ∈ wsX6_record := by decide +kernel
def rX6_record : Room := { frames := 1, cells := 0, slots := 0, locals := 25 }
set_option maxHeartbeats 4000000 in
set_option maxRecDepth 100000 in
theorem mX6_record (l : Launch) (D : va_G) (cI : ClassId) (ad : Nat × Nat) (q0 q1 q2 q3 q4 q5 q6 q7 q8 q9 q10 q11 q12 : Nat) (sz : Nat) (s_pageMany : Int32) (s_readMany : Int32) (s_readLate : Int32) (s_state : Int32) (s_many : Int32) (s_late : Int32) (s_armNow : Int32) (s_barNow : Int32) (s_skips : Int32) (s_hallsRead : Int32) (s_nowArm : Int32) (s_turnedMany : Int32) (s_recordMany : Int32) (s_beganMany : Int32) (s_seedNow : Int32) (s_keptHall : Int32) (s_keptArm : Int32) (s_keptBar : Int32) (s_keptSkips : Int32) (s_keptRecordMany : Int32) (s_hash : Int64) (s_page : (Nat → Int32)) (s_read : (Nat → Int32)) (s_rows : (Nat → Int32)) (s_sounds : (Nat → Int32)) (s_clapped : (Nat → Int32)) (s_now : (Nat → Int32)) (s_nowLong : (Nat → Int32)) (s_ahead : (Nat → Int32)) (s_records : (Nat → Int32)) (s_keptSounds : (Nat → Int32)) (s_keptClapped : (Nat → Int32)) (s_keptRecords : (Nat → Int32)) (p1 : Int32) (r : (Int32 × Int32 × (Nat → Int32))) (h : fX6_record s_recordMany s_records p1 = some r) : Met l yX6_record wsX6_record rX6_record (kPre D cI ad [.ref q0, .int p1] (wM cI q0 q1 q2 q3 q4 q5 q6 q7 q8 q9 q10 q11 q12 s_pageMany s_readMany s_readLate s_state s_many s_late s_armNow s_barNow s_skips s_hallsRead s_nowArm s_turnedMany s_recordMany s_beganMany s_seedNow s_keptHall s_keptArm s_keptBar s_keptSkips s_keptRecordMany s_hash s_page s_read s_rows s_sounds s_clapped s_now s_nowLong s_ahead s_records s_keptSounds s_keptClapped s_keptRecords) sz) (kQi D cI r.1 (wM cI q0 q1 q2 q3 q4 q5 q6 q7 q8 q9 q10 q11 q12 s_pageMany s_readMany s_readLate s_state s_many s_late s_armNow s_barNow s_skips s_hallsRead s_nowArm s_turnedMany r.2.1 s_beganMany s_seedNow s_keptHall s_keptArm s_keptBar s_keptSkips s_keptRecordMany s_hash s_page s_read s_rows s_sounds s_clapped s_now s_nowLong s_ahead r.2.2 s_keptSounds s_keptClapped s_keptRecords) (va_A (wM cI q0 q1 q2 q3 q4 q5 q6 q7 q8 q9 q10 q11 q12 s_pageMany s_readMany s_readLate s_state s_many s_late s_armNow s_barNow s_skips s_hallsRead s_nowArm s_turnedMany s_recordMany s_beganMany s_seedNow s_keptHall s_keptArm s_keptBar s_keptSkips s_keptRecordMany s_hash s_page s_read s_rows s_sounds s_clapped s_now s_nowLong s_ahead s_records s_keptSounds s_keptClapped s_keptRecords) sz)) 0 0 (va_A (wM cI q0 q1 q2 q3 q4 q5 q6 q7 q8 q9 q10 q11 q12 s_pageMany s_readMany s_readLate s_state s_many s_late s_armNow s_barNow s_skips s_hallsRead s_nowArm s_turnedMany s_recordMany s_beganMany s_seedNow s_keptHall s_keptArm s_keptBar s_keptSkips s_keptRecordMany s_hash s_page s_read s_rows s_sounds s_clapped s_now s_nowLong s_ahead s_records s_keptSounds s_keptClapped s_keptRecords) sz) := by
  refine kStart (cc := cX6_record) (maxL := 2) (ret := (some .int)) (Qc := fun A => kQi D cI r.1 (wM cI q0 q1 q2 q3 q4 q5 q6 q7 q8 q9 q10 q11 q12 s_pageMany s_readMany s_readLate s_state s_many s_late s_armNow s_barNow s_skips s_hallsRead s_nowArm s_turnedMany r.2.1 s_beganMany s_seedNow s_keptHall s_keptArm s_keptBar s_keptSkips s_keptRecordMany s_hash s_page s_read s_rows s_sounds s_clapped s_now s_nowLong s_ahead r.2.2 s_keptSounds s_keptClapped s_keptRecords) A) (by decide) rfl (Nat.le_of_ble_eq_true rfl) ?_
  intro p e s m args below meth c A ls hx hb hr hts hown hlocks hin hml hN hST hA hS hP hK hD hl
  have hown : s.vm.findClass RX6 = some m.cls := hown
  have hl : lv_has ls 2 [(0, .ref q0), (1, .int p1)] := hl
  have hRet : ∀ (H : Heap) (locs : List Loc) (ls : Array Slot) (pc : Nat), va_P D vwCl (wM cI q0 q1 q2 q3 q4 q5 q6 q7 q8 q9 q10 q11 q12 s_pageMany s_readMany s_readLate s_state s_many s_late s_armNow s_barNow s_skips s_hallsRead s_nowArm s_turnedMany r.2.1 s_beganMany s_seedNow s_keptHall s_keptArm s_keptBar s_keptSkips s_keptRecordMany s_hash s_page s_read s_rows s_sounds s_clapped s_now s_nowLong s_ahead r.2.2 s_keptSounds s_keptClapped s_keptRecords) H → va_D A (wM cI q0 q1 q2 q3 q4 q5 q6 q7 q8 q9 q10 q11 q12 s_pageMany s_readMany s_readLate s_state s_many s_late s_armNow s_barNow s_skips s_hallsRead s_nowArm s_turnedMany r.2.1 s_beganMany s_seedNow s_keptHall s_keptArm s_keptBar s_keptSkips s_keptRecordMany s_hash s_page s_read s_rows s_sounds s_clapped s_now s_nowLong s_ahead r.2.2 s_keptSounds s_keptClapped s_keptRecords) → va_S A s.heap H locs → decode cX6_record pc = .ok (.ireturn, 1) → W p l e rX6_record s m args below meth c H locs 0 0 (MQ below (kQi D cI r.1 (wM cI q0 q1 q2 q3 q4 q5 q6 q7 q8 q9 q10 q11 q12 s_pageMany s_readMany s_readLate s_state s_many s_late s_armNow s_barNow s_skips s_hallsRead s_nowArm s_turnedMany r.2.1 s_beganMany s_seedNow s_keptHall s_keptArm s_keptBar s_keptSkips s_keptRecordMany s_hash s_page s_read s_rows s_sounds s_clapped s_now s_nowLong s_ahead r.2.2 s_keptSounds s_keptClapped s_keptRecords) A) args s 0 0 A) (F0 m pc ls [.int r.1]) := fun H locs ls pc hP hD hS hd => k_iret hx hb hr hlocks hK hP hD hS hd
  generalize MQ below (kQi D cI r.1 (wM cI q0 q1 q2 q3 q4 q5 q6 q7 q8 q9 q10 q11 q12 s_pageMany s_readMany s_readLate s_state s_many s_late s_armNow s_barNow s_skips s_hallsRead s_nowArm s_turnedMany r.2.1 s_beganMany s_seedNow s_keptHall s_keptArm s_keptBar s_keptSkips s_keptRecordMany s_hash s_page s_read s_rows s_sounds s_clapped s_now s_nowLong s_ahead r.2.2 s_keptSounds s_keptClapped s_keptRecords) A) args s 0 0 A = Q at hRet ⊢
  unfold fX6_record at h
  refine lv_iload_n hx hb dX6_record_0 rfl (lv_at hl 1 rfl) ?_
  refine lv_i2l hx hb dX6_record_1 rfl ?_
  refine lv_lconst (v := 0) hx hb dX6_record_2 (by decide) ?_
  refine lv_ldc2 (v := 72) hx hb hown (hts (.constantLong RX6 191 72) (by decide +kernel)) dX6_record_3 ?_
  obtain ⟨u1, hu1, h⟩ := k_bs h
  refine k_ci (r := u1) (k2 := 0) (n2 := 0) (wc := []) (wc' := []) (w2 := (wM cI q0 q1 q2 q3 q4 q5 q6 q7 q8 q9 q10 q11 q12 s_pageMany s_readMany s_readLate s_state s_many s_late s_armNow s_barNow s_skips s_hallsRead s_nowArm s_turnedMany s_recordMany s_beganMany s_seedNow s_keptHall s_keptArm s_keptBar s_keptSkips s_keptRecordMany s_hash s_page s_read s_rows s_sounds s_clapped s_now s_nowLong s_ahead s_records s_keptSounds s_keptClapped s_keptRecords)) (va_runS (As := [.long (Int32.toInt64 p1), .long (0 : Int64), .long (72 : Int64)]) (rest := []) ⟨hx, hb, hml, hown, hts⟩ (mX6_in l D cI ad _ (Int32.toInt64 p1) (0 : Int64) (72 : Int64) u1 hu1) (va_cwS 3 hts gX6_record_X6_in rfl rfl rfl (by decide +kernel) ⟨Nat.le_of_ble_eq_true rfl, Nat.le_of_ble_eq_true rfl⟩) (k_pres hN hST hA hK hP hD hS (isC := []) rfl rfl) rfl rfl hl.1 rfl (lv_room (Nat.le_of_ble_eq_true rfl)) dX6_record_6 ⟨Nat.le_of_ble_eq_true rfl, Nat.le_of_ble_eq_true rfl⟩) hP hD hS hA [] rfl rfl rfl rfl rfl (fun H locs hP hD hS => ?_)
  refine lv_if_ne (tgt := 15) hx hb dX6_record_9 (by decide) (fun c0 => ?_) (fun c0 => ?_)
  · have h := (if_neg c0).symm.trans h
    refine lv_aload_n hx hb dX6_record_15 rfl (lv_at hl 0 rfl) ?_
    refine va_get (D := D) (ci := 6) (v := .int s_recordMany) (C := RX6) (T := TX6) (N := 33) hx hb hts iX6_record_X6 hown hK hP 0 rfl rfl 20 (by decide) (hts (.fieldLink RX6 99 "ClappedWrongModel" "recordMany" "I") (by decide +kernel)) (fun _ h9 => h9) rfl dX6_record_16 ?_
    refine lv_bipush (v := 8) hx hb dX6_record_19 (by decide) ?_
    refine lv_icmp_ne (tgt := 27) hx hb dX6_record_21 (by decide) (fun c0 => ?_) (fun c0 => ?_)
    · have h := (if_neg c0).symm.trans h
      refine lv_aload_n hx hb dX6_record_27 rfl (lv_at hl 0 rfl) ?_
      refine va_get (D := D) (ci := 6) (v := .ref q9) (C := RX6) (T := TX6) (N := 33) hx hb hts iX6_record_X6 hown hK hP 0 rfl rfl 21 (by decide) (hts (.fieldLink RX6 34 "ClappedWrongModel" "records" "[I") (by decide +kernel)) (fun _ h9 => h9) rfl dX6_record_28 ?_
      refine lv_aload_n hx hb dX6_record_31 rfl (lv_at hl 0 rfl) ?_
      refine va_get (D := D) (ci := 6) (v := .int s_recordMany) (C := RX6) (T := TX6) (N := 33) hx hb hts iX6_record_X6 hown hK hP 0 rfl rfl 20 (by decide) (hts (.fieldLink RX6 99 "ClappedWrongModel" "recordMany" "I") (by decide +kernel)) (fun _ h9 => h9) rfl dX6_record_32 ?_
      refine lv_iload_n hx hb dX6_record_35 rfl (lv_at hl 1 rfl) ?_
      refine k_iast hx hb hK hP hD hS 9 rfl dX6_record_36 h (fun g2 => (wM cI q0 q1 q2 q3 q4 q5 q6 q7 q8 q9 q10 q11 q12 s_pageMany s_readMany s_readLate s_state s_many s_late s_armNow s_barNow s_skips s_hallsRead s_nowArm s_turnedMany s_recordMany s_beganMany s_seedNow s_keptHall s_keptArm s_keptBar s_keptSkips s_keptRecordMany s_hash s_page s_read s_rows s_sounds s_clapped s_now s_nowLong s_ahead g2 s_keptSounds s_keptClapped s_keptRecords)) (fun _ => rfl) (fun g2 H locs h hP hD hS => ?_)
      refine lv_aload_n hx hb dX6_record_37 rfl (lv_at hl 0 rfl) ?_
      refine lv_dup hx hb dX6_record_38 rfl ?_
      refine va_get (D := D) (ci := 6) (v := .int s_recordMany) (C := RX6) (T := TX6) (N := 33) hx hb hts iX6_record_X6 hown hK hP 0 rfl rfl 20 (by decide) (hts (.fieldLink RX6 99 "ClappedWrongModel" "recordMany" "I") (by decide +kernel)) (fun _ h9 => h9) rfl dX6_record_39 ?_
      refine lv_iconst (v := 1) hx hb dX6_record_42 (by decide) ?_
      refine lv_iadd hx hb dX6_record_43 ?_
      refine va_put (D := D) (ci := 6) (v := .int (s_recordMany + 1)) (ty := .int) (C := RX6) (T := TX6) (N := 33) hx hb hts iX6_record_X6 tyX6 tyX6_ok nmX6 hown hK hP hD hS 0 rfl rfl 20 (by decide) (hts (.fieldLink RX6 99 "ClappedWrongModel" "recordMany" "I") (by decide +kernel)) (fun _ h9 => h9) rfl (by decide +kernel) rfl rfl (Nat.le_of_ble_eq_true rfl) dX6_record_44 (fun H locs hP hD hS => ?_)
      have hP : va_P D vwCl (wM cI q0 q1 q2 q3 q4 q5 q6 q7 q8 q9 q10 q11 q12 s_pageMany s_readMany s_readLate s_state s_many s_late s_armNow s_barNow s_skips s_hallsRead s_nowArm s_turnedMany (s_recordMany + 1) s_beganMany s_seedNow s_keptHall s_keptArm s_keptBar s_keptSkips s_keptRecordMany s_hash s_page s_read s_rows s_sounds s_clapped s_now s_nowLong s_ahead g2 s_keptSounds s_keptClapped s_keptRecords) H := hP
      have hD : va_D A (wM cI q0 q1 q2 q3 q4 q5 q6 q7 q8 q9 q10 q11 q12 s_pageMany s_readMany s_readLate s_state s_many s_late s_armNow s_barNow s_skips s_hallsRead s_nowArm s_turnedMany (s_recordMany + 1) s_beganMany s_seedNow s_keptHall s_keptArm s_keptBar s_keptSkips s_keptRecordMany s_hash s_page s_read s_rows s_sounds s_clapped s_now s_nowLong s_ahead g2 s_keptSounds s_keptClapped s_keptRecords) := hD
      refine lv_aload_n hx hb dX6_record_47 rfl (lv_at hl 0 rfl) ?_
      refine va_get (D := D) (ci := 6) (v := .int (s_recordMany + 1)) (C := RX6) (T := TX6) (N := 33) hx hb hts iX6_record_X6 hown hK hP 0 rfl rfl 20 (by decide) (hts (.fieldLink RX6 99 "ClappedWrongModel" "recordMany" "I") (by decide +kernel)) (fun _ h9 => h9) rfl dX6_record_48 ?_
      have h := Option.some.inj h
      subst h
      exact hRet _ _ _ _ hP hD hS dX6_record_51
    · have h := (if_pos c0).symm.trans h
      refine lv_bipush (v := (-104)) hx hb dX6_record_24 (by decide) ?_
      have h := Option.some.inj h
      subst h
      exact hRet _ _ _ _ hP hD hS dX6_record_26
  · have h := (if_pos c0).symm.trans h
    refine lv_bipush (v := (-102)) hx hb dX6_record_12 (by decide) ?_
    have h := Option.some.inj h
    subst h
    exact hRet _ _ _ _ hP hD hS dX6_record_14
theorem iX6_forget_X6 : ∀ w ∈ wsX60, w ∈ wsX6_forget := by decide +kernel
def rX6_forget : Room := { frames := 0, cells := 0, slots := 0, locals := 0 }
set_option maxHeartbeats 4000000 in
set_option maxRecDepth 100000 in
theorem mX6_forget (l : Launch) (D : va_G) (cI : ClassId) (ad : Nat × Nat) (q0 q1 q2 q3 q4 q5 q6 q7 q8 q9 q10 q11 q12 : Nat) (sz : Nat) (s_pageMany : Int32) (s_readMany : Int32) (s_readLate : Int32) (s_state : Int32) (s_many : Int32) (s_late : Int32) (s_armNow : Int32) (s_barNow : Int32) (s_skips : Int32) (s_hallsRead : Int32) (s_nowArm : Int32) (s_turnedMany : Int32) (s_recordMany : Int32) (s_beganMany : Int32) (s_seedNow : Int32) (s_keptHall : Int32) (s_keptArm : Int32) (s_keptBar : Int32) (s_keptSkips : Int32) (s_keptRecordMany : Int32) (s_hash : Int64) (s_page : (Nat → Int32)) (s_read : (Nat → Int32)) (s_rows : (Nat → Int32)) (s_sounds : (Nat → Int32)) (s_clapped : (Nat → Int32)) (s_now : (Nat → Int32)) (s_nowLong : (Nat → Int32)) (s_ahead : (Nat → Int32)) (s_records : (Nat → Int32)) (s_keptSounds : (Nat → Int32)) (s_keptClapped : (Nat → Int32)) (s_keptRecords : (Nat → Int32)) (r : (Int32 × Int32)) (h : fX6_forget s_recordMany = some r) : Met l yX6_forget wsX6_forget rX6_forget (kPre D cI ad [.ref q0] (wM cI q0 q1 q2 q3 q4 q5 q6 q7 q8 q9 q10 q11 q12 s_pageMany s_readMany s_readLate s_state s_many s_late s_armNow s_barNow s_skips s_hallsRead s_nowArm s_turnedMany s_recordMany s_beganMany s_seedNow s_keptHall s_keptArm s_keptBar s_keptSkips s_keptRecordMany s_hash s_page s_read s_rows s_sounds s_clapped s_now s_nowLong s_ahead s_records s_keptSounds s_keptClapped s_keptRecords) sz) (kQi D cI r.1 (wM cI q0 q1 q2 q3 q4 q5 q6 q7 q8 q9 q10 q11 q12 s_pageMany s_readMany s_readLate s_state s_many s_late s_armNow s_barNow s_skips s_hallsRead s_nowArm s_turnedMany r.2 s_beganMany s_seedNow s_keptHall s_keptArm s_keptBar s_keptSkips s_keptRecordMany s_hash s_page s_read s_rows s_sounds s_clapped s_now s_nowLong s_ahead s_records s_keptSounds s_keptClapped s_keptRecords) (va_A (wM cI q0 q1 q2 q3 q4 q5 q6 q7 q8 q9 q10 q11 q12 s_pageMany s_readMany s_readLate s_state s_many s_late s_armNow s_barNow s_skips s_hallsRead s_nowArm s_turnedMany s_recordMany s_beganMany s_seedNow s_keptHall s_keptArm s_keptBar s_keptSkips s_keptRecordMany s_hash s_page s_read s_rows s_sounds s_clapped s_now s_nowLong s_ahead s_records s_keptSounds s_keptClapped s_keptRecords) sz)) 0 0 (va_A (wM cI q0 q1 q2 q3 q4 q5 q6 q7 q8 q9 q10 q11 q12 s_pageMany s_readMany s_readLate s_state s_many s_late s_armNow s_barNow s_skips s_hallsRead s_nowArm s_turnedMany s_recordMany s_beganMany s_seedNow s_keptHall s_keptArm s_keptBar s_keptSkips s_keptRecordMany s_hash s_page s_read s_rows s_sounds s_clapped s_now s_nowLong s_ahead s_records s_keptSounds s_keptClapped s_keptRecords) sz) := by
  refine kStart (cc := cX6_forget) (maxL := 2) (ret := (some .int)) (Qc := fun A => kQi D cI r.1 (wM cI q0 q1 q2 q3 q4 q5 q6 q7 q8 q9 q10 q11 q12 s_pageMany s_readMany s_readLate s_state s_many s_late s_armNow s_barNow s_skips s_hallsRead s_nowArm s_turnedMany r.2 s_beganMany s_seedNow s_keptHall s_keptArm s_keptBar s_keptSkips s_keptRecordMany s_hash s_page s_read s_rows s_sounds s_clapped s_now s_nowLong s_ahead s_records s_keptSounds s_keptClapped s_keptRecords) A) (by decide) rfl (Nat.le_of_ble_eq_true rfl) ?_
  intro p e s m args below meth c A ls hx hb hr hts hown hlocks hin hml hN hST hA hS hP hK hD hl
  have hown : s.vm.findClass RX6 = some m.cls := hown
  have hl : lv_has ls 2 [(0, .ref q0)] := hl
  have hRet : ∀ (H : Heap) (locs : List Loc) (ls : Array Slot) (pc : Nat), va_P D vwCl (wM cI q0 q1 q2 q3 q4 q5 q6 q7 q8 q9 q10 q11 q12 s_pageMany s_readMany s_readLate s_state s_many s_late s_armNow s_barNow s_skips s_hallsRead s_nowArm s_turnedMany r.2 s_beganMany s_seedNow s_keptHall s_keptArm s_keptBar s_keptSkips s_keptRecordMany s_hash s_page s_read s_rows s_sounds s_clapped s_now s_nowLong s_ahead s_records s_keptSounds s_keptClapped s_keptRecords) H → va_D A (wM cI q0 q1 q2 q3 q4 q5 q6 q7 q8 q9 q10 q11 q12 s_pageMany s_readMany s_readLate s_state s_many s_late s_armNow s_barNow s_skips s_hallsRead s_nowArm s_turnedMany r.2 s_beganMany s_seedNow s_keptHall s_keptArm s_keptBar s_keptSkips s_keptRecordMany s_hash s_page s_read s_rows s_sounds s_clapped s_now s_nowLong s_ahead s_records s_keptSounds s_keptClapped s_keptRecords) → va_S A s.heap H locs → decode cX6_forget pc = .ok (.ireturn, 1) → W p l e rX6_forget s m args below meth c H locs 0 0 (MQ below (kQi D cI r.1 (wM cI q0 q1 q2 q3 q4 q5 q6 q7 q8 q9 q10 q11 q12 s_pageMany s_readMany s_readLate s_state s_many s_late s_armNow s_barNow s_skips s_hallsRead s_nowArm s_turnedMany r.2 s_beganMany s_seedNow s_keptHall s_keptArm s_keptBar s_keptSkips s_keptRecordMany s_hash s_page s_read s_rows s_sounds s_clapped s_now s_nowLong s_ahead s_records s_keptSounds s_keptClapped s_keptRecords) A) args s 0 0 A) (F0 m pc ls [.int r.1]) := fun H locs ls pc hP hD hS hd => k_iret hx hb hr hlocks hK hP hD hS hd
  generalize MQ below (kQi D cI r.1 (wM cI q0 q1 q2 q3 q4 q5 q6 q7 q8 q9 q10 q11 q12 s_pageMany s_readMany s_readLate s_state s_many s_late s_armNow s_barNow s_skips s_hallsRead s_nowArm s_turnedMany r.2 s_beganMany s_seedNow s_keptHall s_keptArm s_keptBar s_keptSkips s_keptRecordMany s_hash s_page s_read s_rows s_sounds s_clapped s_now s_nowLong s_ahead s_records s_keptSounds s_keptClapped s_keptRecords) A) args s 0 0 A = Q at hRet ⊢
  unfold fX6_forget at h
  refine lv_aload_n hx hb dX6_forget_0 rfl (lv_at hl 0 rfl) ?_
  refine va_get (D := D) (ci := 6) (v := .int s_recordMany) (C := RX6) (T := TX6) (N := 33) hx hb hts iX6_forget_X6 hown hK hP 0 rfl rfl 20 (by decide) (hts (.fieldLink RX6 99 "ClappedWrongModel" "recordMany" "I") (by decide +kernel)) (fun _ h9 => h9) rfl dX6_forget_1 ?_
  refine lv_istore_n (lv' := [(1, .int s_recordMany), (0, .ref q0)]) hx hb dX6_forget_4 rfl hl (by decide) rfl (fun ls hl => ?_)
  refine lv_aload_n hx hb dX6_forget_5 rfl (lv_at hl 1 rfl) ?_
  refine lv_iconst (v := 0) hx hb dX6_forget_6 (by decide) ?_
  refine va_put (D := D) (ci := 6) (v := .int 0) (ty := .int) (C := RX6) (T := TX6) (N := 33) hx hb hts iX6_forget_X6 tyX6 tyX6_ok nmX6 hown hK hP hD hS 0 rfl rfl 20 (by decide) (hts (.fieldLink RX6 99 "ClappedWrongModel" "recordMany" "I") (by decide +kernel)) (fun _ h9 => h9) rfl (by decide +kernel) rfl rfl (Nat.le_of_ble_eq_true rfl) dX6_forget_7 (fun H locs hP hD hS => ?_)
  have hP : va_P D vwCl (wM cI q0 q1 q2 q3 q4 q5 q6 q7 q8 q9 q10 q11 q12 s_pageMany s_readMany s_readLate s_state s_many s_late s_armNow s_barNow s_skips s_hallsRead s_nowArm s_turnedMany 0 s_beganMany s_seedNow s_keptHall s_keptArm s_keptBar s_keptSkips s_keptRecordMany s_hash s_page s_read s_rows s_sounds s_clapped s_now s_nowLong s_ahead s_records s_keptSounds s_keptClapped s_keptRecords) H := hP
  have hD : va_D A (wM cI q0 q1 q2 q3 q4 q5 q6 q7 q8 q9 q10 q11 q12 s_pageMany s_readMany s_readLate s_state s_many s_late s_armNow s_barNow s_skips s_hallsRead s_nowArm s_turnedMany 0 s_beganMany s_seedNow s_keptHall s_keptArm s_keptBar s_keptSkips s_keptRecordMany s_hash s_page s_read s_rows s_sounds s_clapped s_now s_nowLong s_ahead s_records s_keptSounds s_keptClapped s_keptRecords) := hD
  refine lv_iload_n hx hb dX6_forget_10 rfl (lv_at hl 0 rfl) ?_
  have h := Option.some.inj h
  subst h
  exact hRet _ _ _ _ hP hD hS dX6_forget_11
theorem iX6_isRecordedBy_X6 : ∀ w ∈ wsX60, w ∈ wsX6_isRecordedBy := by decide +kernel
def rX6_isRecordedBy : Room := { frames := 5, cells := 0, slots := 0, locals := 114 }
set_option maxHeartbeats 4000000 in
set_option maxRecDepth 100000 in
theorem mX6_isRecordedBy (l : Launch) (D : va_G) (cI : ClassId) (ad : Nat × Nat) (q0 q1 q2 q3 q4 q5 q6 q7 q8 q9 q10 q11 q12 : Nat) (sz : Nat) (s_pageMany : Int32) (s_readMany : Int32) (s_readLate : Int32) (s_state : Int32) (s_many : Int32) (s_late : Int32) (s_armNow : Int32) (s_barNow : Int32) (s_skips : Int32) (s_hallsRead : Int32) (s_nowArm : Int32) (s_turnedMany : Int32) (s_recordMany : Int32) (s_beganMany : Int32) (s_seedNow : Int32) (s_keptHall : Int32) (s_keptArm : Int32) (s_keptBar : Int32) (s_keptSkips : Int32) (s_keptRecordMany : Int32) (s_hash : Int64) (s_page : (Nat → Int32)) (s_read : (Nat → Int32)) (s_rows : (Nat → Int32)) (s_sounds : (Nat → Int32)) (s_clapped : (Nat → Int32)) (s_now : (Nat → Int32)) (s_nowLong : (Nat → Int32)) (s_ahead : (Nat → Int32)) (s_records : (Nat → Int32)) (s_keptSounds : (Nat → Int32)) (s_keptClapped : (Nat → Int32)) (s_keptRecords : (Nat → Int32)) (p1 : Int32) (p2 : Int32) (p3 : Int32) (r : (Int32 × Int32 × (Nat → Int32) × (Nat → Int32) × (Nat → Int32))) (h : fX6_isRecordedBy s_many s_armNow s_rows s_now s_nowLong s_ahead s_recordMany s_records p1 p2 p3 = some r) : Met l yX6_isRecordedBy wsX6_isRecordedBy rX6_isRecordedBy (kPre D cI ad [.ref q0, .int p1, .int p2, .int p3] (wM cI q0 q1 q2 q3 q4 q5 q6 q7 q8 q9 q10 q11 q12 s_pageMany s_readMany s_readLate s_state s_many s_late s_armNow s_barNow s_skips s_hallsRead s_nowArm s_turnedMany s_recordMany s_beganMany s_seedNow s_keptHall s_keptArm s_keptBar s_keptSkips s_keptRecordMany s_hash s_page s_read s_rows s_sounds s_clapped s_now s_nowLong s_ahead s_records s_keptSounds s_keptClapped s_keptRecords) sz) (kQi D cI r.1 (wM cI q0 q1 q2 q3 q4 q5 q6 q7 q8 q9 q10 q11 q12 s_pageMany s_readMany s_readLate s_state s_many s_late s_armNow s_barNow s_skips s_hallsRead r.2.1 s_turnedMany s_recordMany s_beganMany s_seedNow s_keptHall s_keptArm s_keptBar s_keptSkips s_keptRecordMany s_hash s_page s_read s_rows s_sounds s_clapped r.2.2.1 r.2.2.2.1 r.2.2.2.2 s_records s_keptSounds s_keptClapped s_keptRecords) (va_A (wM cI q0 q1 q2 q3 q4 q5 q6 q7 q8 q9 q10 q11 q12 s_pageMany s_readMany s_readLate s_state s_many s_late s_armNow s_barNow s_skips s_hallsRead s_nowArm s_turnedMany s_recordMany s_beganMany s_seedNow s_keptHall s_keptArm s_keptBar s_keptSkips s_keptRecordMany s_hash s_page s_read s_rows s_sounds s_clapped s_now s_nowLong s_ahead s_records s_keptSounds s_keptClapped s_keptRecords) sz)) 0 0 (va_A (wM cI q0 q1 q2 q3 q4 q5 q6 q7 q8 q9 q10 q11 q12 s_pageMany s_readMany s_readLate s_state s_many s_late s_armNow s_barNow s_skips s_hallsRead s_nowArm s_turnedMany s_recordMany s_beganMany s_seedNow s_keptHall s_keptArm s_keptBar s_keptSkips s_keptRecordMany s_hash s_page s_read s_rows s_sounds s_clapped s_now s_nowLong s_ahead s_records s_keptSounds s_keptClapped s_keptRecords) sz) := by
  refine kStart (cc := cX6_isRecordedBy) (maxL := 6) (ret := (some .boolean)) (Qc := fun A => kQi D cI r.1 (wM cI q0 q1 q2 q3 q4 q5 q6 q7 q8 q9 q10 q11 q12 s_pageMany s_readMany s_readLate s_state s_many s_late s_armNow s_barNow s_skips s_hallsRead r.2.1 s_turnedMany s_recordMany s_beganMany s_seedNow s_keptHall s_keptArm s_keptBar s_keptSkips s_keptRecordMany s_hash s_page s_read s_rows s_sounds s_clapped r.2.2.1 r.2.2.2.1 r.2.2.2.2 s_records s_keptSounds s_keptClapped s_keptRecords) A) (by decide) rfl (Nat.le_of_ble_eq_true rfl) ?_
  intro p e s m args below meth c A ls hx hb hr hts hown hlocks hin hml hN hST hA hS hP hK hD hl
  have hown : s.vm.findClass RX6 = some m.cls := hown
  have hl : lv_has ls 6 [(0, .ref q0), (1, .int p1), (2, .int p2), (3, .int p3)] := hl
  have hRet : ∀ (H : Heap) (locs : List Loc) (ls : Array Slot) (pc : Nat), narrow .boolean (.int r.1) = .int r.1 → va_P D vwCl (wM cI q0 q1 q2 q3 q4 q5 q6 q7 q8 q9 q10 q11 q12 s_pageMany s_readMany s_readLate s_state s_many s_late s_armNow s_barNow s_skips s_hallsRead r.2.1 s_turnedMany s_recordMany s_beganMany s_seedNow s_keptHall s_keptArm s_keptBar s_keptSkips s_keptRecordMany s_hash s_page s_read s_rows s_sounds s_clapped r.2.2.1 r.2.2.2.1 r.2.2.2.2 s_records s_keptSounds s_keptClapped s_keptRecords) H → va_D A (wM cI q0 q1 q2 q3 q4 q5 q6 q7 q8 q9 q10 q11 q12 s_pageMany s_readMany s_readLate s_state s_many s_late s_armNow s_barNow s_skips s_hallsRead r.2.1 s_turnedMany s_recordMany s_beganMany s_seedNow s_keptHall s_keptArm s_keptBar s_keptSkips s_keptRecordMany s_hash s_page s_read s_rows s_sounds s_clapped r.2.2.1 r.2.2.2.1 r.2.2.2.2 s_records s_keptSounds s_keptClapped s_keptRecords) → va_S A s.heap H locs → decode cX6_isRecordedBy pc = .ok (.ireturn, 1) → W p l e rX6_isRecordedBy s m args below meth c H locs 0 0 (MQ below (kQi D cI r.1 (wM cI q0 q1 q2 q3 q4 q5 q6 q7 q8 q9 q10 q11 q12 s_pageMany s_readMany s_readLate s_state s_many s_late s_armNow s_barNow s_skips s_hallsRead r.2.1 s_turnedMany s_recordMany s_beganMany s_seedNow s_keptHall s_keptArm s_keptBar s_keptSkips s_keptRecordMany s_hash s_page s_read s_rows s_sounds s_clapped r.2.2.1 r.2.2.2.1 r.2.2.2.2 s_records s_keptSounds s_keptClapped s_keptRecords) A) args s 0 0 A) (F0 m pc ls [.int r.1]) := fun H locs ls pc hz hP hD hS hd => k_zret hx hb hr hlocks hK hz hP hD hS hd
  generalize MQ below (kQi D cI r.1 (wM cI q0 q1 q2 q3 q4 q5 q6 q7 q8 q9 q10 q11 q12 s_pageMany s_readMany s_readLate s_state s_many s_late s_armNow s_barNow s_skips s_hallsRead r.2.1 s_turnedMany s_recordMany s_beganMany s_seedNow s_keptHall s_keptArm s_keptBar s_keptSkips s_keptRecordMany s_hash s_page s_read s_rows s_sounds s_clapped r.2.2.1 r.2.2.2.1 r.2.2.2.2 s_records s_keptSounds s_keptClapped s_keptRecords) A) args s 0 0 A = Q at hRet ⊢
  unfold fX6_isRecordedBy at h
  refine lv_iconst (v := 0) hx hb dX6_isRecordedBy_0 (by decide) ?_
  refine lv_istore (lv' := [(4, .int 0), (0, .ref q0), (1, .int p1), (2, .int p2), (3, .int p3)]) hx hb dX6_isRecordedBy_1 hl (by decide) rfl (fun ls hl => ?_)
  obtain ⟨u2, hu2, h⟩ := k_bs h
  refine kIter_ind (fun (z1 : (Int32 × (Nat → Int32) × (Nat → Int32))) (u2 : (Int32 × (Nat → Int32) × (Nat → Int32))) => ∀ (H : Heap) (locs : List Loc) (ls : Array Slot), va_P D vwCl (wM cI q0 q1 q2 q3 q4 q5 q6 q7 q8 q9 q10 q11 q12 s_pageMany s_readMany s_readLate s_state s_many s_late s_armNow s_barNow s_skips s_hallsRead s_nowArm s_turnedMany s_recordMany s_beganMany s_seedNow s_keptHall s_keptArm s_keptBar s_keptSkips s_keptRecordMany s_hash s_page s_read s_rows s_sounds s_clapped z1.2.1 z1.2.2 s_ahead s_records s_keptSounds s_keptClapped s_keptRecords) H → va_D A (wM cI q0 q1 q2 q3 q4 q5 q6 q7 q8 q9 q10 q11 q12 s_pageMany s_readMany s_readLate s_state s_many s_late s_armNow s_barNow s_skips s_hallsRead s_nowArm s_turnedMany s_recordMany s_beganMany s_seedNow s_keptHall s_keptArm s_keptBar s_keptSkips s_keptRecordMany s_hash s_page s_read s_rows s_sounds s_clapped z1.2.1 z1.2.2 s_ahead s_records s_keptSounds s_keptClapped s_keptRecords) → va_S A s.heap H locs → lv_has ls 6 [(0, .ref q0), (1, .int p1), (2, .int p2), (3, .int p3), (4, .int z1.1)] → (∀ (H : Heap) (locs : List Loc) (ls : Array Slot), va_P D vwCl (wM cI q0 q1 q2 q3 q4 q5 q6 q7 q8 q9 q10 q11 q12 s_pageMany s_readMany s_readLate s_state s_many s_late s_armNow s_barNow s_skips s_hallsRead s_nowArm s_turnedMany s_recordMany s_beganMany s_seedNow s_keptHall s_keptArm s_keptBar s_keptSkips s_keptRecordMany s_hash s_page s_read s_rows s_sounds s_clapped u2.2.1 u2.2.2 s_ahead s_records s_keptSounds s_keptClapped s_keptRecords) H → va_D A (wM cI q0 q1 q2 q3 q4 q5 q6 q7 q8 q9 q10 q11 q12 s_pageMany s_readMany s_readLate s_state s_many s_late s_armNow s_barNow s_skips s_hallsRead s_nowArm s_turnedMany s_recordMany s_beganMany s_seedNow s_keptHall s_keptArm s_keptBar s_keptSkips s_keptRecordMany s_hash s_page s_read s_rows s_sounds s_clapped u2.2.1 u2.2.2 s_ahead s_records s_keptSounds s_keptClapped s_keptRecords) → va_S A s.heap H locs → lv_has ls 6 [(0, .ref q0), (1, .int p1), (2, .int p2), (3, .int p3), (4, .int u2.1)] → W p l e rX6_isRecordedBy s m args below meth c H locs 0 0 Q (F0 m 32 ls [])) → W p l e rX6_isRecordedBy s m args below meth c H locs 0 0 Q (F0 m 3 ls [])) ?_ _ _ _ hu2 _ _ _ hP hD hS (lv_sub hl [1, 2, 3, 4, 0] rfl) ?_
  · intro rc1 ih1 z1 u2 h H locs ls hP hD hS hl kx1
    unfold fX6_isRecordedBy_L1 at h
    refine lv_iload hx hb dX6_isRecordedBy_3 (lv_at hl 4 rfl) ?_
    refine lv_bipush (v := 8) hx hb dX6_isRecordedBy_5 (by decide) ?_
    refine lv_icmp_ge (tgt := 32) hx hb dX6_isRecordedBy_7 (by decide) (fun c0 => ?_) (fun c0 => ?_)
    · have h := (if_pos c0).symm.trans h
      have h := Option.some.inj h
      subst h
      exact kx1 _ _ _ hP hD hS (lv_sub hl [0, 1, 2, 3, 4] rfl)
    · have h := (if_neg c0).symm.trans h
      refine lv_aload_n hx hb dX6_isRecordedBy_10 rfl (lv_at hl 0 rfl) ?_
      refine va_get (D := D) (ci := 6) (v := .ref q6) (C := RX6) (T := TX6) (N := 33) hx hb hts iX6_isRecordedBy_X6 hown hK hP 0 rfl rfl 15 (by decide) (hts (.fieldLink RX6 25 "ClappedWrongModel" "now" "[I") (by decide +kernel)) (fun _ h9 => h9) rfl dX6_isRecordedBy_11 ?_
      refine lv_iload hx hb dX6_isRecordedBy_14 (lv_at hl 4 rfl) ?_
      refine lv_iconst (v := 3) hx hb dX6_isRecordedBy_16 (by decide) ?_
      refine k_iast hx hb hK hP hD hS 6 rfl dX6_isRecordedBy_17 h (fun g3 => (wM cI q0 q1 q2 q3 q4 q5 q6 q7 q8 q9 q10 q11 q12 s_pageMany s_readMany s_readLate s_state s_many s_late s_armNow s_barNow s_skips s_hallsRead s_nowArm s_turnedMany s_recordMany s_beganMany s_seedNow s_keptHall s_keptArm s_keptBar s_keptSkips s_keptRecordMany s_hash s_page s_read s_rows s_sounds s_clapped g3 z1.2.2 s_ahead s_records s_keptSounds s_keptClapped s_keptRecords)) (fun _ => rfl) (fun g3 H locs h hP hD hS => ?_)
      refine lv_aload_n hx hb dX6_isRecordedBy_18 rfl (lv_at hl 0 rfl) ?_
      refine va_get (D := D) (ci := 6) (v := .ref q7) (C := RX6) (T := TX6) (N := 33) hx hb hts iX6_isRecordedBy_X6 hown hK hP 0 rfl rfl 16 (by decide) (hts (.fieldLink RX6 28 "ClappedWrongModel" "nowLong" "[I") (by decide +kernel)) (fun _ h9 => h9) rfl dX6_isRecordedBy_19 ?_
      refine lv_iload hx hb dX6_isRecordedBy_22 (lv_at hl 4 rfl) ?_
      refine lv_iconst (v := 0) hx hb dX6_isRecordedBy_24 (by decide) ?_
      refine k_iast hx hb hK hP hD hS 7 rfl dX6_isRecordedBy_25 h (fun g4 => (wM cI q0 q1 q2 q3 q4 q5 q6 q7 q8 q9 q10 q11 q12 s_pageMany s_readMany s_readLate s_state s_many s_late s_armNow s_barNow s_skips s_hallsRead s_nowArm s_turnedMany s_recordMany s_beganMany s_seedNow s_keptHall s_keptArm s_keptBar s_keptSkips s_keptRecordMany s_hash s_page s_read s_rows s_sounds s_clapped g3 g4 s_ahead s_records s_keptSounds s_keptClapped s_keptRecords)) (fun _ => rfl) (fun g4 H locs h hP hD hS => ?_)
      refine lv_iinc (v := (z1.1 + 1)) (lv' := [(4, .int (z1.1 + 1)), (0, .ref q0), (1, .int p1), (2, .int p2), (3, .int p3)]) hx hb dX6_isRecordedBy_26 hl (k := 4) rfl rfl (by decide) rfl (fun ls hl => ?_)
      refine lv_goto (tgt := 3) hx hb dX6_isRecordedBy_29 (by decide) ?_
      exact ih1 _ _ h _ _ _ hP hD hS (lv_sub hl [1, 2, 3, 4, 0] rfl) kx1
  · intro H locs ls hP hD hS hl
    refine lv_aload_n hx hb dX6_isRecordedBy_32 rfl (lv_at hl 0 rfl) ?_
    refine lv_aload_n hx hb dX6_isRecordedBy_33 rfl (lv_at hl 0 rfl) ?_
    refine va_get (D := D) (ci := 6) (v := .int s_armNow) (C := RX6) (T := TX6) (N := 33) hx hb hts iX6_isRecordedBy_X6 hown hK hP 0 rfl rfl 8 (by decide) (hts (.fieldLink RX6 90 "ClappedWrongModel" "armNow" "I") (by decide +kernel)) (fun _ h9 => h9) rfl dX6_isRecordedBy_34 ?_
    refine va_put (D := D) (ci := 6) (v := .int s_armNow) (ty := .int) (C := RX6) (T := TX6) (N := 33) hx hb hts iX6_isRecordedBy_X6 tyX6 tyX6_ok nmX6 hown hK hP hD hS 0 rfl rfl 18 (by decide) (hts (.fieldLink RX6 124 "ClappedWrongModel" "nowArm" "I") (by decide +kernel)) (fun _ h9 => h9) rfl (by decide +kernel) rfl rfl (Nat.le_of_ble_eq_true rfl) dX6_isRecordedBy_37 (fun H locs hP hD hS => ?_)
    have hP : va_P D vwCl (wM cI q0 q1 q2 q3 q4 q5 q6 q7 q8 q9 q10 q11 q12 s_pageMany s_readMany s_readLate s_state s_many s_late s_armNow s_barNow s_skips s_hallsRead s_armNow s_turnedMany s_recordMany s_beganMany s_seedNow s_keptHall s_keptArm s_keptBar s_keptSkips s_keptRecordMany s_hash s_page s_read s_rows s_sounds s_clapped u2.2.1 u2.2.2 s_ahead s_records s_keptSounds s_keptClapped s_keptRecords) H := hP
    have hD : va_D A (wM cI q0 q1 q2 q3 q4 q5 q6 q7 q8 q9 q10 q11 q12 s_pageMany s_readMany s_readLate s_state s_many s_late s_armNow s_barNow s_skips s_hallsRead s_armNow s_turnedMany s_recordMany s_beganMany s_seedNow s_keptHall s_keptArm s_keptBar s_keptSkips s_keptRecordMany s_hash s_page s_read s_rows s_sounds s_clapped u2.2.1 u2.2.2 s_ahead s_records s_keptSounds s_keptClapped s_keptRecords) := hD
    refine lv_aload_n hx hb dX6_isRecordedBy_40 rfl (lv_at hl 0 rfl) ?_
    refine va_get (D := D) (ci := 6) (v := .ref q6) (C := RX6) (T := TX6) (N := 33) hx hb hts iX6_isRecordedBy_X6 hown hK hP 0 rfl rfl 15 (by decide) (hts (.fieldLink RX6 25 "ClappedWrongModel" "now" "[I") (by decide +kernel)) (fun _ h9 => h9) rfl dX6_isRecordedBy_41 ?_
    refine lv_iload_n hx hb dX6_isRecordedBy_44 rfl (lv_at hl 1 rfl) ?_
    refine lv_iload_n hx hb dX6_isRecordedBy_45 rfl (lv_at hl 3 rfl) ?_
    refine lv_iconst (v := 2) hx hb dX6_isRecordedBy_46 (by decide) ?_
    refine lv_idiv hx hb dX6_isRecordedBy_47 (by decide) ?_
    refine lv_iconst (v := 1) hx hb dX6_isRecordedBy_48 (by decide) ?_
    refine lv_iadd hx hb dX6_isRecordedBy_49 ?_
    refine k_iast hx hb hK hP hD hS 6 rfl dX6_isRecordedBy_50 h (fun g5 => (wM cI q0 q1 q2 q3 q4 q5 q6 q7 q8 q9 q10 q11 q12 s_pageMany s_readMany s_readLate s_state s_many s_late s_armNow s_barNow s_skips s_hallsRead s_armNow s_turnedMany s_recordMany s_beganMany s_seedNow s_keptHall s_keptArm s_keptBar s_keptSkips s_keptRecordMany s_hash s_page s_read s_rows s_sounds s_clapped g5 u2.2.2 s_ahead s_records s_keptSounds s_keptClapped s_keptRecords)) (fun _ => rfl) (fun g5 H locs h hP hD hS => ?_)
    refine lv_aload_n hx hb dX6_isRecordedBy_51 rfl (lv_at hl 0 rfl) ?_
    refine va_get (D := D) (ci := 6) (v := .ref q6) (C := RX6) (T := TX6) (N := 33) hx hb hts iX6_isRecordedBy_X6 hown hK hP 0 rfl rfl 15 (by decide) (hts (.fieldLink RX6 25 "ClappedWrongModel" "now" "[I") (by decide +kernel)) (fun _ h9 => h9) rfl dX6_isRecordedBy_52 ?_
    refine lv_iload_n hx hb dX6_isRecordedBy_55 rfl (lv_at hl 2 rfl) ?_
    refine lv_iload_n hx hb dX6_isRecordedBy_56 rfl (lv_at hl 3 rfl) ?_
    refine lv_iconst (v := 2) hx hb dX6_isRecordedBy_57 (by decide) ?_
    refine lv_irem hx hb dX6_isRecordedBy_58 (by decide) ?_
    refine lv_iconst (v := 1) hx hb dX6_isRecordedBy_59 (by decide) ?_
    refine lv_iadd hx hb dX6_isRecordedBy_60 ?_
    refine k_iast hx hb hK hP hD hS 6 rfl dX6_isRecordedBy_61 h (fun g6 => (wM cI q0 q1 q2 q3 q4 q5 q6 q7 q8 q9 q10 q11 q12 s_pageMany s_readMany s_readLate s_state s_many s_late s_armNow s_barNow s_skips s_hallsRead s_armNow s_turnedMany s_recordMany s_beganMany s_seedNow s_keptHall s_keptArm s_keptBar s_keptSkips s_keptRecordMany s_hash s_page s_read s_rows s_sounds s_clapped g6 u2.2.2 s_ahead s_records s_keptSounds s_keptClapped s_keptRecords)) (fun _ => rfl) (fun g6 H locs h hP hD hS => ?_)
    refine lv_iconst (v := 1) hx hb dX6_isRecordedBy_62 (by decide) ?_
    refine lv_istore (lv' := [(4, .int 1), (0, .ref q0), (1, .int p1), (2, .int p2), (3, .int p3)]) hx hb dX6_isRecordedBy_63 hl (by decide) rfl (fun ls hl => ?_)
    refine lv_iconst (v := 0) hx hb dX6_isRecordedBy_65 (by decide) ?_
    refine lv_istore (lv' := [(5, .int 0), (4, .int 1), (0, .ref q0), (1, .int p1), (2, .int p2), (3, .int p3)]) hx hb dX6_isRecordedBy_66 hl (by decide) rfl (fun ls hl => ?_)
    obtain ⟨u8, hu8, h⟩ := k_bs h
    refine kIter_ind (fun (z7 : (Int32 × Int32 × (Nat → Int32) × (Nat → Int32) × (Nat → Int32))) (u8 : (Int32 × Int32 × (Nat → Int32) × (Nat → Int32) × (Nat → Int32))) => ∀ (H : Heap) (locs : List Loc) (ls : Array Slot), va_P D vwCl (wM cI q0 q1 q2 q3 q4 q5 q6 q7 q8 q9 q10 q11 q12 s_pageMany s_readMany s_readLate s_state s_many s_late s_armNow s_barNow s_skips s_hallsRead s_armNow s_turnedMany s_recordMany s_beganMany s_seedNow s_keptHall s_keptArm s_keptBar s_keptSkips s_keptRecordMany s_hash s_page s_read s_rows s_sounds s_clapped z7.2.2.1 z7.2.2.2.1 z7.2.2.2.2 s_records s_keptSounds s_keptClapped s_keptRecords) H → va_D A (wM cI q0 q1 q2 q3 q4 q5 q6 q7 q8 q9 q10 q11 q12 s_pageMany s_readMany s_readLate s_state s_many s_late s_armNow s_barNow s_skips s_hallsRead s_armNow s_turnedMany s_recordMany s_beganMany s_seedNow s_keptHall s_keptArm s_keptBar s_keptSkips s_keptRecordMany s_hash s_page s_read s_rows s_sounds s_clapped z7.2.2.1 z7.2.2.2.1 z7.2.2.2.2 s_records s_keptSounds s_keptClapped s_keptRecords) → va_S A s.heap H locs → lv_has ls 6 [(0, .ref q0), (1, .int p1), (2, .int p2), (3, .int p3), (4, .int z7.1), (5, .int z7.2.1)] → (∀ (H : Heap) (locs : List Loc) (ls : Array Slot), va_P D vwCl (wM cI q0 q1 q2 q3 q4 q5 q6 q7 q8 q9 q10 q11 q12 s_pageMany s_readMany s_readLate s_state s_many s_late s_armNow s_barNow s_skips s_hallsRead s_armNow s_turnedMany s_recordMany s_beganMany s_seedNow s_keptHall s_keptArm s_keptBar s_keptSkips s_keptRecordMany s_hash s_page s_read s_rows s_sounds s_clapped u8.2.2.1 u8.2.2.2.1 u8.2.2.2.2 s_records s_keptSounds s_keptClapped s_keptRecords) H → va_D A (wM cI q0 q1 q2 q3 q4 q5 q6 q7 q8 q9 q10 q11 q12 s_pageMany s_readMany s_readLate s_state s_many s_late s_armNow s_barNow s_skips s_hallsRead s_armNow s_turnedMany s_recordMany s_beganMany s_seedNow s_keptHall s_keptArm s_keptBar s_keptSkips s_keptRecordMany s_hash s_page s_read s_rows s_sounds s_clapped u8.2.2.1 u8.2.2.2.1 u8.2.2.2.2 s_records s_keptSounds s_keptClapped s_keptRecords) → va_S A s.heap H locs → lv_has ls 6 [(0, .ref q0), (1, .int p1), (2, .int p2), (3, .int p3), (4, .int u8.1), (5, .int u8.2.1)] → W p l e rX6_isRecordedBy s m args below meth c H locs 0 0 Q (F0 m 113 ls [])) → W p l e rX6_isRecordedBy s m args below meth c H locs 0 0 Q (F0 m 68 ls [])) ?_ _ _ _ hu8 _ _ _ hP hD hS (lv_sub hl [2, 3, 4, 5, 1, 0] rfl) ?_
    · intro rc7 ih7 z7 u8 h H locs ls hP hD hS hl kx7
      unfold fX6_isRecordedBy_L2 at h
      refine lv_iload hx hb dX6_isRecordedBy_68 (lv_at hl 5 rfl) ?_
      refine lv_aload_n hx hb dX6_isRecordedBy_70 rfl (lv_at hl 0 rfl) ?_
      refine va_get (D := D) (ci := 6) (v := .int s_recordMany) (C := RX6) (T := TX6) (N := 33) hx hb hts iX6_isRecordedBy_X6 hown hK hP 0 rfl rfl 20 (by decide) (hts (.fieldLink RX6 99 "ClappedWrongModel" "recordMany" "I") (by decide +kernel)) (fun _ h9 => h9) rfl dX6_isRecordedBy_71 ?_
      refine lv_icmp_ge (tgt := 113) hx hb dX6_isRecordedBy_74 (by decide) (fun c0 => ?_) (fun c0 => ?_)
      · have h := (if_pos c0).symm.trans h
        have h := Option.some.inj h
        subst h
        exact kx7 _ _ _ hP hD hS (lv_sub hl [0, 1, 2, 3, 4, 5] rfl)
      · have h := (if_neg c0).symm.trans h
        refine lv_iload hx hb dX6_isRecordedBy_77 (lv_at hl 4 rfl) ?_
        refine lv_if_eq (tgt := 113) hx hb dX6_isRecordedBy_79 (by decide) (fun c0 => ?_) (fun c0 => ?_)
        · have h := (if_pos c0).symm.trans h
          have h := Option.some.inj h
          subst h
          exact kx7 _ _ _ hP hD hS (lv_sub hl [0, 1, 2, 3, 4, 5] rfl)
        · have h := (if_neg c0).symm.trans h
          refine lv_aload_n hx hb dX6_isRecordedBy_82 rfl (lv_at hl 0 rfl) ?_
          obtain ⟨u9, hu9, h⟩ := k_bs h
          refine k_cvA (k2 := 0) (n2 := 0) (ws := (wM cI q0 q1 q2 q3 q4 q5 q6 q7 q8 q9 q10 q11 q12 s_pageMany s_readMany s_readLate s_state s_many s_late s_armNow s_barNow s_skips s_hallsRead s_armNow s_turnedMany s_recordMany s_beganMany s_seedNow s_keptHall s_keptArm s_keptBar s_keptSkips s_keptRecordMany s_hash s_page s_read s_rows s_sounds s_clapped z7.2.2.1 z7.2.2.2.1 z7.2.2.2.2 s_records s_keptSounds s_keptClapped s_keptRecords)) (wc' := (wM cI q0 q1 q2 q3 q4 q5 q6 q7 q8 q9 q10 q11 q12 s_pageMany s_readMany s_readLate s_state s_many s_late s_armNow s_barNow s_skips s_hallsRead s_armNow s_turnedMany s_recordMany s_beganMany s_seedNow s_keptHall s_keptArm s_keptBar s_keptSkips s_keptRecordMany s_hash s_page s_read s_rows s_sounds s_clapped u9.1 u9.2.1 u9.2.2 s_records s_keptSounds s_keptClapped s_keptRecords)) (va_runV (C := RX6) (As := []) (rest := []) ⟨hx, hb, hml, hown, hts⟩ (mX6_pass l D cI ad q0 q1 q2 q3 q4 q5 q6 q7 q8 q9 q10 q11 q12 _ s_pageMany s_readMany s_readLate s_state s_many s_late s_armNow s_barNow s_skips s_hallsRead s_armNow s_turnedMany s_recordMany s_beganMany s_seedNow s_keptHall s_keptArm s_keptBar s_keptSkips s_keptRecordMany s_hash s_page s_read s_rows s_sounds s_clapped z7.2.2.1 z7.2.2.2.1 z7.2.2.2.2 s_records s_keptSounds s_keptClapped s_keptRecords u9 hu9) (cwV 0 hts gX6_isRecordedBy_X6_pass rfl rfl rfl (by decide +kernel) ⟨Nat.le_of_ble_eq_true rfl, Nat.le_of_ble_eq_true rfl⟩) (k_preA (q := (RX6, TX6, 33)) hN hST hA hK hP hD hS 0 (ci := 6) rfl rfl) rfl rfl hl.1 rfl (lv_room (Nat.le_of_ble_eq_true rfl)) dX6_isRecordedBy_83 ⟨Nat.le_of_ble_eq_true rfl, Nat.le_of_ble_eq_true rfl⟩) hP hD hS hA rfl rfl (fun H locs hP hD hS => ?_)
          refine lv_aload_n hx hb dX6_isRecordedBy_86 rfl (lv_at hl 0 rfl) ?_
          obtain ⟨u10, hu10, h⟩ := k_bs h
          refine k_ciA (r := u10) (k2 := 0) (n2 := 0) (ws := (wM cI q0 q1 q2 q3 q4 q5 q6 q7 q8 q9 q10 q11 q12 s_pageMany s_readMany s_readLate s_state s_many s_late s_armNow s_barNow s_skips s_hallsRead s_armNow s_turnedMany s_recordMany s_beganMany s_seedNow s_keptHall s_keptArm s_keptBar s_keptSkips s_keptRecordMany s_hash s_page s_read s_rows s_sounds s_clapped u9.1 u9.2.1 u9.2.2 s_records s_keptSounds s_keptClapped s_keptRecords)) (wc' := (wM cI q0 q1 q2 q3 q4 q5 q6 q7 q8 q9 q10 q11 q12 s_pageMany s_readMany s_readLate s_state s_many s_late s_armNow s_barNow s_skips s_hallsRead s_armNow s_turnedMany s_recordMany s_beganMany s_seedNow s_keptHall s_keptArm s_keptBar s_keptSkips s_keptRecordMany s_hash s_page s_read s_rows s_sounds s_clapped u9.1 u9.2.1 u9.2.2 s_records s_keptSounds s_keptClapped s_keptRecords)) (va_runV (C := RX6) (As := []) (rest := []) ⟨hx, hb, hml, hown, hts⟩ (mX6_rightNow l D cI ad q0 q1 q2 q3 q4 q5 q6 q7 q8 q9 q10 q11 q12 _ s_pageMany s_readMany s_readLate s_state s_many s_late s_armNow s_barNow s_skips s_hallsRead s_armNow s_turnedMany s_recordMany s_beganMany s_seedNow s_keptHall s_keptArm s_keptBar s_keptSkips s_keptRecordMany s_hash s_page s_read s_rows s_sounds s_clapped u9.1 u9.2.1 u9.2.2 s_records s_keptSounds s_keptClapped s_keptRecords u10 hu10) (cwV 0 hts gX6_isRecordedBy_X6_rightNow rfl rfl rfl (by decide +kernel) ⟨Nat.le_of_ble_eq_true rfl, Nat.le_of_ble_eq_true rfl⟩) (k_preA (q := (RX6, TX6, 33)) hN hST hA hK hP hD hS 0 (ci := 6) rfl rfl) rfl rfl hl.1 rfl (lv_room (Nat.le_of_ble_eq_true rfl)) dX6_isRecordedBy_87 ⟨Nat.le_of_ble_eq_true rfl, Nat.le_of_ble_eq_true rfl⟩) hP hD hS hA rfl rfl (fun H locs hP hD hS => ?_)
          refine lv_aload_n hx hb dX6_isRecordedBy_90 rfl (lv_at hl 0 rfl) ?_
          refine va_get (D := D) (ci := 6) (v := .ref q9) (C := RX6) (T := TX6) (N := 33) hx hb hts iX6_isRecordedBy_X6 hown hK hP 0 rfl rfl 21 (by decide) (hts (.fieldLink RX6 34 "ClappedWrongModel" "records" "[I") (by decide +kernel)) (fun _ h9 => h9) rfl dX6_isRecordedBy_91 ?_
          refine lv_iload hx hb dX6_isRecordedBy_94 (lv_at hl 5 rfl) ?_
          refine k_iald hx hb hK hP 9 rfl dX6_isRecordedBy_96 h (fun v11 h => ?_)
          refine lv_icmp_ne (tgt := 104) hx hb dX6_isRecordedBy_97 (by decide) (fun c0 => ?_) (fun c0 => ?_)
          · have h := (if_neg c0).symm.trans h
            refine lv_iconst (v := 0) hx hb dX6_isRecordedBy_104 (by decide) ?_
            refine lv_istore (lv' := [(4, .int 0), (0, .ref q0), (1, .int p1), (2, .int p2), (3, .int p3), (5, .int z7.2.1)]) hx hb dX6_isRecordedBy_105 hl (by decide) rfl (fun ls hl => ?_)
            refine lv_iinc (v := (z7.2.1 + 1)) (lv' := [(5, .int (z7.2.1 + 1)), (4, .int 0), (0, .ref q0), (1, .int p1), (2, .int p2), (3, .int p3)]) hx hb dX6_isRecordedBy_107 hl (k := 5) rfl rfl (by decide) rfl (fun ls hl => ?_)
            refine lv_goto (tgt := 68) hx hb dX6_isRecordedBy_110 (by decide) ?_
            exact ih7 _ _ h _ _ _ hP hD hS (lv_sub hl [2, 3, 4, 5, 1, 0] rfl) kx7
          · have h := (if_pos c0).symm.trans h
            refine lv_iconst (v := 1) hx hb dX6_isRecordedBy_100 (by decide) ?_
            refine lv_goto (tgt := 105) hx hb dX6_isRecordedBy_101 (by decide) ?_
            refine lv_istore (lv' := [(4, .int 1), (0, .ref q0), (1, .int p1), (2, .int p2), (3, .int p3), (5, .int z7.2.1)]) hx hb dX6_isRecordedBy_105 hl (by decide) rfl (fun ls hl => ?_)
            refine lv_iinc (v := (z7.2.1 + 1)) (lv' := [(5, .int (z7.2.1 + 1)), (4, .int 1), (0, .ref q0), (1, .int p1), (2, .int p2), (3, .int p3)]) hx hb dX6_isRecordedBy_107 hl (k := 5) rfl rfl (by decide) rfl (fun ls hl => ?_)
            refine lv_goto (tgt := 68) hx hb dX6_isRecordedBy_110 (by decide) ?_
            exact ih7 _ _ h _ _ _ hP hD hS (lv_sub hl [2, 3, 4, 5, 1, 0] rfl) kx7
    · intro H locs ls hP hD hS hl
      refine lv_iload hx hb dX6_isRecordedBy_113 (lv_at hl 4 rfl) ?_
      obtain ⟨hz, h⟩ := kz_bind h
      have h := Option.some.inj h
      subst h
      exact hRet _ _ _ _ hz hP hD hS dX6_isRecordedBy_115
theorem iX6_began_X6 : ∀ w ∈ wsX60, w ∈ wsX6_began := by decide +kernel
theorem kabsX6_began {P : Prop} (e : Int32) (k : ∀ y : Int32, y = e → P) : P := k e rfl
theorem kincX6_began1 (x : Int32) : x + Int32.ofInt (-1) = x + (-1) := by rw [show Int32.ofInt (-1) = (-1 : Int32) from by decide]
def rX6_began : Room := { frames := 6, cells := 0, slots := 0, locals := 139 }
set_option maxHeartbeats 4000000 in
set_option maxRecDepth 100000 in
theorem mX6_began (l : Launch) (D : va_G) (cI : ClassId) (ad : Nat × Nat) (q0 q1 q2 q3 q4 q5 q6 q7 q8 q9 q10 q11 q12 : Nat) (sz : Nat) (s_pageMany : Int32) (s_readMany : Int32) (s_readLate : Int32) (s_state : Int32) (s_many : Int32) (s_late : Int32) (s_armNow : Int32) (s_barNow : Int32) (s_skips : Int32) (s_hallsRead : Int32) (s_nowArm : Int32) (s_turnedMany : Int32) (s_recordMany : Int32) (s_beganMany : Int32) (s_seedNow : Int32) (s_keptHall : Int32) (s_keptArm : Int32) (s_keptBar : Int32) (s_keptSkips : Int32) (s_keptRecordMany : Int32) (s_hash : Int64) (s_page : (Nat → Int32)) (s_read : (Nat → Int32)) (s_rows : (Nat → Int32)) (s_sounds : (Nat → Int32)) (s_clapped : (Nat → Int32)) (s_now : (Nat → Int32)) (s_nowLong : (Nat → Int32)) (s_ahead : (Nat → Int32)) (s_records : (Nat → Int32)) (s_keptSounds : (Nat → Int32)) (s_keptClapped : (Nat → Int32)) (s_keptRecords : (Nat → Int32)) (p1 : Int32) (r : (Int32 × Int32 × Int32 × (Nat → Int32) × (Nat → Int32) × (Nat → Int32))) (h : fX6_began s_many s_armNow s_rows s_now s_nowLong s_ahead s_nowArm s_recordMany s_records s_beganMany p1 = some r) : Met l yX6_began wsX6_began rX6_began (kPre D cI ad [.ref q0, .int p1] (wM cI q0 q1 q2 q3 q4 q5 q6 q7 q8 q9 q10 q11 q12 s_pageMany s_readMany s_readLate s_state s_many s_late s_armNow s_barNow s_skips s_hallsRead s_nowArm s_turnedMany s_recordMany s_beganMany s_seedNow s_keptHall s_keptArm s_keptBar s_keptSkips s_keptRecordMany s_hash s_page s_read s_rows s_sounds s_clapped s_now s_nowLong s_ahead s_records s_keptSounds s_keptClapped s_keptRecords) sz) (kQi D cI r.1 (wM cI q0 q1 q2 q3 q4 q5 q6 q7 q8 q9 q10 q11 q12 s_pageMany s_readMany s_readLate s_state s_many s_late s_armNow s_barNow s_skips s_hallsRead r.2.1 s_turnedMany s_recordMany r.2.2.1 s_seedNow s_keptHall s_keptArm s_keptBar s_keptSkips s_keptRecordMany s_hash s_page s_read s_rows s_sounds s_clapped r.2.2.2.1 r.2.2.2.2.1 r.2.2.2.2.2 s_records s_keptSounds s_keptClapped s_keptRecords) (va_A (wM cI q0 q1 q2 q3 q4 q5 q6 q7 q8 q9 q10 q11 q12 s_pageMany s_readMany s_readLate s_state s_many s_late s_armNow s_barNow s_skips s_hallsRead s_nowArm s_turnedMany s_recordMany s_beganMany s_seedNow s_keptHall s_keptArm s_keptBar s_keptSkips s_keptRecordMany s_hash s_page s_read s_rows s_sounds s_clapped s_now s_nowLong s_ahead s_records s_keptSounds s_keptClapped s_keptRecords) sz)) 0 0 (va_A (wM cI q0 q1 q2 q3 q4 q5 q6 q7 q8 q9 q10 q11 q12 s_pageMany s_readMany s_readLate s_state s_many s_late s_armNow s_barNow s_skips s_hallsRead s_nowArm s_turnedMany s_recordMany s_beganMany s_seedNow s_keptHall s_keptArm s_keptBar s_keptSkips s_keptRecordMany s_hash s_page s_read s_rows s_sounds s_clapped s_now s_nowLong s_ahead s_records s_keptSounds s_keptClapped s_keptRecords) sz) := by
  refine kStart (cc := cX6_began) (maxL := 8) (ret := (some .int)) (Qc := fun A => kQi D cI r.1 (wM cI q0 q1 q2 q3 q4 q5 q6 q7 q8 q9 q10 q11 q12 s_pageMany s_readMany s_readLate s_state s_many s_late s_armNow s_barNow s_skips s_hallsRead r.2.1 s_turnedMany s_recordMany r.2.2.1 s_seedNow s_keptHall s_keptArm s_keptBar s_keptSkips s_keptRecordMany s_hash s_page s_read s_rows s_sounds s_clapped r.2.2.2.1 r.2.2.2.2.1 r.2.2.2.2.2 s_records s_keptSounds s_keptClapped s_keptRecords) A) (by decide) rfl (Nat.le_of_ble_eq_true rfl) ?_
  intro p e s m args below meth c A ls hx hb hr hts hown hlocks hin hml hN hST hA hS hP hK hD hl
  have hown : s.vm.findClass RX6 = some m.cls := hown
  have hl : lv_has ls 8 [(0, .ref q0), (1, .int p1)] := hl
  have hRet : ∀ (H : Heap) (locs : List Loc) (ls : Array Slot) (pc : Nat), va_P D vwCl (wM cI q0 q1 q2 q3 q4 q5 q6 q7 q8 q9 q10 q11 q12 s_pageMany s_readMany s_readLate s_state s_many s_late s_armNow s_barNow s_skips s_hallsRead r.2.1 s_turnedMany s_recordMany r.2.2.1 s_seedNow s_keptHall s_keptArm s_keptBar s_keptSkips s_keptRecordMany s_hash s_page s_read s_rows s_sounds s_clapped r.2.2.2.1 r.2.2.2.2.1 r.2.2.2.2.2 s_records s_keptSounds s_keptClapped s_keptRecords) H → va_D A (wM cI q0 q1 q2 q3 q4 q5 q6 q7 q8 q9 q10 q11 q12 s_pageMany s_readMany s_readLate s_state s_many s_late s_armNow s_barNow s_skips s_hallsRead r.2.1 s_turnedMany s_recordMany r.2.2.1 s_seedNow s_keptHall s_keptArm s_keptBar s_keptSkips s_keptRecordMany s_hash s_page s_read s_rows s_sounds s_clapped r.2.2.2.1 r.2.2.2.2.1 r.2.2.2.2.2 s_records s_keptSounds s_keptClapped s_keptRecords) → va_S A s.heap H locs → decode cX6_began pc = .ok (.ireturn, 1) → W p l e rX6_began s m args below meth c H locs 0 0 (MQ below (kQi D cI r.1 (wM cI q0 q1 q2 q3 q4 q5 q6 q7 q8 q9 q10 q11 q12 s_pageMany s_readMany s_readLate s_state s_many s_late s_armNow s_barNow s_skips s_hallsRead r.2.1 s_turnedMany s_recordMany r.2.2.1 s_seedNow s_keptHall s_keptArm s_keptBar s_keptSkips s_keptRecordMany s_hash s_page s_read s_rows s_sounds s_clapped r.2.2.2.1 r.2.2.2.2.1 r.2.2.2.2.2 s_records s_keptSounds s_keptClapped s_keptRecords) A) args s 0 0 A) (F0 m pc ls [.int r.1]) := fun H locs ls pc hP hD hS hd => k_iret hx hb hr hlocks hK hP hD hS hd
  generalize MQ below (kQi D cI r.1 (wM cI q0 q1 q2 q3 q4 q5 q6 q7 q8 q9 q10 q11 q12 s_pageMany s_readMany s_readLate s_state s_many s_late s_armNow s_barNow s_skips s_hallsRead r.2.1 s_turnedMany s_recordMany r.2.2.1 s_seedNow s_keptHall s_keptArm s_keptBar s_keptSkips s_keptRecordMany s_hash s_page s_read s_rows s_sounds s_clapped r.2.2.2.1 r.2.2.2.2.1 r.2.2.2.2.2 s_records s_keptSounds s_keptClapped s_keptRecords) A) args s 0 0 A = Q at hRet ⊢
  unfold fX6_began at h
  refine lv_iload_n hx hb dX6_began_0 rfl (lv_at hl 1 rfl) ?_
  refine lv_i2l hx hb dX6_began_1 rfl ?_
  refine lv_lconst (v := 0) hx hb dX6_began_2 (by decide) ?_
  refine lv_lconst (v := 1) hx hb dX6_began_3 (by decide) ?_
  obtain ⟨u1, hu1, h⟩ := k_bs h
  refine k_ci (r := u1) (k2 := 0) (n2 := 0) (wc := []) (wc' := []) (w2 := (wM cI q0 q1 q2 q3 q4 q5 q6 q7 q8 q9 q10 q11 q12 s_pageMany s_readMany s_readLate s_state s_many s_late s_armNow s_barNow s_skips s_hallsRead s_nowArm s_turnedMany s_recordMany s_beganMany s_seedNow s_keptHall s_keptArm s_keptBar s_keptSkips s_keptRecordMany s_hash s_page s_read s_rows s_sounds s_clapped s_now s_nowLong s_ahead s_records s_keptSounds s_keptClapped s_keptRecords)) (va_runS (As := [.long (Int32.toInt64 p1), .long (0 : Int64), .long (1 : Int64)]) (rest := []) ⟨hx, hb, hml, hown, hts⟩ (mX6_in l D cI ad _ (Int32.toInt64 p1) (0 : Int64) (1 : Int64) u1 hu1) (va_cwS 3 hts gX6_began_X6_in rfl rfl rfl (by decide +kernel) ⟨Nat.le_of_ble_eq_true rfl, Nat.le_of_ble_eq_true rfl⟩) (k_pres hN hST hA hK hP hD hS (isC := []) rfl rfl) rfl rfl hl.1 rfl (lv_room (Nat.le_of_ble_eq_true rfl)) dX6_began_4 ⟨Nat.le_of_ble_eq_true rfl, Nat.le_of_ble_eq_true rfl⟩) hP hD hS hA [] rfl rfl rfl rfl rfl (fun H locs hP hD hS => ?_)
  refine lv_if_ne (tgt := 13) hx hb dX6_began_7 (by decide) (fun c0 => ?_) (fun c0 => ?_)
  · have h := (if_neg c0).symm.trans h
    refine lv_aload_n hx hb dX6_began_13 rfl (lv_at hl 0 rfl) ?_
    obtain ⟨u2, hu2, h⟩ := k_bs h
    refine k_ciA (r := u2) (k2 := 0) (n2 := 0) (ws := (wM cI q0 q1 q2 q3 q4 q5 q6 q7 q8 q9 q10 q11 q12 s_pageMany s_readMany s_readLate s_state s_many s_late s_armNow s_barNow s_skips s_hallsRead s_nowArm s_turnedMany s_recordMany s_beganMany s_seedNow s_keptHall s_keptArm s_keptBar s_keptSkips s_keptRecordMany s_hash s_page s_read s_rows s_sounds s_clapped s_now s_nowLong s_ahead s_records s_keptSounds s_keptClapped s_keptRecords)) (wc' := (wM cI q0 q1 q2 q3 q4 q5 q6 q7 q8 q9 q10 q11 q12 s_pageMany s_readMany s_readLate s_state s_many s_late s_armNow s_barNow s_skips s_hallsRead s_nowArm s_turnedMany s_recordMany s_beganMany s_seedNow s_keptHall s_keptArm s_keptBar s_keptSkips s_keptRecordMany s_hash s_page s_read s_rows s_sounds s_clapped s_now s_nowLong s_ahead s_records s_keptSounds s_keptClapped s_keptRecords)) (va_runV (C := RX6) (As := []) (rest := []) ⟨hx, hb, hml, hown, hts⟩ (mX6_lacks l D cI ad q0 q1 q2 q3 q4 q5 q6 q7 q8 q9 q10 q11 q12 _ s_pageMany s_readMany s_readLate s_state s_many s_late s_armNow s_barNow s_skips s_hallsRead s_nowArm s_turnedMany s_recordMany s_beganMany s_seedNow s_keptHall s_keptArm s_keptBar s_keptSkips s_keptRecordMany s_hash s_page s_read s_rows s_sounds s_clapped s_now s_nowLong s_ahead s_records s_keptSounds s_keptClapped s_keptRecords u2 hu2) (cwV 0 hts gX6_began_X6_lacks rfl rfl rfl (by decide +kernel) ⟨Nat.le_of_ble_eq_true rfl, Nat.le_of_ble_eq_true rfl⟩) (k_preA (q := (RX6, TX6, 33)) hN hST hA hK hP hD hS 0 (ci := 6) rfl rfl) rfl rfl hl.1 rfl (lv_room (Nat.le_of_ble_eq_true rfl)) dX6_began_14 ⟨Nat.le_of_ble_eq_true rfl, Nat.le_of_ble_eq_true rfl⟩) hP hD hS hA rfl rfl (fun H locs hP hD hS => ?_)
    refine lv_if_ne (tgt := 29) hx hb dX6_began_17 (by decide) (fun c0 => ?_) (fun c0 => ?_)
    · have h := (if_neg c0).symm.trans h
      refine lv_bipush (v := (-103)) hx hb dX6_began_29 (by decide) ?_
      have h := Option.some.inj h
      subst h
      exact hRet _ _ _ _ hP hD hS dX6_began_31
    · have h := (if_pos c0).symm.trans h
      refine lv_aload_n hx hb dX6_began_20 rfl (lv_at hl 0 rfl) ?_
      refine va_get (D := D) (ci := 6) (v := .int s_beganMany) (C := RX6) (T := TX6) (N := 33) hx hb hts iX6_began_X6 hown hK hP 0 rfl rfl 22 (by decide) (hts (.fieldLink RX6 193 "ClappedWrongModel" "beganMany" "I") (by decide +kernel)) (fun _ h9 => h9) rfl dX6_began_21 ?_
      refine lv_bipush (v := 30) hx hb dX6_began_24 (by decide) ?_
      refine lv_icmp_ne (tgt := 32) hx hb dX6_began_26 (by decide) (fun c0 => ?_) (fun c0 => ?_)
      · have h := (if_neg c0).symm.trans h
        refine lv_aload_n hx hb dX6_began_32 rfl (lv_at hl 0 rfl) ?_
        refine lv_dup hx hb dX6_began_33 rfl ?_
        refine va_get (D := D) (ci := 6) (v := .int s_beganMany) (C := RX6) (T := TX6) (N := 33) hx hb hts iX6_began_X6 hown hK hP 0 rfl rfl 22 (by decide) (hts (.fieldLink RX6 193 "ClappedWrongModel" "beganMany" "I") (by decide +kernel)) (fun _ h9 => h9) rfl dX6_began_34 ?_
        refine lv_iconst (v := 1) hx hb dX6_began_37 (by decide) ?_
        refine lv_iadd hx hb dX6_began_38 ?_
        refine va_put (D := D) (ci := 6) (v := .int (s_beganMany + 1)) (ty := .int) (C := RX6) (T := TX6) (N := 33) hx hb hts iX6_began_X6 tyX6 tyX6_ok nmX6 hown hK hP hD hS 0 rfl rfl 22 (by decide) (hts (.fieldLink RX6 193 "ClappedWrongModel" "beganMany" "I") (by decide +kernel)) (fun _ h9 => h9) rfl (by decide +kernel) rfl rfl (Nat.le_of_ble_eq_true rfl) dX6_began_39 (fun H locs hP hD hS => ?_)
        have hP : va_P D vwCl (wM cI q0 q1 q2 q3 q4 q5 q6 q7 q8 q9 q10 q11 q12 s_pageMany s_readMany s_readLate s_state s_many s_late s_armNow s_barNow s_skips s_hallsRead s_nowArm s_turnedMany s_recordMany (s_beganMany + 1) s_seedNow s_keptHall s_keptArm s_keptBar s_keptSkips s_keptRecordMany s_hash s_page s_read s_rows s_sounds s_clapped s_now s_nowLong s_ahead s_records s_keptSounds s_keptClapped s_keptRecords) H := hP
        have hD : va_D A (wM cI q0 q1 q2 q3 q4 q5 q6 q7 q8 q9 q10 q11 q12 s_pageMany s_readMany s_readLate s_state s_many s_late s_armNow s_barNow s_skips s_hallsRead s_nowArm s_turnedMany s_recordMany (s_beganMany + 1) s_seedNow s_keptHall s_keptArm s_keptBar s_keptSkips s_keptRecordMany s_hash s_page s_read s_rows s_sounds s_clapped s_now s_nowLong s_ahead s_records s_keptSounds s_keptClapped s_keptRecords) := hD
        refine lv_iconst (v := 0) hx hb dX6_began_42 (by decide) ?_
        refine lv_istore_n (lv' := [(2, .int 0), (0, .ref q0), (1, .int p1)]) hx hb dX6_began_43 rfl hl (by decide) rfl (fun ls hl => ?_)
        refine lv_iconst (v := (-1)) hx hb dX6_began_44 (by decide) ?_
        refine lv_istore_n (lv' := [(3, .int (-1)), (2, .int 0), (0, .ref q0), (1, .int p1)]) hx hb dX6_began_45 rfl hl (by decide) rfl (fun ls hl => ?_)
        refine lv_sipush (v := 255) hx hb dX6_began_46 (by decide) ?_
        refine lv_istore (lv' := [(4, .int 255), (3, .int (-1)), (2, .int 0), (0, .ref q0), (1, .int p1)]) hx hb dX6_began_49 hl (by decide) rfl (fun ls hl => ?_)
        obtain ⟨u4, hu4, h⟩ := k_bs h
        refine kIter_ind (fun (z3 : (Int32 × Int32 × Int32 × Int32 × (Nat → Int32) × (Nat → Int32) × (Nat → Int32))) (u4 : (Int32 × Int32 × Int32 × Int32 × (Nat → Int32) × (Nat → Int32) × (Nat → Int32))) => ∀ (H : Heap) (locs : List Loc) (ls : Array Slot), va_P D vwCl (wM cI q0 q1 q2 q3 q4 q5 q6 q7 q8 q9 q10 q11 q12 s_pageMany s_readMany s_readLate s_state s_many s_late s_armNow s_barNow s_skips s_hallsRead z3.2.2.2.1 s_turnedMany s_recordMany (s_beganMany + 1) s_seedNow s_keptHall s_keptArm s_keptBar s_keptSkips s_keptRecordMany s_hash s_page s_read s_rows s_sounds s_clapped z3.2.2.2.2.1 z3.2.2.2.2.2.1 z3.2.2.2.2.2.2 s_records s_keptSounds s_keptClapped s_keptRecords) H → va_D A (wM cI q0 q1 q2 q3 q4 q5 q6 q7 q8 q9 q10 q11 q12 s_pageMany s_readMany s_readLate s_state s_many s_late s_armNow s_barNow s_skips s_hallsRead z3.2.2.2.1 s_turnedMany s_recordMany (s_beganMany + 1) s_seedNow s_keptHall s_keptArm s_keptBar s_keptSkips s_keptRecordMany s_hash s_page s_read s_rows s_sounds s_clapped z3.2.2.2.2.1 z3.2.2.2.2.2.1 z3.2.2.2.2.2.2 s_records s_keptSounds s_keptClapped s_keptRecords) → va_S A s.heap H locs → lv_has ls 8 [(0, .ref q0), (1, .int p1), (2, .int z3.1), (3, .int z3.2.1), (4, .int z3.2.2.1)] → (∀ (H : Heap) (locs : List Loc) (ls : Array Slot), va_P D vwCl (wM cI q0 q1 q2 q3 q4 q5 q6 q7 q8 q9 q10 q11 q12 s_pageMany s_readMany s_readLate s_state s_many s_late s_armNow s_barNow s_skips s_hallsRead u4.2.2.2.1 s_turnedMany s_recordMany (s_beganMany + 1) s_seedNow s_keptHall s_keptArm s_keptBar s_keptSkips s_keptRecordMany s_hash s_page s_read s_rows s_sounds s_clapped u4.2.2.2.2.1 u4.2.2.2.2.2.1 u4.2.2.2.2.2.2 s_records s_keptSounds s_keptClapped s_keptRecords) H → va_D A (wM cI q0 q1 q2 q3 q4 q5 q6 q7 q8 q9 q10 q11 q12 s_pageMany s_readMany s_readLate s_state s_many s_late s_armNow s_barNow s_skips s_hallsRead u4.2.2.2.1 s_turnedMany s_recordMany (s_beganMany + 1) s_seedNow s_keptHall s_keptArm s_keptBar s_keptSkips s_keptRecordMany s_hash s_page s_read s_rows s_sounds s_clapped u4.2.2.2.2.1 u4.2.2.2.2.2.1 u4.2.2.2.2.2.2 s_records s_keptSounds s_keptClapped s_keptRecords) → va_S A s.heap H locs → lv_has ls 8 [(0, .ref q0), (1, .int p1), (2, .int u4.1), (3, .int u4.2.1), (4, .int u4.2.2.1)] → W p l e rX6_began s m args below meth c H locs 0 0 Q (F0 m 141 ls [])) → W p l e rX6_began s m args below meth c H locs 0 0 Q (F0 m 51 ls [])) ?_ _ _ _ hu4 _ _ _ hP hD hS (lv_sub hl [3, 4, 2, 1, 0] rfl) ?_
        · intro rc3 ih3 z3 u4 h H locs ls hP hD hS hl kx3
          unfold fX6_began_L1 at h
          refine lv_iload hx hb dX6_began_51 (lv_at hl 4 rfl) ?_
          refine lv_if_lt (tgt := 141) hx hb dX6_began_53 (by decide) (fun c0 => ?_) (fun c0 => ?_)
          · have h := (if_pos c0).symm.trans h
            have h := Option.some.inj h
            subst h
            exact kx3 _ _ _ hP hD hS (lv_sub hl [0, 1, 2, 3, 4] rfl)
          · have h := (if_neg c0).symm.trans h
            refine lv_iload hx hb dX6_began_56 (lv_at hl 4 rfl) ?_
            refine lv_bipush (v := 32) hx hb dX6_began_58 (by decide) ?_
            refine lv_idiv hx hb dX6_began_60 (by decide) ?_
            refine lv_istore (lv' := [(5, .int (z3.2.2.1 / 32)), (0, .ref q0), (1, .int p1), (2, .int z3.1), (3, .int z3.2.1), (4, .int z3.2.2.1)]) hx hb dX6_began_61 hl (by decide) rfl (fun ls hl => ?_)
            refine lv_iload hx hb dX6_began_63 (lv_at hl 5 rfl) ?_
            refine lv_iconst (v := 4) hx hb dX6_began_65 (by decide) ?_
            refine lv_idiv hx hb dX6_began_66 (by decide) ?_
            refine lv_bipush (v := 8) hx hb dX6_began_67 (by decide) ?_
            refine lv_irem hx hb dX6_began_69 (by decide) ?_
            refine lv_istore (lv' := [(6, .int ((z3.2.2.1 / 4) - (z3.2.2.1 / 4) / 8 * 8)), (5, .int (z3.2.2.1 / 32)), (0, .ref q0), (1, .int p1), (2, .int z3.1), (3, .int z3.2.1), (4, .int z3.2.2.1)]) hx hb dX6_began_70 hl (by decide) rfl (fun ls hl => ?_)
            refine lv_iload hx hb dX6_began_72 (lv_at hl 1 rfl) ?_
            refine lv_iload hx hb dX6_began_74 (lv_at hl 0 rfl) ?_
            obtain ⟨u5, hu5, h⟩ := k_bs h
            have J5 : ∀ (H : Heap) (locs : List Loc) (ls : Array Slot), va_P D vwCl (wM cI q0 q1 q2 q3 q4 q5 q6 q7 q8 q9 q10 q11 q12 s_pageMany s_readMany s_readLate s_state s_many s_late s_armNow s_barNow s_skips s_hallsRead u5.2.1 s_turnedMany s_recordMany (s_beganMany + 1) s_seedNow s_keptHall s_keptArm s_keptBar s_keptSkips s_keptRecordMany s_hash s_page s_read s_rows s_sounds s_clapped u5.2.2.1 u5.2.2.2.1 u5.2.2.2.2 s_records s_keptSounds s_keptClapped s_keptRecords) H → va_D A (wM cI q0 q1 q2 q3 q4 q5 q6 q7 q8 q9 q10 q11 q12 s_pageMany s_readMany s_readLate s_state s_many s_late s_armNow s_barNow s_skips s_hallsRead u5.2.1 s_turnedMany s_recordMany (s_beganMany + 1) s_seedNow s_keptHall s_keptArm s_keptBar s_keptSkips s_keptRecordMany s_hash s_page s_read s_rows s_sounds s_clapped u5.2.2.1 u5.2.2.2.1 u5.2.2.2.2 s_records s_keptSounds s_keptClapped s_keptRecords) → va_S A s.heap H locs → lv_has ls 8 [(0, .ref q0), (1, .int p1), (2, .int z3.1), (3, .int z3.2.1), (4, .int z3.2.2.1), (5, .int (z3.2.2.1 / 32)), (6, .int ((z3.2.2.1 / 4) - (z3.2.2.1 / 4) / 8 * 8))] → W p l e rX6_began s m args below meth c H locs 0 0 Q (F0 m 108 ls [.int u5.1]) := by
              intro H locs ls hP hD hS hl
              refine lv_istore (lv' := [(7, .int u5.1), (0, .ref q0), (1, .int p1), (2, .int z3.1), (3, .int z3.2.1), (4, .int z3.2.2.1), (5, .int (z3.2.2.1 / 32)), (6, .int ((z3.2.2.1 / 4) - (z3.2.2.1 / 4) / 8 * 8))]) hx hb dX6_began_108 hl (by decide) rfl (fun ls hl => ?_)
              refine lv_iload_n hx hb dX6_began_110 rfl (lv_at hl 3 rfl) ?_
              refine lv_iload hx hb dX6_began_111 (lv_at hl 0 rfl) ?_
              refine lv_if_eq (tgt := 120) hx hb dX6_began_113 (by decide) (fun c0 => ?_) (fun c0 => ?_)
              · have h := (if_pos c0).symm.trans h
                refine lv_iconst (v := 0) hx hb dX6_began_120 (by decide) ?_
                refine lv_iadd hx hb dX6_began_121 ?_
                refine lv_istore_n (lv' := [(2, .int (z3.1 + 0)), (7, .int u5.1), (0, .ref q0), (1, .int p1), (3, .int z3.2.1), (4, .int z3.2.2.1), (5, .int (z3.2.2.1 / 32)), (6, .int ((z3.2.2.1 / 4) - (z3.2.2.1 / 4) / 8 * 8))]) hx hb dX6_began_122 rfl hl (by decide) rfl (fun ls hl => ?_)
                refine lv_iload hx hb dX6_began_123 (lv_at hl 1 rfl) ?_
                refine lv_if_eq (tgt := 133) hx hb dX6_began_125 (by decide) (fun c0 => ?_) (fun c0 => ?_)
                · have h := (if_pos c0).symm.trans h
                  refine lv_iload_n hx hb dX6_began_133 rfl (lv_at hl 4 rfl) ?_
                  refine lv_istore_n (lv' := [(3, .int z3.2.1), (2, .int (z3.1 + 0)), (7, .int u5.1), (0, .ref q0), (1, .int p1), (4, .int z3.2.2.1), (5, .int (z3.2.2.1 / 32)), (6, .int ((z3.2.2.1 / 4) - (z3.2.2.1 / 4) / 8 * 8))]) hx hb dX6_began_134 rfl hl (by decide) rfl (fun ls hl => ?_)
                  refine lv_iinc (v := (z3.2.2.1 + (-1))) (lv' := [(4, .int (z3.2.2.1 + (-1))), (3, .int z3.2.1), (2, .int (z3.1 + 0)), (7, .int u5.1), (0, .ref q0), (1, .int p1), (5, .int (z3.2.2.1 / 32)), (6, .int ((z3.2.2.1 / 4) - (z3.2.2.1 / 4) / 8 * 8))]) hx hb dX6_began_135 hl (k := 5) rfl (kincX6_began1 _) (by decide) rfl (fun ls hl => ?_)
                  refine lv_goto (tgt := 51) hx hb dX6_began_138 (by decide) ?_
                  refine kabsX6_began ((z3.2.2.1 + (-1)) : Int32) (fun y0 ey0 => ?_)
                  rw [← ey0] at h hl
                  exact ih3 _ _ h _ _ _ hP hD hS (lv_sub hl [4, 5, 2, 1, 0] rfl) kx3
                · have h := (if_neg c0).symm.trans h
                  refine lv_iload hx hb dX6_began_128 (lv_at hl 5 rfl) ?_
                  refine lv_goto (tgt := 134) hx hb dX6_began_130 (by decide) ?_
                  refine lv_istore_n (lv' := [(3, .int z3.2.2.1), (2, .int (z3.1 + 0)), (7, .int u5.1), (0, .ref q0), (1, .int p1), (4, .int z3.2.2.1), (5, .int (z3.2.2.1 / 32)), (6, .int ((z3.2.2.1 / 4) - (z3.2.2.1 / 4) / 8 * 8))]) hx hb dX6_began_134 rfl hl (by decide) rfl (fun ls hl => ?_)
                  refine lv_iinc (v := (z3.2.2.1 + (-1))) (lv' := [(4, .int (z3.2.2.1 + (-1))), (3, .int z3.2.2.1), (2, .int (z3.1 + 0)), (7, .int u5.1), (0, .ref q0), (1, .int p1), (5, .int (z3.2.2.1 / 32)), (6, .int ((z3.2.2.1 / 4) - (z3.2.2.1 / 4) / 8 * 8))]) hx hb dX6_began_135 hl (k := 5) rfl (kincX6_began1 _) (by decide) rfl (fun ls hl => ?_)
                  refine lv_goto (tgt := 51) hx hb dX6_began_138 (by decide) ?_
                  refine kabsX6_began ((z3.2.2.1 + (-1)) : Int32) (fun y0 ey0 => ?_)
                  rw [← ey0] at h hl
                  exact ih3 _ _ h _ _ _ hP hD hS (lv_sub hl [4, 5, 2, 1, 0] rfl) kx3
              · have h := (if_neg c0).symm.trans h
                refine lv_iconst (v := 1) hx hb dX6_began_116 (by decide) ?_
                refine lv_goto (tgt := 121) hx hb dX6_began_117 (by decide) ?_
                refine lv_iadd hx hb dX6_began_121 ?_
                refine lv_istore_n (lv' := [(2, .int (z3.1 + 1)), (7, .int u5.1), (0, .ref q0), (1, .int p1), (3, .int z3.2.1), (4, .int z3.2.2.1), (5, .int (z3.2.2.1 / 32)), (6, .int ((z3.2.2.1 / 4) - (z3.2.2.1 / 4) / 8 * 8))]) hx hb dX6_began_122 rfl hl (by decide) rfl (fun ls hl => ?_)
                refine lv_iload hx hb dX6_began_123 (lv_at hl 1 rfl) ?_
                refine lv_if_eq (tgt := 133) hx hb dX6_began_125 (by decide) (fun c0 => ?_) (fun c0 => ?_)
                · have h := (if_pos c0).symm.trans h
                  refine lv_iload_n hx hb dX6_began_133 rfl (lv_at hl 4 rfl) ?_
                  refine lv_istore_n (lv' := [(3, .int z3.2.1), (2, .int (z3.1 + 1)), (7, .int u5.1), (0, .ref q0), (1, .int p1), (4, .int z3.2.2.1), (5, .int (z3.2.2.1 / 32)), (6, .int ((z3.2.2.1 / 4) - (z3.2.2.1 / 4) / 8 * 8))]) hx hb dX6_began_134 rfl hl (by decide) rfl (fun ls hl => ?_)
                  refine lv_iinc (v := (z3.2.2.1 + (-1))) (lv' := [(4, .int (z3.2.2.1 + (-1))), (3, .int z3.2.1), (2, .int (z3.1 + 1)), (7, .int u5.1), (0, .ref q0), (1, .int p1), (5, .int (z3.2.2.1 / 32)), (6, .int ((z3.2.2.1 / 4) - (z3.2.2.1 / 4) / 8 * 8))]) hx hb dX6_began_135 hl (k := 5) rfl (kincX6_began1 _) (by decide) rfl (fun ls hl => ?_)
                  refine lv_goto (tgt := 51) hx hb dX6_began_138 (by decide) ?_
                  refine kabsX6_began ((z3.2.2.1 + (-1)) : Int32) (fun y0 ey0 => ?_)
                  rw [← ey0] at h hl
                  exact ih3 _ _ h _ _ _ hP hD hS (lv_sub hl [4, 5, 2, 1, 0] rfl) kx3
                · have h := (if_neg c0).symm.trans h
                  refine lv_iload hx hb dX6_began_128 (lv_at hl 5 rfl) ?_
                  refine lv_goto (tgt := 134) hx hb dX6_began_130 (by decide) ?_
                  refine lv_istore_n (lv' := [(3, .int z3.2.2.1), (2, .int (z3.1 + 1)), (7, .int u5.1), (0, .ref q0), (1, .int p1), (4, .int z3.2.2.1), (5, .int (z3.2.2.1 / 32)), (6, .int ((z3.2.2.1 / 4) - (z3.2.2.1 / 4) / 8 * 8))]) hx hb dX6_began_134 rfl hl (by decide) rfl (fun ls hl => ?_)
                  refine lv_iinc (v := (z3.2.2.1 + (-1))) (lv' := [(4, .int (z3.2.2.1 + (-1))), (3, .int z3.2.2.1), (2, .int (z3.1 + 1)), (7, .int u5.1), (0, .ref q0), (1, .int p1), (5, .int (z3.2.2.1 / 32)), (6, .int ((z3.2.2.1 / 4) - (z3.2.2.1 / 4) / 8 * 8))]) hx hb dX6_began_135 hl (k := 5) rfl (kincX6_began1 _) (by decide) rfl (fun ls hl => ?_)
                  refine lv_goto (tgt := 51) hx hb dX6_began_138 (by decide) ?_
                  refine kabsX6_began ((z3.2.2.1 + (-1)) : Int32) (fun y0 ey0 => ?_)
                  rw [← ey0] at h hl
                  exact ih3 _ _ h _ _ _ hP hD hS (lv_sub hl [4, 5, 2, 1, 0] rfl) kx3
            clear h
            have h := hu5
            refine lv_icmp_ge (tgt := 107) hx hb dX6_began_76 (by decide) (fun c0 => ?_) (fun c0 => ?_)
            · have h := (if_pos c0).symm.trans h
              refine lv_iconst (v := 0) hx hb dX6_began_107 (by decide) ?_
              have h := Option.some.inj h
              subst h
              exact J5 _ _ _ hP hD hS (lv_sub hl [2, 3, 4, 5, 6, 1, 0] rfl)
            · have h := (if_neg c0).symm.trans h
              refine lv_iload hx hb dX6_began_79 (lv_at hl 0 rfl) ?_
              refine lv_aload_n hx hb dX6_began_81 rfl (lv_at hl 2 rfl) ?_
              refine va_get (D := D) (ci := 6) (v := .int s_many) (C := RX6) (T := TX6) (N := 33) hx hb hts iX6_began_X6 hown hK hP 0 rfl rfl 6 (by decide) (hts (.fieldLink RX6 84 "ClappedWrongModel" "many" "I") (by decide +kernel)) (fun _ h9 => h9) rfl dX6_began_82 ?_
              refine lv_icmp_ge (tgt := 107) hx hb dX6_began_85 (by decide) (fun c0 => ?_) (fun c0 => ?_)
              · have h := (if_pos c0).symm.trans h
                refine lv_iconst (v := 0) hx hb dX6_began_107 (by decide) ?_
                have h := Option.some.inj h
                subst h
                exact J5 _ _ _ hP hD hS (lv_sub hl [2, 3, 4, 5, 6, 1, 0] rfl)
              · have h := (if_neg c0).symm.trans h
                refine lv_aload_n hx hb dX6_began_88 rfl (lv_at hl 2 rfl) ?_
                refine lv_iload hx hb dX6_began_89 (lv_at hl 1 rfl) ?_
                refine lv_iload hx hb dX6_began_91 (lv_at hl 0 rfl) ?_
                refine lv_iload hx hb dX6_began_93 (lv_at hl 6 rfl) ?_
                refine lv_iconst (v := 4) hx hb dX6_began_95 (by decide) ?_
                refine lv_irem hx hb dX6_began_96 (by decide) ?_
                obtain ⟨u6, hu6, h⟩ := k_bs h
                refine k_ciA (r := u6.1) (k2 := 0) (n2 := 0) (ws := (wM cI q0 q1 q2 q3 q4 q5 q6 q7 q8 q9 q10 q11 q12 s_pageMany s_readMany s_readLate s_state s_many s_late s_armNow s_barNow s_skips s_hallsRead z3.2.2.2.1 s_turnedMany s_recordMany (s_beganMany + 1) s_seedNow s_keptHall s_keptArm s_keptBar s_keptSkips s_keptRecordMany s_hash s_page s_read s_rows s_sounds s_clapped z3.2.2.2.2.1 z3.2.2.2.2.2.1 z3.2.2.2.2.2.2 s_records s_keptSounds s_keptClapped s_keptRecords)) (wc' := (wM cI q0 q1 q2 q3 q4 q5 q6 q7 q8 q9 q10 q11 q12 s_pageMany s_readMany s_readLate s_state s_many s_late s_armNow s_barNow s_skips s_hallsRead u6.2.1 s_turnedMany s_recordMany (s_beganMany + 1) s_seedNow s_keptHall s_keptArm s_keptBar s_keptSkips s_keptRecordMany s_hash s_page s_read s_rows s_sounds s_clapped u6.2.2.1 u6.2.2.2.1 u6.2.2.2.2 s_records s_keptSounds s_keptClapped s_keptRecords)) (va_runV (C := RX6) (As := [.int (z3.2.2.1 / 32), .int ((z3.2.2.1 / 4) - (z3.2.2.1 / 4) / 8 * 8), .int (z3.2.2.1 - z3.2.2.1 / 4 * 4)]) (rest := []) ⟨hx, hb, hml, hown, hts⟩ (mX6_isRecordedBy l D cI ad q0 q1 q2 q3 q4 q5 q6 q7 q8 q9 q10 q11 q12 _ s_pageMany s_readMany s_readLate s_state s_many s_late s_armNow s_barNow s_skips s_hallsRead z3.2.2.2.1 s_turnedMany s_recordMany (s_beganMany + 1) s_seedNow s_keptHall s_keptArm s_keptBar s_keptSkips s_keptRecordMany s_hash s_page s_read s_rows s_sounds s_clapped z3.2.2.2.2.1 z3.2.2.2.2.2.1 z3.2.2.2.2.2.2 s_records s_keptSounds s_keptClapped s_keptRecords (z3.2.2.1 / 32) ((z3.2.2.1 / 4) - (z3.2.2.1 / 4) / 8 * 8) (z3.2.2.1 - z3.2.2.1 / 4 * 4) u6 hu6) (cwV 3 hts gX6_began_X6_isRecordedBy rfl rfl rfl (by decide +kernel) ⟨Nat.le_of_ble_eq_true rfl, Nat.le_of_ble_eq_true rfl⟩) (k_preA (q := (RX6, TX6, 33)) hN hST hA hK hP hD hS 0 (ci := 6) rfl rfl) rfl rfl hl.1 rfl (lv_room (Nat.le_of_ble_eq_true rfl)) dX6_began_97 ⟨Nat.le_of_ble_eq_true rfl, Nat.le_of_ble_eq_true rfl⟩) hP hD hS hA rfl rfl (fun H locs hP hD hS => ?_)
                refine lv_if_eq (tgt := 107) hx hb dX6_began_100 (by decide) (fun c0 => ?_) (fun c0 => ?_)
                · have h := (if_pos c0).symm.trans h
                  refine lv_iconst (v := 0) hx hb dX6_began_107 (by decide) ?_
                  have h := Option.some.inj h
                  subst h
                  exact J5 _ _ _ hP hD hS (lv_sub hl [2, 3, 4, 5, 6, 1, 0] rfl)
                · have h := (if_neg c0).symm.trans h
                  refine lv_iconst (v := 1) hx hb dX6_began_103 (by decide) ?_
                  refine lv_goto (tgt := 108) hx hb dX6_began_104 (by decide) ?_
                  have h := Option.some.inj h
                  subst h
                  exact J5 _ _ _ hP hD hS (lv_sub hl [2, 3, 4, 5, 6, 1, 0] rfl)
        · intro H locs ls hP hD hS hl
          refine lv_iload_n hx hb dX6_began_141 rfl (lv_at hl 1 rfl) ?_
          refine lv_if_ne (tgt := 149) hx hb dX6_began_142 (by decide) (fun c0 => ?_) (fun c0 => ?_)
          · have h := (if_neg c0).symm.trans h
            refine lv_iload_n hx hb dX6_began_149 rfl (lv_at hl 3 rfl) ?_
            have h := Option.some.inj h
            subst h
            exact hRet _ _ _ _ hP hD hS dX6_began_150
          · have h := (if_pos c0).symm.trans h
            refine lv_iload_n hx hb dX6_began_145 rfl (lv_at hl 2 rfl) ?_
            refine lv_goto (tgt := 150) hx hb dX6_began_146 (by decide) ?_
            have h := Option.some.inj h
            subst h
            exact hRet _ _ _ _ hP hD hS dX6_began_150
      · have h := (if_pos c0).symm.trans h
        refine lv_bipush (v := (-103)) hx hb dX6_began_29 (by decide) ?_
        have h := Option.some.inj h
        subst h
        exact hRet _ _ _ _ hP hD hS dX6_began_31
  · have h := (if_pos c0).symm.trans h
    refine lv_bipush (v := (-102)) hx hb dX6_began_10 (by decide) ?_
    have h := Option.some.inj h
    subst h
    exact hRet _ _ _ _ hP hD hS dX6_began_12
theorem iX6_draw_X6 : ∀ w ∈ wsX60, w ∈ wsX6_draw := by decide +kernel
def rX6_draw : Room := { frames := 0, cells := 0, slots := 0, locals := 0 }
set_option maxHeartbeats 4000000 in
set_option maxRecDepth 100000 in
theorem mX6_draw (l : Launch) (D : va_G) (cI : ClassId) (ad : Nat × Nat) (q0 q1 q2 q3 q4 q5 q6 q7 q8 q9 q10 q11 q12 : Nat) (sz : Nat) (s_pageMany : Int32) (s_readMany : Int32) (s_readLate : Int32) (s_state : Int32) (s_many : Int32) (s_late : Int32) (s_armNow : Int32) (s_barNow : Int32) (s_skips : Int32) (s_hallsRead : Int32) (s_nowArm : Int32) (s_turnedMany : Int32) (s_recordMany : Int32) (s_beganMany : Int32) (s_seedNow : Int32) (s_keptHall : Int32) (s_keptArm : Int32) (s_keptBar : Int32) (s_keptSkips : Int32) (s_keptRecordMany : Int32) (s_hash : Int64) (s_page : (Nat → Int32)) (s_read : (Nat → Int32)) (s_rows : (Nat → Int32)) (s_sounds : (Nat → Int32)) (s_clapped : (Nat → Int32)) (s_now : (Nat → Int32)) (s_nowLong : (Nat → Int32)) (s_ahead : (Nat → Int32)) (s_records : (Nat → Int32)) (s_keptSounds : (Nat → Int32)) (s_keptClapped : (Nat → Int32)) (s_keptRecords : (Nat → Int32)) (p1 : Int32) (r : (Int32 × Int32)) (h : fX6_draw s_seedNow p1 = some r) : Met l yX6_draw wsX6_draw rX6_draw (kPre D cI ad [.ref q0, .int p1] (wM cI q0 q1 q2 q3 q4 q5 q6 q7 q8 q9 q10 q11 q12 s_pageMany s_readMany s_readLate s_state s_many s_late s_armNow s_barNow s_skips s_hallsRead s_nowArm s_turnedMany s_recordMany s_beganMany s_seedNow s_keptHall s_keptArm s_keptBar s_keptSkips s_keptRecordMany s_hash s_page s_read s_rows s_sounds s_clapped s_now s_nowLong s_ahead s_records s_keptSounds s_keptClapped s_keptRecords) sz) (kQi D cI r.1 (wM cI q0 q1 q2 q3 q4 q5 q6 q7 q8 q9 q10 q11 q12 s_pageMany s_readMany s_readLate s_state s_many s_late s_armNow s_barNow s_skips s_hallsRead s_nowArm s_turnedMany s_recordMany s_beganMany r.2 s_keptHall s_keptArm s_keptBar s_keptSkips s_keptRecordMany s_hash s_page s_read s_rows s_sounds s_clapped s_now s_nowLong s_ahead s_records s_keptSounds s_keptClapped s_keptRecords) (va_A (wM cI q0 q1 q2 q3 q4 q5 q6 q7 q8 q9 q10 q11 q12 s_pageMany s_readMany s_readLate s_state s_many s_late s_armNow s_barNow s_skips s_hallsRead s_nowArm s_turnedMany s_recordMany s_beganMany s_seedNow s_keptHall s_keptArm s_keptBar s_keptSkips s_keptRecordMany s_hash s_page s_read s_rows s_sounds s_clapped s_now s_nowLong s_ahead s_records s_keptSounds s_keptClapped s_keptRecords) sz)) 0 0 (va_A (wM cI q0 q1 q2 q3 q4 q5 q6 q7 q8 q9 q10 q11 q12 s_pageMany s_readMany s_readLate s_state s_many s_late s_armNow s_barNow s_skips s_hallsRead s_nowArm s_turnedMany s_recordMany s_beganMany s_seedNow s_keptHall s_keptArm s_keptBar s_keptSkips s_keptRecordMany s_hash s_page s_read s_rows s_sounds s_clapped s_now s_nowLong s_ahead s_records s_keptSounds s_keptClapped s_keptRecords) sz) := by
  refine kStart (cc := cX6_draw) (maxL := 2) (ret := (some .int)) (Qc := fun A => kQi D cI r.1 (wM cI q0 q1 q2 q3 q4 q5 q6 q7 q8 q9 q10 q11 q12 s_pageMany s_readMany s_readLate s_state s_many s_late s_armNow s_barNow s_skips s_hallsRead s_nowArm s_turnedMany s_recordMany s_beganMany r.2 s_keptHall s_keptArm s_keptBar s_keptSkips s_keptRecordMany s_hash s_page s_read s_rows s_sounds s_clapped s_now s_nowLong s_ahead s_records s_keptSounds s_keptClapped s_keptRecords) A) (by decide) rfl (Nat.le_of_ble_eq_true rfl) ?_
  intro p e s m args below meth c A ls hx hb hr hts hown hlocks hin hml hN hST hA hS hP hK hD hl
  have hown : s.vm.findClass RX6 = some m.cls := hown
  have hl : lv_has ls 2 [(0, .ref q0), (1, .int p1)] := hl
  have hRet : ∀ (H : Heap) (locs : List Loc) (ls : Array Slot) (pc : Nat), va_P D vwCl (wM cI q0 q1 q2 q3 q4 q5 q6 q7 q8 q9 q10 q11 q12 s_pageMany s_readMany s_readLate s_state s_many s_late s_armNow s_barNow s_skips s_hallsRead s_nowArm s_turnedMany s_recordMany s_beganMany r.2 s_keptHall s_keptArm s_keptBar s_keptSkips s_keptRecordMany s_hash s_page s_read s_rows s_sounds s_clapped s_now s_nowLong s_ahead s_records s_keptSounds s_keptClapped s_keptRecords) H → va_D A (wM cI q0 q1 q2 q3 q4 q5 q6 q7 q8 q9 q10 q11 q12 s_pageMany s_readMany s_readLate s_state s_many s_late s_armNow s_barNow s_skips s_hallsRead s_nowArm s_turnedMany s_recordMany s_beganMany r.2 s_keptHall s_keptArm s_keptBar s_keptSkips s_keptRecordMany s_hash s_page s_read s_rows s_sounds s_clapped s_now s_nowLong s_ahead s_records s_keptSounds s_keptClapped s_keptRecords) → va_S A s.heap H locs → decode cX6_draw pc = .ok (.ireturn, 1) → W p l e rX6_draw s m args below meth c H locs 0 0 (MQ below (kQi D cI r.1 (wM cI q0 q1 q2 q3 q4 q5 q6 q7 q8 q9 q10 q11 q12 s_pageMany s_readMany s_readLate s_state s_many s_late s_armNow s_barNow s_skips s_hallsRead s_nowArm s_turnedMany s_recordMany s_beganMany r.2 s_keptHall s_keptArm s_keptBar s_keptSkips s_keptRecordMany s_hash s_page s_read s_rows s_sounds s_clapped s_now s_nowLong s_ahead s_records s_keptSounds s_keptClapped s_keptRecords) A) args s 0 0 A) (F0 m pc ls [.int r.1]) := fun H locs ls pc hP hD hS hd => k_iret hx hb hr hlocks hK hP hD hS hd
  generalize MQ below (kQi D cI r.1 (wM cI q0 q1 q2 q3 q4 q5 q6 q7 q8 q9 q10 q11 q12 s_pageMany s_readMany s_readLate s_state s_many s_late s_armNow s_barNow s_skips s_hallsRead s_nowArm s_turnedMany s_recordMany s_beganMany r.2 s_keptHall s_keptArm s_keptBar s_keptSkips s_keptRecordMany s_hash s_page s_read s_rows s_sounds s_clapped s_now s_nowLong s_ahead s_records s_keptSounds s_keptClapped s_keptRecords) A) args s 0 0 A = Q at hRet ⊢
  unfold fX6_draw at h
  refine lv_aload_n hx hb dX6_draw_0 rfl (lv_at hl 0 rfl) ?_
  refine lv_ldc2 (v := 1103515245) hx hb hown (hts (.constantLong RX6 200 1103515245) (by decide +kernel)) dX6_draw_1 ?_
  refine lv_aload_n hx hb dX6_draw_4 rfl (lv_at hl 0 rfl) ?_
  refine va_get (D := D) (ci := 6) (v := .int s_seedNow) (C := RX6) (T := TX6) (N := 33) hx hb hts iX6_draw_X6 hown hK hP 0 rfl rfl 23 (by decide) (hts (.fieldLink RX6 202 "ClappedWrongModel" "seedNow" "I") (by decide +kernel)) (fun _ h9 => h9) rfl dX6_draw_5 ?_
  refine lv_i2l hx hb dX6_draw_8 rfl ?_
  refine lv_lmul hx hb dX6_draw_9 ?_
  refine lv_ldc2 (v := 12345) hx hb hown (hts (.constantLong RX6 205 12345) (by decide +kernel)) dX6_draw_10 ?_
  refine lv_ladd hx hb dX6_draw_13 ?_
  refine lv_ldc2 (v := 2147483647) hx hb hown (hts (.constantLong RX6 207 2147483647) (by decide +kernel)) dX6_draw_14 ?_
  refine lv_land hx hb dX6_draw_17 ?_
  refine lv_l2i hx hb dX6_draw_18 rfl ?_
  refine va_put (D := D) (ci := 6) (v := .int (Int64.toInt32 ((((1103515245 : Int64) * (Int32.toInt64 s_seedNow)) + (12345 : Int64)) &&& (2147483647 : Int64)))) (ty := .int) (C := RX6) (T := TX6) (N := 33) hx hb hts iX6_draw_X6 tyX6 tyX6_ok nmX6 hown hK hP hD hS 0 rfl rfl 23 (by decide) (hts (.fieldLink RX6 202 "ClappedWrongModel" "seedNow" "I") (by decide +kernel)) (fun _ h9 => h9) rfl (by decide +kernel) rfl rfl (Nat.le_of_ble_eq_true rfl) dX6_draw_19 (fun H locs hP hD hS => ?_)
  have hP : va_P D vwCl (wM cI q0 q1 q2 q3 q4 q5 q6 q7 q8 q9 q10 q11 q12 s_pageMany s_readMany s_readLate s_state s_many s_late s_armNow s_barNow s_skips s_hallsRead s_nowArm s_turnedMany s_recordMany s_beganMany (Int64.toInt32 ((((1103515245 : Int64) * (Int32.toInt64 s_seedNow)) + (12345 : Int64)) &&& (2147483647 : Int64))) s_keptHall s_keptArm s_keptBar s_keptSkips s_keptRecordMany s_hash s_page s_read s_rows s_sounds s_clapped s_now s_nowLong s_ahead s_records s_keptSounds s_keptClapped s_keptRecords) H := hP
  have hD : va_D A (wM cI q0 q1 q2 q3 q4 q5 q6 q7 q8 q9 q10 q11 q12 s_pageMany s_readMany s_readLate s_state s_many s_late s_armNow s_barNow s_skips s_hallsRead s_nowArm s_turnedMany s_recordMany s_beganMany (Int64.toInt32 ((((1103515245 : Int64) * (Int32.toInt64 s_seedNow)) + (12345 : Int64)) &&& (2147483647 : Int64))) s_keptHall s_keptArm s_keptBar s_keptSkips s_keptRecordMany s_hash s_page s_read s_rows s_sounds s_clapped s_now s_nowLong s_ahead s_records s_keptSounds s_keptClapped s_keptRecords) := hD
  refine lv_aload_n hx hb dX6_draw_22 rfl (lv_at hl 0 rfl) ?_
  refine va_get (D := D) (ci := 6) (v := .int (Int64.toInt32 ((((1103515245 : Int64) * (Int32.toInt64 s_seedNow)) + (12345 : Int64)) &&& (2147483647 : Int64)))) (C := RX6) (T := TX6) (N := 33) hx hb hts iX6_draw_X6 hown hK hP 0 rfl rfl 23 (by decide) (hts (.fieldLink RX6 202 "ClappedWrongModel" "seedNow" "I") (by decide +kernel)) (fun _ h9 => h9) rfl dX6_draw_23 ?_
  refine lv_ldc (v := 65536) hx hb hown (hts (.constant RX6 209 65536) (by decide +kernel)) dX6_draw_26 ?_
  refine lv_idiv hx hb dX6_draw_28 (by decide) ?_
  refine lv_iload_n hx hb dX6_draw_29 rfl (lv_at hl 1 rfl) ?_
  refine k_irem hx hb dX6_draw_30 h (fun v1 h => ?_)
  have h := Option.some.inj h
  subst h
  exact hRet _ _ _ _ hP hD hS dX6_draw_31
theorem iX6_palmsAll_X6 : ∀ w ∈ wsX60, w ∈ wsX6_palmsAll := by decide +kernel
def rX6_palmsAll : Room := { frames := 0, cells := 0, slots := 0, locals := 0 }
set_option maxHeartbeats 4000000 in
set_option maxRecDepth 100000 in
theorem mX6_palmsAll (l : Launch) (D : va_G) (cI : ClassId) (ad : Nat × Nat) (q0 q1 q2 q3 q4 q5 q6 q7 q8 q9 q10 q11 q12 : Nat) (sz : Nat) (s_pageMany : Int32) (s_readMany : Int32) (s_readLate : Int32) (s_state : Int32) (s_many : Int32) (s_late : Int32) (s_armNow : Int32) (s_barNow : Int32) (s_skips : Int32) (s_hallsRead : Int32) (s_nowArm : Int32) (s_turnedMany : Int32) (s_recordMany : Int32) (s_beganMany : Int32) (s_seedNow : Int32) (s_keptHall : Int32) (s_keptArm : Int32) (s_keptBar : Int32) (s_keptSkips : Int32) (s_keptRecordMany : Int32) (s_hash : Int64) (s_page : (Nat → Int32)) (s_read : (Nat → Int32)) (s_rows : (Nat → Int32)) (s_sounds : (Nat → Int32)) (s_clapped : (Nat → Int32)) (s_now : (Nat → Int32)) (s_nowLong : (Nat → Int32)) (s_ahead : (Nat → Int32)) (s_records : (Nat → Int32)) (s_keptSounds : (Nat → Int32)) (s_keptClapped : (Nat → Int32)) (s_keptRecords : (Nat → Int32)) (r : Int32) (h : fX6_palmsAll s_many s_rows = some r) : Met l yX6_palmsAll wsX6_palmsAll rX6_palmsAll (kPre D cI ad [.ref q0] (wM cI q0 q1 q2 q3 q4 q5 q6 q7 q8 q9 q10 q11 q12 s_pageMany s_readMany s_readLate s_state s_many s_late s_armNow s_barNow s_skips s_hallsRead s_nowArm s_turnedMany s_recordMany s_beganMany s_seedNow s_keptHall s_keptArm s_keptBar s_keptSkips s_keptRecordMany s_hash s_page s_read s_rows s_sounds s_clapped s_now s_nowLong s_ahead s_records s_keptSounds s_keptClapped s_keptRecords) sz) (kQi D cI r (wM cI q0 q1 q2 q3 q4 q5 q6 q7 q8 q9 q10 q11 q12 s_pageMany s_readMany s_readLate s_state s_many s_late s_armNow s_barNow s_skips s_hallsRead s_nowArm s_turnedMany s_recordMany s_beganMany s_seedNow s_keptHall s_keptArm s_keptBar s_keptSkips s_keptRecordMany s_hash s_page s_read s_rows s_sounds s_clapped s_now s_nowLong s_ahead s_records s_keptSounds s_keptClapped s_keptRecords) (va_A (wM cI q0 q1 q2 q3 q4 q5 q6 q7 q8 q9 q10 q11 q12 s_pageMany s_readMany s_readLate s_state s_many s_late s_armNow s_barNow s_skips s_hallsRead s_nowArm s_turnedMany s_recordMany s_beganMany s_seedNow s_keptHall s_keptArm s_keptBar s_keptSkips s_keptRecordMany s_hash s_page s_read s_rows s_sounds s_clapped s_now s_nowLong s_ahead s_records s_keptSounds s_keptClapped s_keptRecords) sz)) 0 0 (va_A (wM cI q0 q1 q2 q3 q4 q5 q6 q7 q8 q9 q10 q11 q12 s_pageMany s_readMany s_readLate s_state s_many s_late s_armNow s_barNow s_skips s_hallsRead s_nowArm s_turnedMany s_recordMany s_beganMany s_seedNow s_keptHall s_keptArm s_keptBar s_keptSkips s_keptRecordMany s_hash s_page s_read s_rows s_sounds s_clapped s_now s_nowLong s_ahead s_records s_keptSounds s_keptClapped s_keptRecords) sz) := by
  refine kStart (cc := cX6_palmsAll) (maxL := 3) (ret := (some .int)) (Qc := fun A => kQi D cI r (wM cI q0 q1 q2 q3 q4 q5 q6 q7 q8 q9 q10 q11 q12 s_pageMany s_readMany s_readLate s_state s_many s_late s_armNow s_barNow s_skips s_hallsRead s_nowArm s_turnedMany s_recordMany s_beganMany s_seedNow s_keptHall s_keptArm s_keptBar s_keptSkips s_keptRecordMany s_hash s_page s_read s_rows s_sounds s_clapped s_now s_nowLong s_ahead s_records s_keptSounds s_keptClapped s_keptRecords) A) (by decide) rfl (Nat.le_of_ble_eq_true rfl) ?_
  intro p e s m args below meth c A ls hx hb hr hts hown hlocks hin hml hN hST hA hS hP hK hD hl
  have hown : s.vm.findClass RX6 = some m.cls := hown
  have hl : lv_has ls 3 [(0, .ref q0)] := hl
  have hRet : ∀ (H : Heap) (locs : List Loc) (ls : Array Slot) (pc : Nat), va_P D vwCl (wM cI q0 q1 q2 q3 q4 q5 q6 q7 q8 q9 q10 q11 q12 s_pageMany s_readMany s_readLate s_state s_many s_late s_armNow s_barNow s_skips s_hallsRead s_nowArm s_turnedMany s_recordMany s_beganMany s_seedNow s_keptHall s_keptArm s_keptBar s_keptSkips s_keptRecordMany s_hash s_page s_read s_rows s_sounds s_clapped s_now s_nowLong s_ahead s_records s_keptSounds s_keptClapped s_keptRecords) H → va_D A (wM cI q0 q1 q2 q3 q4 q5 q6 q7 q8 q9 q10 q11 q12 s_pageMany s_readMany s_readLate s_state s_many s_late s_armNow s_barNow s_skips s_hallsRead s_nowArm s_turnedMany s_recordMany s_beganMany s_seedNow s_keptHall s_keptArm s_keptBar s_keptSkips s_keptRecordMany s_hash s_page s_read s_rows s_sounds s_clapped s_now s_nowLong s_ahead s_records s_keptSounds s_keptClapped s_keptRecords) → va_S A s.heap H locs → decode cX6_palmsAll pc = .ok (.ireturn, 1) → W p l e rX6_palmsAll s m args below meth c H locs 0 0 (MQ below (kQi D cI r (wM cI q0 q1 q2 q3 q4 q5 q6 q7 q8 q9 q10 q11 q12 s_pageMany s_readMany s_readLate s_state s_many s_late s_armNow s_barNow s_skips s_hallsRead s_nowArm s_turnedMany s_recordMany s_beganMany s_seedNow s_keptHall s_keptArm s_keptBar s_keptSkips s_keptRecordMany s_hash s_page s_read s_rows s_sounds s_clapped s_now s_nowLong s_ahead s_records s_keptSounds s_keptClapped s_keptRecords) A) args s 0 0 A) (F0 m pc ls [.int r]) := fun H locs ls pc hP hD hS hd => k_iret hx hb hr hlocks hK hP hD hS hd
  generalize MQ below (kQi D cI r (wM cI q0 q1 q2 q3 q4 q5 q6 q7 q8 q9 q10 q11 q12 s_pageMany s_readMany s_readLate s_state s_many s_late s_armNow s_barNow s_skips s_hallsRead s_nowArm s_turnedMany s_recordMany s_beganMany s_seedNow s_keptHall s_keptArm s_keptBar s_keptSkips s_keptRecordMany s_hash s_page s_read s_rows s_sounds s_clapped s_now s_nowLong s_ahead s_records s_keptSounds s_keptClapped s_keptRecords) A) args s 0 0 A = Q at hRet ⊢
  unfold fX6_palmsAll at h
  refine lv_iconst (v := 0) hx hb dX6_palmsAll_0 (by decide) ?_
  refine lv_istore_n (lv' := [(1, .int 0), (0, .ref q0)]) hx hb dX6_palmsAll_1 rfl hl (by decide) rfl (fun ls hl => ?_)
  refine lv_iconst (v := 0) hx hb dX6_palmsAll_2 (by decide) ?_
  refine lv_istore_n (lv' := [(2, .int 0), (1, .int 0), (0, .ref q0)]) hx hb dX6_palmsAll_3 rfl hl (by decide) rfl (fun ls hl => ?_)
  obtain ⟨u2, hu2, h⟩ := k_bs h
  refine kIter_ind (fun (z1 : (Int32 × Int32)) (u2 : (Int32 × Int32)) => ∀ (H : Heap) (locs : List Loc) (ls : Array Slot), va_P D vwCl (wM cI q0 q1 q2 q3 q4 q5 q6 q7 q8 q9 q10 q11 q12 s_pageMany s_readMany s_readLate s_state s_many s_late s_armNow s_barNow s_skips s_hallsRead s_nowArm s_turnedMany s_recordMany s_beganMany s_seedNow s_keptHall s_keptArm s_keptBar s_keptSkips s_keptRecordMany s_hash s_page s_read s_rows s_sounds s_clapped s_now s_nowLong s_ahead s_records s_keptSounds s_keptClapped s_keptRecords) H → va_D A (wM cI q0 q1 q2 q3 q4 q5 q6 q7 q8 q9 q10 q11 q12 s_pageMany s_readMany s_readLate s_state s_many s_late s_armNow s_barNow s_skips s_hallsRead s_nowArm s_turnedMany s_recordMany s_beganMany s_seedNow s_keptHall s_keptArm s_keptBar s_keptSkips s_keptRecordMany s_hash s_page s_read s_rows s_sounds s_clapped s_now s_nowLong s_ahead s_records s_keptSounds s_keptClapped s_keptRecords) → va_S A s.heap H locs → lv_has ls 3 [(0, .ref q0), (1, .int z1.1), (2, .int z1.2)] → (∀ (H : Heap) (locs : List Loc) (ls : Array Slot), va_P D vwCl (wM cI q0 q1 q2 q3 q4 q5 q6 q7 q8 q9 q10 q11 q12 s_pageMany s_readMany s_readLate s_state s_many s_late s_armNow s_barNow s_skips s_hallsRead s_nowArm s_turnedMany s_recordMany s_beganMany s_seedNow s_keptHall s_keptArm s_keptBar s_keptSkips s_keptRecordMany s_hash s_page s_read s_rows s_sounds s_clapped s_now s_nowLong s_ahead s_records s_keptSounds s_keptClapped s_keptRecords) H → va_D A (wM cI q0 q1 q2 q3 q4 q5 q6 q7 q8 q9 q10 q11 q12 s_pageMany s_readMany s_readLate s_state s_many s_late s_armNow s_barNow s_skips s_hallsRead s_nowArm s_turnedMany s_recordMany s_beganMany s_seedNow s_keptHall s_keptArm s_keptBar s_keptSkips s_keptRecordMany s_hash s_page s_read s_rows s_sounds s_clapped s_now s_nowLong s_ahead s_records s_keptSounds s_keptClapped s_keptRecords) → va_S A s.heap H locs → lv_has ls 3 [(0, .ref q0), (1, .int u2.1), (2, .int u2.2)] → W p l e rX6_palmsAll s m args below meth c H locs 0 0 Q (F0 m 31 ls [])) → W p l e rX6_palmsAll s m args below meth c H locs 0 0 Q (F0 m 4 ls [])) ?_ _ _ _ hu2 _ _ _ hP hD hS (lv_sub hl [2, 1, 0] rfl) ?_
  · intro rc1 ih1 z1 u2 h H locs ls hP hD hS hl kx1
    unfold fX6_palmsAll_L1 at h
    refine lv_iload_n hx hb dX6_palmsAll_4 rfl (lv_at hl 2 rfl) ?_
    refine lv_aload_n hx hb dX6_palmsAll_5 rfl (lv_at hl 0 rfl) ?_
    refine va_get (D := D) (ci := 6) (v := .int s_many) (C := RX6) (T := TX6) (N := 33) hx hb hts iX6_palmsAll_X6 hown hK hP 0 rfl rfl 6 (by decide) (hts (.fieldLink RX6 84 "ClappedWrongModel" "many" "I") (by decide +kernel)) (fun _ h9 => h9) rfl dX6_palmsAll_6 ?_
    refine lv_icmp_ge (tgt := 31) hx hb dX6_palmsAll_9 (by decide) (fun c0 => ?_) (fun c0 => ?_)
    · have h := (if_pos c0).symm.trans h
      have h := Option.some.inj h
      subst h
      exact kx1 _ _ _ hP hD hS (lv_sub hl [0, 1, 2] rfl)
    · have h := (if_neg c0).symm.trans h
      refine lv_iload_n hx hb dX6_palmsAll_12 rfl (lv_at hl 1 rfl) ?_
      refine lv_aload_n hx hb dX6_palmsAll_13 rfl (lv_at hl 0 rfl) ?_
      refine va_get (D := D) (ci := 6) (v := .ref q3) (C := RX6) (T := TX6) (N := 33) hx hb hts iX6_palmsAll_X6 hown hK hP 0 rfl rfl 12 (by decide) (hts (.fieldLink RX6 16 "ClappedWrongModel" "rows" "[I") (by decide +kernel)) (fun _ h9 => h9) rfl dX6_palmsAll_14 ?_
      refine lv_iconst (v := 3) hx hb dX6_palmsAll_17 (by decide) ?_
      refine lv_iload_n hx hb dX6_palmsAll_18 rfl (lv_at hl 2 rfl) ?_
      refine lv_imul hx hb dX6_palmsAll_19 ?_
      refine lv_iconst (v := 1) hx hb dX6_palmsAll_20 (by decide) ?_
      refine lv_iadd hx hb dX6_palmsAll_21 ?_
      refine k_iald hx hb hK hP 3 rfl dX6_palmsAll_22 h (fun v3 h => ?_)
      refine lv_iadd hx hb dX6_palmsAll_23 ?_
      refine lv_istore_n (lv' := [(1, .int (z1.1 + v3)), (0, .ref q0), (2, .int z1.2)]) hx hb dX6_palmsAll_24 rfl hl (by decide) rfl (fun ls hl => ?_)
      refine lv_iinc (v := (z1.2 + 1)) (lv' := [(2, .int (z1.2 + 1)), (1, .int (z1.1 + v3)), (0, .ref q0)]) hx hb dX6_palmsAll_25 hl (k := 2) rfl rfl (by decide) rfl (fun ls hl => ?_)
      refine lv_goto (tgt := 4) hx hb dX6_palmsAll_28 (by decide) ?_
      exact ih1 _ _ h _ _ _ hP hD hS (lv_sub hl [2, 1, 0] rfl) kx1
  · intro H locs ls hP hD hS hl
    refine lv_iload_n hx hb dX6_palmsAll_31 rfl (lv_at hl 1 rfl) ?_
    have h := Option.some.inj h
    subst h
    exact hRet _ _ _ _ hP hD hS dX6_palmsAll_32
