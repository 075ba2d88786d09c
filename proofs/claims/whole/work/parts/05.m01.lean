theorem iX2_init_X2 : ∀ w ∈ wsX20, w ∈ wsX2_init := by decide +kernel
def rX2_init : Room := { frames := 1, cells := 3, slots := 24, locals := 20 }
set_option maxHeartbeats 4000000 in
set_option maxRecDepth 100000 in
theorem mX2_init (l : Launch) (D : va_G) (cI : ClassId) (ad : Nat × Nat) (q0 : Nat) (sz : Nat) : Met l yX2_init wsX2_init rX2_init (kPre D cI ad [.ref q0] [(q0, .inr (2, [.null, .null, .null, .int 0, .int 0]))] sz) (kQn D cI (fun (u : (Nat × Nat × Nat)) => (wH cI q0 u.1 u.2.1 u.2.2 0 0 (fun _ => 0) (fun _ => 0) (fun _ => 0))) (va_A [(q0, .inr (2, [.null, .null, .null, .int 0, .int 0]))] sz)) 3 24 (va_A [(q0, .inr (2, [.null, .null, .null, .int 0, .int 0]))] sz) := by
  refine kStart (cc := cX2_init) (maxL := 1) (ret := none) (Qc := fun A => kQn D cI (fun (u : (Nat × Nat × Nat)) => (wH cI q0 u.1 u.2.1 u.2.2 0 0 (fun _ => 0) (fun _ => 0) (fun _ => 0))) A) (by decide) rfl (Nat.le_of_ble_eq_true rfl) ?_
  intro p e s m args below meth c A ls hx hb hr hts hown hlocks hin hml hN hST hA hS hP hK hD hl
  have hown : s.vm.findClass RX2 = some m.cls := hown
  have hl : lv_has ls 1 [(0, .ref q0)] := hl
  refine lv_aload_n hx hb dX2_init_0 rfl (lv_at hl 0 rfl) ?_
  refine W.objInit hx hb hown (hts (.methodLink RX2 3 objectInit) (by decide +kernel)) (hts (.instanceMethod objectInit) (by decide +kernel)) (hts (.code objectInit ⟨#[0xb1]⟩ 1 none) (by decide +kernel)) rfl (by rw [hml]; exact hl.1) rfl dX2_init_1 (Nat.le_of_ble_eq_true rfl) (Nat.le_of_ble_eq_true rfl) ?_
  refine lv_aload_n hx hb dX2_init_4 rfl (lv_at hl 0 rfl) ?_
  refine lv_bipush (v := 8) hx hb dX2_init_5 (by decide) ?_
  refine k_newa 8 (k2 := 1) (n2 := 8) hx hb (hts (.arrayClass .int) (by decide +kernel)) hK hP hD hS hA (by decide) (by decide) (by decide) (Nat.le_of_ble_eq_true rfl) (Nat.le_of_ble_eq_true rfl) dX2_init_7 (fun q1 => [(q0, .inr (2, [.null, .null, .null, .int 0, .int 0])), (q1, .inl (cI, 8, .inl (fun _ => 0)))]) (fun _ => rfl) rfl rfl (fun q1 H hP hD hS => ?_)
  refine va_putF (D := D) (ci := 2) (v := .ref q1) (ty := (.array .int)) (C := RX2) (T := TX2) (N := 5) hx hb hts iX2_init_X2 tyX2 tyX2_ok nmX2 hown hK hP hD hS 0 rfl rfl 0 (by decide) (hts (.fieldLink RX2 9 "ClappedWrong$Hall" "kinds" "[I") (by decide +kernel)) (fun _ h9 => h9) rfl hin rfl (by decide +kernel) rfl rfl (Nat.le_of_ble_eq_true rfl) dX2_init_9 (fun H locs hP hD hS => ?_)
  have hP : va_P D vwCl [(q0, .inr (2, [.ref q1, .null, .null, .int 0, .int 0])), (q1, .inl (cI, 8, .inl (fun _ => 0)))] H := hP
  have hD : va_D A [(q0, .inr (2, [.ref q1, .null, .null, .int 0, .int 0])), (q1, .inl (cI, 8, .inl (fun _ => 0)))] := hD
  refine lv_aload_n hx hb dX2_init_12 rfl (lv_at hl 0 rfl) ?_
  refine lv_bipush (v := 8) hx hb dX2_init_13 (by decide) ?_
  refine k_newa 8 (k2 := 2) (n2 := 16) hx hb (hts (.arrayClass .int) (by decide +kernel)) hK hP hD hS hA (by decide) (by decide) (by decide) (Nat.le_of_ble_eq_true rfl) (Nat.le_of_ble_eq_true rfl) dX2_init_15 (fun q2 => [(q0, .inr (2, [.ref q1, .null, .null, .int 0, .int 0])), (q1, .inl (cI, 8, .inl (fun _ => 0))), (q2, .inl (cI, 8, .inl (fun _ => 0)))]) (fun _ => rfl) rfl rfl (fun q2 H hP hD hS => ?_)
  refine va_putF (D := D) (ci := 2) (v := .ref q2) (ty := (.array .int)) (C := RX2) (T := TX2) (N := 5) hx hb hts iX2_init_X2 tyX2 tyX2_ok nmX2 hown hK hP hD hS 0 rfl rfl 1 (by decide) (hts (.fieldLink RX2 15 "ClappedWrong$Hall" "palms" "[I") (by decide +kernel)) (fun _ h9 => h9) rfl hin rfl (by decide +kernel) rfl rfl (Nat.le_of_ble_eq_true rfl) dX2_init_17 (fun H locs hP hD hS => ?_)
  have hP : va_P D vwCl [(q0, .inr (2, [.ref q1, .ref q2, .null, .int 0, .int 0])), (q1, .inl (cI, 8, .inl (fun _ => 0))), (q2, .inl (cI, 8, .inl (fun _ => 0)))] H := hP
  have hD : va_D A [(q0, .inr (2, [.ref q1, .ref q2, .null, .int 0, .int 0])), (q1, .inl (cI, 8, .inl (fun _ => 0))), (q2, .inl (cI, 8, .inl (fun _ => 0)))] := hD
  refine lv_aload_n hx hb dX2_init_20 rfl (lv_at hl 0 rfl) ?_
  refine lv_bipush (v := 8) hx hb dX2_init_21 (by decide) ?_
  refine k_newa 8 (k2 := 3) (n2 := 24) hx hb (hts (.arrayClass .int) (by decide +kernel)) hK hP hD hS hA (by decide) (by decide) (by decide) (Nat.le_of_ble_eq_true rfl) (Nat.le_of_ble_eq_true rfl) dX2_init_23 (fun q3 => [(q0, .inr (2, [.ref q1, .ref q2, .null, .int 0, .int 0])), (q1, .inl (cI, 8, .inl (fun _ => 0))), (q2, .inl (cI, 8, .inl (fun _ => 0))), (q3, .inl (cI, 8, .inl (fun _ => 0)))]) (fun _ => rfl) rfl rfl (fun q3 H hP hD hS => ?_)
  refine va_putF (D := D) (ci := 2) (v := .ref q3) (ty := (.array .int)) (C := RX2) (T := TX2) (N := 5) hx hb hts iX2_init_X2 tyX2 tyX2_ok nmX2 hown hK hP hD hS 0 rfl rfl 2 (by decide) (hts (.fieldLink RX2 18 "ClappedWrong$Hall" "strengths" "[I") (by decide +kernel)) (fun _ h9 => h9) rfl hin rfl (by decide +kernel) rfl rfl (Nat.le_of_ble_eq_true rfl) dX2_init_25 (fun H locs hP hD hS => ?_)
  have hP : va_P D vwCl (wH cI q0 q1 q2 q3 0 0 (fun _ => 0) (fun _ => 0) (fun _ => 0)) H := hP
  have hD : va_D A (wH cI q0 q1 q2 q3 0 0 (fun _ => 0) (fun _ => 0) (fun _ => 0)) := hD
  refine lv_aload_n hx hb dX2_init_28 rfl (lv_at hl 0 rfl) ?_
  refine lv_iconst (v := 0) hx hb dX2_init_29 (by decide) ?_
  refine va_put (D := D) (ci := 2) (v := .int 0) (ty := .int) (C := RX2) (T := TX2) (N := 5) hx hb hts iX2_init_X2 tyX2 tyX2_ok nmX2 hown hK hP hD hS 0 rfl rfl 3 (by decide) (hts (.fieldLink RX2 21 "ClappedWrong$Hall" "rows" "I") (by decide +kernel)) (fun _ h9 => h9) rfl (by decide +kernel) rfl rfl (Nat.le_of_ble_eq_true rfl) dX2_init_30 (fun H locs hP hD hS => ?_)
  have hP : va_P D vwCl (wH cI q0 q1 q2 q3 0 0 (fun _ => 0) (fun _ => 0) (fun _ => 0)) H := hP
  have hD : va_D A (wH cI q0 q1 q2 q3 0 0 (fun _ => 0) (fun _ => 0) (fun _ => 0)) := hD
  refine lv_aload_n hx hb dX2_init_33 rfl (lv_at hl 0 rfl) ?_
  refine lv_iconst (v := 0) hx hb dX2_init_34 (by decide) ?_
  refine va_put (D := D) (ci := 2) (v := .int 0) (ty := .int) (C := RX2) (T := TX2) (N := 5) hx hb hts iX2_init_X2 tyX2 tyX2_ok nmX2 hown hK hP hD hS 0 rfl rfl 4 (by decide) (hts (.fieldLink RX2 25 "ClappedWrong$Hall" "late" "I") (by decide +kernel)) (fun _ h9 => h9) rfl (by decide +kernel) rfl rfl (Nat.le_of_ble_eq_true rfl) dX2_init_35 (fun H locs hP hD hS => ?_)
  have hP : va_P D vwCl (wH cI q0 q1 q2 q3 0 0 (fun _ => 0) (fun _ => 0) (fun _ => 0)) H := hP
  have hD : va_D A (wH cI q0 q1 q2 q3 0 0 (fun _ => 0) (fun _ => 0) (fun _ => 0)) := hD
  have hP := hP.sub (ws' := (wH cI q0 q1 q2 q3 0 0 (fun _ => 0) (fun _ => 0) (fun _ => 0))) [0, 1, 2, 3] rfl
  have hD := hD.sub (ws' := (wH cI q0 q1 q2 q3 0 0 (fun _ => 0) (fun _ => 0) (fun _ => 0))) [0, 1, 2, 3] (by decide) rfl
  exact k_nret (wn := (fun (u : (Nat × Nat × Nat)) => (wH cI q0 u.1 u.2.1 u.2.2 0 0 (fun _ => 0) (fun _ => 0) (fun _ => 0)))) (q1, q2, q3) hx hb hr hlocks hK hP hD hS dX2_init_38
def rX5_within : Room := { frames := 0, cells := 0, slots := 0, locals := 0 }
set_option maxHeartbeats 4000000 in
set_option maxRecDepth 100000 in
theorem mX5_within (l : Launch) (D : va_G) (cI : ClassId) (ad : Nat × Nat) (sz : Nat) (p0 : Int32) (p1 : Int32) (p2 : Int32) (r : Int32) (h : fX5_within p0 p1 p2 = some r) : Met l yX5_within wsX5_within rX5_within (kPre D cI ad [.int p0, .int p1, .int p2] [] sz) (kQi D cI r [] (va_A [] sz)) 0 0 (va_A [] sz) := by
  refine kStart (cc := cX5_within) (maxL := 3) (ret := (some .boolean)) (Qc := fun A => kQi D cI r [] A) (by decide) rfl (Nat.le_of_ble_eq_true rfl) ?_
  intro p e s m args below meth c A ls hx hb hr hts hown hlocks hin hml hN hST hA hS hP hK hD hl
  have hown : s.vm.findClass RX5 = some m.cls := hown
  have hl : lv_has ls 3 [(0, .int p0), (1, .int p1), (2, .int p2)] := hl
  have hRet : ∀ (H : Heap) (locs : List Loc) (ls : Array Slot) (pc : Nat), narrow .boolean (.int r) = .int r → va_P D vwCl [] H → va_D A [] → va_S A s.heap H locs → decode cX5_within pc = .ok (.ireturn, 1) → W p l e rX5_within s m args below meth c H locs 0 0 (MQ below (kQi D cI r [] A) args s 0 0 A) (F0 m pc ls [.int r]) := fun H locs ls pc hz hP hD hS hd => k_zret hx hb hr hlocks hK hz hP hD hS hd
  generalize MQ below (kQi D cI r [] A) args s 0 0 A = Q at hRet ⊢
  unfold fX5_within at h
  refine lv_iload_n hx hb dX5_within_0 rfl (lv_at hl 0 rfl) ?_
  refine lv_iload_n hx hb dX5_within_1 rfl (lv_at hl 1 rfl) ?_
  refine lv_icmp_lt (tgt := 14) hx hb dX5_within_2 (by decide) (fun c0 => ?_) (fun c0 => ?_)
  · have h := (if_pos c0).symm.trans h
    refine lv_iconst (v := 0) hx hb dX5_within_14 (by decide) ?_
    have h := Option.some.inj h
    subst h
    exact hRet _ _ _ _ kn_bo0 hP hD hS dX5_within_15
  · have h := (if_neg c0).symm.trans h
    refine lv_iload_n hx hb dX5_within_5 rfl (lv_at hl 0 rfl) ?_
    refine lv_iload_n hx hb dX5_within_6 rfl (lv_at hl 2 rfl) ?_
    refine lv_icmp_gt (tgt := 14) hx hb dX5_within_7 (by decide) (fun c0 => ?_) (fun c0 => ?_)
    · have h := (if_pos c0).symm.trans h
      refine lv_iconst (v := 0) hx hb dX5_within_14 (by decide) ?_
      have h := Option.some.inj h
      subst h
      exact hRet _ _ _ _ kn_bo0 hP hD hS dX5_within_15
    · have h := (if_neg c0).symm.trans h
      refine lv_iconst (v := 1) hx hb dX5_within_10 (by decide) ?_
      refine lv_goto (tgt := 15) hx hb dX5_within_11 (by decide) ?_
      have h := Option.some.inj h
      subst h
      exact hRet _ _ _ _ kn_bo1 hP hD hS dX5_within_15
theorem iX4_codeAt_X4 : ∀ w ∈ wsX40, w ∈ wsX4_codeAt := by decide +kernel
def rX4_codeAt : Room := { frames := 1, cells := 0, slots := 0, locals := 22 }
set_option maxHeartbeats 4000000 in
set_option maxRecDepth 100000 in
theorem mX4_codeAt (l : Launch) (D : va_G) (cI : ClassId) (ad : Nat × Nat) (q0 q1 : Nat) (sz : Nat) (s_length : Int32) (s_codes : (Nat → Int32)) (p1 : Int32) (r : Int32) (h : fX4_codeAt s_codes p1 = some r) : Met l yX4_codeAt wsX4_codeAt rX4_codeAt (kPre D cI ad [.ref q0, .int p1] (wP cI q0 q1 s_length s_codes) sz) (kQi D cI r (wP cI q0 q1 s_length s_codes) (va_A (wP cI q0 q1 s_length s_codes) sz)) 0 0 (va_A (wP cI q0 q1 s_length s_codes) sz) := by
  refine kStart (cc := cX4_codeAt) (maxL := 2) (ret := (some .int)) (Qc := fun A => kQi D cI r (wP cI q0 q1 s_length s_codes) A) (by decide) rfl (Nat.le_of_ble_eq_true rfl) ?_
  intro p e s m args below meth c A ls hx hb hr hts hown hlocks hin hml hN hST hA hS hP hK hD hl
  have hown : s.vm.findClass RX4 = some m.cls := hown
  have hl : lv_has ls 2 [(0, .ref q0), (1, .int p1)] := hl
  have hRet : ∀ (H : Heap) (locs : List Loc) (ls : Array Slot) (pc : Nat), va_P D vwCl (wP cI q0 q1 s_length s_codes) H → va_D A (wP cI q0 q1 s_length s_codes) → va_S A s.heap H locs → decode cX4_codeAt pc = .ok (.ireturn, 1) → W p l e rX4_codeAt s m args below meth c H locs 0 0 (MQ below (kQi D cI r (wP cI q0 q1 s_length s_codes) A) args s 0 0 A) (F0 m pc ls [.int r]) := fun H locs ls pc hP hD hS hd => k_iret hx hb hr hlocks hK hP hD hS hd
  generalize MQ below (kQi D cI r (wP cI q0 q1 s_length s_codes) A) args s 0 0 A = Q at hRet ⊢
  unfold fX4_codeAt at h
  refine lv_iload_n hx hb dX4_codeAt_0 rfl (lv_at hl 1 rfl) ?_
  refine lv_iconst (v := 0) hx hb dX4_codeAt_1 (by decide) ?_
  refine lv_aload_n hx hb dX4_codeAt_2 rfl (lv_at hl 0 rfl) ?_
  refine va_get (D := D) (ci := 4) (v := .ref q1) (C := RX4) (T := TX4) (N := 2) hx hb hts iX4_codeAt_X4 hown hK hP 0 rfl rfl 0 (by decide) (hts (.fieldLink RX4 9 "ClappedWrong$Page" "codes" "[I") (by decide +kernel)) (fun _ h9 => h9) rfl dX4_codeAt_3 ?_
  refine va_alen (v := 36) hx hb hK hP 1 0 rfl rfl rfl dX4_codeAt_6 ?_
  refine lv_iconst (v := 1) hx hb dX4_codeAt_7 (by decide) ?_
  refine lv_isub hx hb dX4_codeAt_8 ?_
  obtain ⟨u1, hu1, h⟩ := k_bs h
  refine k_ci (r := u1) (k2 := 0) (n2 := 0) (wc := []) (wc' := []) (w2 := (wP cI q0 q1 s_length s_codes)) (va_runSN (host := "ClappedWrong") (As := [.int p1, .int 0, .int (36 - 1)]) (rest := []) ⟨hx, hb, hml, hown, hts⟩ (mX5_within l D cI ad _ p1 0 (36 - 1) u1 hu1) ⟨va_cnB 3 hts gX4_codeAt_X5_within_n19 rfl rfl rfl (hN.m RX4 19 yX5_within "ClappedWrong" (by decide +kernel)) (hts (.initialized RX5) (by decide +kernel)) (by decide +kernel) ⟨Nat.le_of_ble_eq_true rfl, Nat.le_of_ble_eq_true rfl⟩, hts (.static yX5_within) (by decide +kernel), trivial⟩ (k_pres hN hST hA hK hP hD hS (isC := []) rfl rfl) rfl rfl hl.1 rfl (lv_room (Nat.le_of_ble_eq_true rfl)) dX4_codeAt_9 ⟨Nat.le_of_ble_eq_true rfl, Nat.le_of_ble_eq_true rfl⟩) hP hD hS hA [] rfl rfl rfl rfl rfl (fun H locs hP hD hS => ?_)
  refine lv_if_eq (tgt := 24) hx hb dX4_codeAt_12 (by decide) (fun c0 => ?_) (fun c0 => ?_)
  · have h := (if_pos c0).symm.trans h
    refine lv_iconst (v := 0) hx hb dX4_codeAt_24 (by decide) ?_
    have h := Option.some.inj h
    subst h
    exact hRet _ _ _ _ hP hD hS dX4_codeAt_25
  · have h := (if_neg c0).symm.trans h
    refine lv_aload_n hx hb dX4_codeAt_15 rfl (lv_at hl 0 rfl) ?_
    refine va_get (D := D) (ci := 4) (v := .ref q1) (C := RX4) (T := TX4) (N := 2) hx hb hts iX4_codeAt_X4 hown hK hP 0 rfl rfl 0 (by decide) (hts (.fieldLink RX4 9 "ClappedWrong$Page" "codes" "[I") (by decide +kernel)) (fun _ h9 => h9) rfl dX4_codeAt_16 ?_
    refine lv_iload_n hx hb dX4_codeAt_19 rfl (lv_at hl 1 rfl) ?_
    refine k_iald hx hb hK hP 1 rfl dX4_codeAt_20 h (fun v2 h => ?_)
    refine lv_goto (tgt := 25) hx hb dX4_codeAt_21 (by decide) ?_
    have h := Option.some.inj h
    subst h
    exact hRet _ _ _ _ hP hD hS dX4_codeAt_25
def rJ0_isLatin1_aae02 : Room := { frames := 0, cells := 0, slots := 0, locals := 0 }
set_option maxHeartbeats 4000000 in
set_option maxRecDepth 100000 in
theorem mJ0_isLatin1_aae02 (l : Launch) (D : va_G) (cI : ClassId) (ad : Nat × Nat) (sz : Nat)  (r : Int32) (h : fJ0_isLatin1_aae02 = some r) : Met l yJ0_isLatin1_aae02 wsJ0_isLatin1_aae02 rJ0_isLatin1_aae02 (kPre D cI ad [.ref ad.1] [] sz) (kQi D cI r [] (va_A [] sz)) 0 0 (va_A [] sz) := by
  refine kStart (cc := cJ0_isLatin1_aae02) (maxL := 1) (ret := (some .boolean)) (Qc := fun A => kQi D cI r [] A) (by decide) rfl (Nat.le_of_ble_eq_true rfl) ?_
  intro p e s m args below meth c A ls hx hb hr hts hown hlocks hin hml hN hST hA hS hP hK hD hl
  have hown : s.vm.findClass RJ0 = some m.cls := hown
  have hl : lv_has ls 1 [(0, .ref ad.1)] := hl
  have hRet : ∀ (H : Heap) (locs : List Loc) (ls : Array Slot) (pc : Nat), narrow .boolean (.int r) = .int r → va_P D vwCl [] H → va_D A [] → va_S A s.heap H locs → decode cJ0_isLatin1_aae02 pc = .ok (.ireturn, 1) → W p l e rJ0_isLatin1_aae02 s m args below meth c H locs 0 0 (MQ below (kQi D cI r [] A) args s 0 0 A) (F0 m pc ls [.int r]) := fun H locs ls pc hz hP hD hS hd => k_zret hx hb hr hlocks hK hz hP hD hS hd
  generalize MQ below (kQi D cI r [] A) args s 0 0 A = Q at hRet ⊢
  unfold fJ0_isLatin1_aae02 at h
  refine va_gets hx hb hST.2.2 hS hown (hts (.fieldLink RJ0 38 "java/lang/String" "COMPACT_STRINGS" "Z") (by decide +kernel)) (fun _ h9 => h9) dJ0_isLatin1_aae02_0 ?_
  refine lv_if_eq (tgt := 17) hx hb dJ0_isLatin1_aae02_3 (by decide) (fun c0 => absurd c0 (by decide)) (fun _ => ?_)
  refine lv_aload_n hx hb dJ0_isLatin1_aae02_6 rfl (lv_at hl 0 rfl) ?_
  refine vk_getf hx hb hST.coder hS hown (hts (.fieldLink RJ0 15 "java/lang/String" "coder" "B") (by decide +kernel)) (fun _ h9 => h9) dJ0_isLatin1_aae02_7 ?_
  refine lv_if_ne (tgt := 17) hx hb dJ0_isLatin1_aae02_10 (by decide) (fun c0 => absurd (by decide) c0) (fun _ => ?_)
  refine lv_iconst (v := 1) hx hb dJ0_isLatin1_aae02_13 (by decide) ?_
  refine lv_goto (tgt := 18) hx hb dJ0_isLatin1_aae02_14 (by decide) ?_
  have h := Option.some.inj h
  subst h
  exact hRet _ _ _ _ kn_bo1 hP hD hS dJ0_isLatin1_aae02_18
def rJ0_coder_7d493 : Room := { frames := 0, cells := 0, slots := 0, locals := 0 }
set_option maxHeartbeats 4000000 in
set_option maxRecDepth 100000 in
theorem mJ0_coder_7d493 (l : Launch) (D : va_G) (cI : ClassId) (ad : Nat × Nat) (sz : Nat)  (r : Int32) (h : fJ0_coder_7d493 = some r) : Met l yJ0_coder_7d493 wsJ0_coder_7d493 rJ0_coder_7d493 (kPre D cI ad [.ref ad.1] [] sz) (kQi D cI r [] (va_A [] sz)) 0 0 (va_A [] sz) := by
  refine kStart (cc := cJ0_coder_7d493) (maxL := 1) (ret := (some .byte)) (Qc := fun A => kQi D cI r [] A) (by decide) rfl (Nat.le_of_ble_eq_true rfl) ?_
  intro p e s m args below meth c A ls hx hb hr hts hown hlocks hin hml hN hST hA hS hP hK hD hl
  have hown : s.vm.findClass RJ0 = some m.cls := hown
  have hl : lv_has ls 1 [(0, .ref ad.1)] := hl
  have hRet : ∀ (H : Heap) (locs : List Loc) (ls : Array Slot) (pc : Nat), narrow .byte (.int r) = .int r → va_P D vwCl [] H → va_D A [] → va_S A s.heap H locs → decode cJ0_coder_7d493 pc = .ok (.ireturn, 1) → W p l e rJ0_coder_7d493 s m args below meth c H locs 0 0 (MQ below (kQi D cI r [] A) args s 0 0 A) (F0 m pc ls [.int r]) := fun H locs ls pc hz hP hD hS hd => k_zret hx hb hr hlocks hK hz hP hD hS hd
  generalize MQ below (kQi D cI r [] A) args s 0 0 A = Q at hRet ⊢
  unfold fJ0_coder_7d493 at h
  refine va_gets hx hb hST.2.2 hS hown (hts (.fieldLink RJ0 38 "java/lang/String" "COMPACT_STRINGS" "Z") (by decide +kernel)) (fun _ h9 => h9) dJ0_coder_7d493_0 ?_
  refine lv_if_eq (tgt := 13) hx hb dJ0_coder_7d493_3 (by decide) (fun c0 => absurd c0 (by decide)) (fun _ => ?_)
  refine lv_aload_n hx hb dJ0_coder_7d493_6 rfl (lv_at hl 0 rfl) ?_
  refine vk_getf hx hb hST.coder hS hown (hts (.fieldLink RJ0 15 "java/lang/String" "coder" "B") (by decide +kernel)) (fun _ h9 => h9) dJ0_coder_7d493_7 ?_
  refine lv_goto (tgt := 14) hx hb dJ0_coder_7d493_10 (by decide) ?_
  have h := Option.some.inj h
  subst h
  exact hRet _ _ _ _ kn_by0 hP hD hS dJ0_coder_7d493_14
def rJ0_length_8abf5 : Room := { frames := 1, cells := 0, slots := 0, locals := 20 }
set_option maxHeartbeats 4000000 in
set_option maxRecDepth 100000 in
theorem mJ0_length_8abf5 (l : Launch) (D : va_G) (cI : ClassId) (ad : Nat × Nat) (sz : Nat)  (r : Int32) (h : fJ0_length_8abf5 = some r) : Met l yJ0_length_8abf5 wsJ0_length_8abf5 rJ0_length_8abf5 (kPre D cI ad [.ref ad.1] [] sz) (kQi D cI r [] (va_A [] sz)) 0 0 (va_A [] sz) := by
  refine kStart (cc := cJ0_length_8abf5) (maxL := 1) (ret := (some .int)) (Qc := fun A => kQi D cI r [] A) (by decide) rfl (Nat.le_of_ble_eq_true rfl) ?_
  intro p e s m args below meth c A ls hx hb hr hts hown hlocks hin hml hN hST hA hS hP hK hD hl
  have hown : s.vm.findClass RJ0 = some m.cls := hown
  have hl : lv_has ls 1 [(0, .ref ad.1)] := hl
  have hRet : ∀ (H : Heap) (locs : List Loc) (ls : Array Slot) (pc : Nat), va_P D vwCl [] H → va_D A [] → va_S A s.heap H locs → decode cJ0_length_8abf5 pc = .ok (.ireturn, 1) → W p l e rJ0_length_8abf5 s m args below meth c H locs 0 0 (MQ below (kQi D cI r [] A) args s 0 0 A) (F0 m pc ls [.int r]) := fun H locs ls pc hP hD hS hd => k_iret hx hb hr hlocks hK hP hD hS hd
  generalize MQ below (kQi D cI r [] A) args s 0 0 A = Q at hRet ⊢
  unfold fJ0_length_8abf5 at h
  refine lv_aload_n hx hb dJ0_length_8abf5_0 rfl (lv_at hl 0 rfl) ?_
  refine vk_getf hx hb hST.value hS hown (hts (.fieldLink RJ0 9 "java/lang/String" "value" "[B") (by decide +kernel)) (fun _ h9 => h9) dJ0_length_8abf5_1 ?_
  refine va_tlen (v := 5) hx hb hST.bytes hS rfl dJ0_length_8abf5_4 ?_
  refine lv_aload_n hx hb dJ0_length_8abf5_5 rfl (lv_at hl 0 rfl) ?_
  refine k_ci (r := 0) (k2 := 0) (n2 := 0) (wc := []) (wc' := []) (w2 := []) (va_runV (C := RJ0) (As := []) (rest := [.int 5]) ⟨hx, hb, hml, hown, hts⟩ (mJ0_coder_7d493 l D cI ad _ 0 rfl) (cwV 0 hts gJ0_length_8abf5_J0_coder_7d493 rfl rfl rfl (by decide +kernel) ⟨Nat.le_of_ble_eq_true rfl, Nat.le_of_ble_eq_true rfl⟩) (k_pret hN hST hA hK hP hD hS (isC := []) rfl rfl) rfl rfl hl.1 rfl (lv_room (Nat.le_of_ble_eq_true rfl)) dJ0_length_8abf5_6 ⟨Nat.le_of_ble_eq_true rfl, Nat.le_of_ble_eq_true rfl⟩) hP hD hS hA [] rfl rfl rfl rfl rfl (fun H locs hP hD hS => ?_)
  refine lv_ishr hx hb dJ0_length_8abf5_9 ?_
  have h := Option.some.inj h
  subst h
  exact hRet _ _ _ _ hP hD hS dJ0_length_8abf5_10
def rJ1_canEncode_9a6ad : Room := { frames := 0, cells := 0, slots := 0, locals := 0 }
set_option maxHeartbeats 4000000 in
set_option maxRecDepth 100000 in
theorem mJ1_canEncode_9a6ad (l : Launch) (D : va_G) (cI : ClassId) (ad : Nat × Nat) (sz : Nat) (p0 : Int32) (r : Int32) (h : fJ1_canEncode_9a6ad p0 = some r) : Met l yJ1_canEncode_9a6ad wsJ1_canEncode_9a6ad rJ1_canEncode_9a6ad (kPre D cI ad [.int p0] [] sz) (kQi D cI r [] (va_A [] sz)) 0 0 (va_A [] sz) := by
  refine kStart (cc := cJ1_canEncode_9a6ad) (maxL := 1) (ret := (some .boolean)) (Qc := fun A => kQi D cI r [] A) (by decide) rfl (Nat.le_of_ble_eq_true rfl) ?_
  intro p e s m args below meth c A ls hx hb hr hts hown hlocks hin hml hN hST hA hS hP hK hD hl
  have hown : s.vm.findClass RJ1 = some m.cls := hown
  have hl : lv_has ls 1 [(0, .int p0)] := hl
  have hRet : ∀ (H : Heap) (locs : List Loc) (ls : Array Slot) (pc : Nat), narrow .boolean (.int r) = .int r → va_P D vwCl [] H → va_D A [] → va_S A s.heap H locs → decode cJ1_canEncode_9a6ad pc = .ok (.ireturn, 1) → W p l e rJ1_canEncode_9a6ad s m args below meth c H locs 0 0 (MQ below (kQi D cI r [] A) args s 0 0 A) (F0 m pc ls [.int r]) := fun H locs ls pc hz hP hD hS hd => k_zret hx hb hr hlocks hK hz hP hD hS hd
  generalize MQ below (kQi D cI r [] A) args s 0 0 A = Q at hRet ⊢
  unfold fJ1_canEncode_9a6ad at h
  refine lv_iload_n hx hb dJ1_canEncode_9a6ad_0 rfl (lv_at hl 0 rfl) ?_
  refine lv_if_lt (tgt := 15) hx hb dJ1_canEncode_9a6ad_1 (by decide) (fun c0 => ?_) (fun c0 => ?_)
  · have h := (if_pos c0).symm.trans h
    refine lv_iconst (v := 0) hx hb dJ1_canEncode_9a6ad_15 (by decide) ?_
    have h := Option.some.inj h
    subst h
    exact hRet _ _ _ _ kn_bo0 hP hD hS dJ1_canEncode_9a6ad_16
  · have h := (if_neg c0).symm.trans h
    refine lv_iload_n hx hb dJ1_canEncode_9a6ad_4 rfl (lv_at hl 0 rfl) ?_
    refine lv_sipush (v := 255) hx hb dJ1_canEncode_9a6ad_5 (by decide) ?_
    refine lv_icmp_gt (tgt := 15) hx hb dJ1_canEncode_9a6ad_8 (by decide) (fun c0 => ?_) (fun c0 => ?_)
    · have h := (if_pos c0).symm.trans h
      refine lv_iconst (v := 0) hx hb dJ1_canEncode_9a6ad_15 (by decide) ?_
      have h := Option.some.inj h
      subst h
      exact hRet _ _ _ _ kn_bo0 hP hD hS dJ1_canEncode_9a6ad_16
    · have h := (if_neg c0).symm.trans h
      refine lv_iconst (v := 1) hx hb dJ1_canEncode_9a6ad_11 (by decide) ?_
      refine lv_goto (tgt := 16) hx hb dJ1_canEncode_9a6ad_12 (by decide) ?_
      have h := Option.some.inj h
      subst h
      exact hRet _ _ _ _ kn_bo1 hP hD hS dJ1_canEncode_9a6ad_16
def rJ1_indexOfChar_4cfef : Room := { frames := 0, cells := 0, slots := 0, locals := 0 }
set_option maxHeartbeats 4000000 in
set_option maxRecDepth 100000 in
theorem mJ1_indexOfChar_4cfef (l : Launch) (D : va_G) (cI : ClassId) (ad : Nat × Nat) (sz : Nat) (p1 : Int32) (p2 : Int32) (p3 : Int32) (r : Int32) (h : fJ1_indexOfChar_4cfef p1 p2 p3 = some r) : Met l yJ1_indexOfChar_4cfef wsJ1_indexOfChar_4cfef rJ1_indexOfChar_4cfef (kPre D cI ad [.ref ad.2, .int p1, .int p2, .int p3] [] sz) (kQi D cI r [] (va_A [] sz)) 0 0 (va_A [] sz) := by
  refine kStart (cc := cJ1_indexOfChar_4cfef) (maxL := 6) (ret := (some .int)) (Qc := fun A => kQi D cI r [] A) (by decide) rfl (Nat.le_of_ble_eq_true rfl) ?_
  intro p e s m args below meth c A ls hx hb hr hts hown hlocks hin hml hN hST hA hS hP hK hD hl
  have hown : s.vm.findClass RJ1 = some m.cls := hown
  have hl : lv_has ls 6 [(0, .ref ad.2), (1, .int p1), (2, .int p2), (3, .int p3)] := hl
  have hRet : ∀ (H : Heap) (locs : List Loc) (ls : Array Slot) (pc : Nat), va_P D vwCl [] H → va_D A [] → va_S A s.heap H locs → decode cJ1_indexOfChar_4cfef pc = .ok (.ireturn, 1) → W p l e rJ1_indexOfChar_4cfef s m args below meth c H locs 0 0 (MQ below (kQi D cI r [] A) args s 0 0 A) (F0 m pc ls [.int r]) := fun H locs ls pc hP hD hS hd => k_iret hx hb hr hlocks hK hP hD hS hd
  generalize MQ below (kQi D cI r [] A) args s 0 0 A = Q at hRet ⊢
  unfold fJ1_indexOfChar_4cfef at h
  refine lv_iload_n hx hb dJ1_indexOfChar_4cfef_0 rfl (lv_at hl 1 rfl) ?_
  refine lv_i2b hx hb dJ1_indexOfChar_4cfef_1 rfl ?_
  refine lv_istore (lv' := [(4, .int (Int32.toInt8 p1).toInt32), (0, .ref ad.2), (1, .int p1), (2, .int p2), (3, .int p3)]) hx hb dJ1_indexOfChar_4cfef_2 hl (by decide) rfl (fun ls hl => ?_)
  refine lv_iload_n hx hb dJ1_indexOfChar_4cfef_4 rfl (lv_at hl 3 rfl) ?_
  refine lv_istore (lv' := [(5, .int p2), (4, .int (Int32.toInt8 p1).toInt32), (0, .ref ad.2), (1, .int p1), (2, .int p2), (3, .int p3)]) hx hb dJ1_indexOfChar_4cfef_5 hl (by decide) rfl (fun ls hl => ?_)
  refine kIter_fix (fun (z1 : Int32) => ∀ (H : Heap) (locs : List Loc) (ls : Array Slot), va_P D vwCl [] H → va_D A [] → va_S A s.heap H locs → lv_has ls 6 [(0, .ref ad.2), (1, .int p1), (2, .int p2), (3, .int p3), (4, .int (Int32.toInt8 p1).toInt32), (5, .int z1)] → W p l e rJ1_indexOfChar_4cfef s m args below meth c H locs 0 0 Q (F0 m 7 ls [])) ?_ _ _ h _ _ _ hP hD hS (lv_sub hl [2, 3, 4, 5, 1, 0] rfl)
  intro rc1 ih1 z1 h H locs ls hP hD hS hl
  unfold fJ1_indexOfChar_4cfef_L1 at h
  refine lv_iload hx hb dJ1_indexOfChar_4cfef_7 (lv_at hl 5 rfl) ?_
  refine lv_iload_n hx hb dJ1_indexOfChar_4cfef_9 rfl (lv_at hl 3 rfl) ?_
  refine lv_icmp_ge (tgt := 31) hx hb dJ1_indexOfChar_4cfef_10 (by decide) (fun c0 => ?_) (fun c0 => ?_)
  · have h := (if_pos c0).symm.trans h
    refine lv_iconst (v := (-1)) hx hb dJ1_indexOfChar_4cfef_31 (by decide) ?_
    have h := Option.some.inj h
    subst h
    exact hRet _ _ _ _ hP hD hS dJ1_indexOfChar_4cfef_32
  · have h := (if_neg c0).symm.trans h
    refine lv_aload_n hx hb dJ1_indexOfChar_4cfef_13 rfl (lv_at hl 0 rfl) ?_
    refine lv_iload hx hb dJ1_indexOfChar_4cfef_14 (lv_at hl 5 rfl) ?_
    refine k_bald hx hb hST hS dJ1_indexOfChar_4cfef_16 h (fun v2 h => ?_)
    refine lv_iload hx hb dJ1_indexOfChar_4cfef_17 (lv_at hl 4 rfl) ?_
    refine lv_icmp_ne (tgt := 25) hx hb dJ1_indexOfChar_4cfef_19 (by decide) (fun c0 => ?_) (fun c0 => ?_)
    · have h := (if_neg c0).symm.trans h
      refine lv_iinc (v := (z1 + 1)) (lv' := [(5, .int (z1 + 1)), (0, .ref ad.2), (1, .int p1), (2, .int p2), (3, .int p3), (4, .int (Int32.toInt8 p1).toInt32)]) hx hb dJ1_indexOfChar_4cfef_25 hl (k := 5) rfl rfl (by decide) rfl (fun ls hl => ?_)
      refine lv_goto (tgt := 7) hx hb dJ1_indexOfChar_4cfef_28 (by decide) ?_
      exact ih1 _ h _ _ _ hP hD hS (lv_sub hl [1, 2, 3, 4, 5, 0] rfl)
    · have h := (if_pos c0).symm.trans h
      refine lv_iload hx hb dJ1_indexOfChar_4cfef_22 (lv_at hl 5 rfl) ?_
      have h := Option.some.inj h
      subst h
      exact hRet _ _ _ _ hP hD hS dJ1_indexOfChar_4cfef_24
def rJ1_indexOf_4cfef : Room := { frames := 1, cells := 0, slots := 0, locals := 25 }
set_option maxHeartbeats 4000000 in
set_option maxRecDepth 100000 in
theorem mJ1_indexOf_4cfef (l : Launch) (D : va_G) (cI : ClassId) (ad : Nat × Nat) (sz : Nat) (p1 : Int32) (p2 : Int32) (p3 : Int32) (r : Int32) (h : fJ1_indexOf_4cfef p1 p2 p3 = some r) : Met l yJ1_indexOf_4cfef wsJ1_indexOf_4cfef rJ1_indexOf_4cfef (kPre D cI ad [.ref ad.2, .int p1, .int p2, .int p3] [] sz) (kQi D cI r [] (va_A [] sz)) 0 0 (va_A [] sz) := by
  refine kStart (cc := cJ1_indexOf_4cfef) (maxL := 4) (ret := (some .int)) (Qc := fun A => kQi D cI r [] A) (by decide) rfl (Nat.le_of_ble_eq_true rfl) ?_
  intro p e s m args below meth c A ls hx hb hr hts hown hlocks hin hml hN hST hA hS hP hK hD hl
  have hown : s.vm.findClass RJ1 = some m.cls := hown
  have hl : lv_has ls 4 [(0, .ref ad.2), (1, .int p1), (2, .int p2), (3, .int p3)] := hl
  have hRet : ∀ (H : Heap) (locs : List Loc) (ls : Array Slot) (pc : Nat), va_P D vwCl [] H → va_D A [] → va_S A s.heap H locs → decode cJ1_indexOf_4cfef pc = .ok (.ireturn, 1) → W p l e rJ1_indexOf_4cfef s m args below meth c H locs 0 0 (MQ below (kQi D cI r [] A) args s 0 0 A) (F0 m pc ls [.int r]) := fun H locs ls pc hP hD hS hd => k_iret hx hb hr hlocks hK hP hD hS hd
  generalize MQ below (kQi D cI r [] A) args s 0 0 A = Q at hRet ⊢
  unfold fJ1_indexOf_4cfef at h
  refine lv_iload_n hx hb dJ1_indexOf_4cfef_0 rfl (lv_at hl 1 rfl) ?_
  obtain ⟨u1, hu1, h⟩ := k_bs h
  refine k_ci (r := u1) (k2 := 0) (n2 := 0) (wc := []) (wc' := []) (w2 := []) (va_runS (As := [.int p1]) (rest := []) ⟨hx, hb, hml, hown, hts⟩ (mJ1_canEncode_9a6ad l D cI ad _ p1 u1 hu1) (va_cwS 1 hts gJ1_indexOf_4cfef_J1_canEncode_9a6ad rfl rfl rfl (by decide +kernel) ⟨Nat.le_of_ble_eq_true rfl, Nat.le_of_ble_eq_true rfl⟩) (k_pres hN hST hA hK hP hD hS (isC := []) rfl rfl) rfl rfl hl.1 rfl (lv_room (Nat.le_of_ble_eq_true rfl)) dJ1_indexOf_4cfef_1 ⟨Nat.le_of_ble_eq_true rfl, Nat.le_of_ble_eq_true rfl⟩) hP hD hS hA [] rfl rfl rfl rfl rfl (fun H locs hP hD hS => ?_)
  refine lv_if_ne (tgt := 9) hx hb dJ1_indexOf_4cfef_4 (by decide) (fun c0 => ?_) (fun c0 => ?_)
  · have h := (if_neg c0).symm.trans h
    refine lv_iload_n hx hb dJ1_indexOf_4cfef_9 rfl (lv_at hl 2 rfl) ?_
    refine lv_iconst (v := 0) hx hb dJ1_indexOf_4cfef_10 (by decide) ?_
    refine va_mmax hx hb (hml.trans hl.1.symm) hown (hts (.methodLink RJ1 92 Lib.Math.max.name) (by decide +kernel)) (hts (.static Lib.Math.max.name) (by decide +kernel)) (hts (.initialized "java/lang/Math") (by decide +kernel)) (hts (.code Lib.Math.max.name Lib.Math.max.code 2 (some .int)) (by decide +kernel)) (Nat.le_of_ble_eq_true rfl) (Nat.le_of_ble_eq_true rfl) (Nat.le_of_ble_eq_true rfl) (Nat.le_of_ble_eq_true rfl) dJ1_indexOf_4cfef_11 ?_
    refine lv_istore_n (lv' := [(2, .int (if p2 < 0 then 0 else p2)), (0, .ref ad.2), (1, .int p1), (3, .int p3)]) hx hb dJ1_indexOf_4cfef_14 rfl hl (by decide) rfl (fun ls hl => ?_)
    refine lv_iload_n hx hb dJ1_indexOf_4cfef_15 rfl (lv_at hl 3 rfl) ?_
    refine lv_aload_n hx hb dJ1_indexOf_4cfef_16 rfl (lv_at hl 1 rfl) ?_
    refine va_tlen (v := 5) hx hb hST.bytes hS rfl dJ1_indexOf_4cfef_17 ?_
    refine va_mmin hx hb (hml.trans hl.1.symm) hown (hts (.methodLink RJ1 38 Lib.Math.min.name) (by decide +kernel)) (hts (.static Lib.Math.min.name) (by decide +kernel)) (hts (.initialized "java/lang/Math") (by decide +kernel)) (hts (.code Lib.Math.min.name Lib.Math.min.code 2 (some .int)) (by decide +kernel)) (Nat.le_of_ble_eq_true rfl) (Nat.le_of_ble_eq_true rfl) (Nat.le_of_ble_eq_true rfl) (Nat.le_of_ble_eq_true rfl) dJ1_indexOf_4cfef_18 ?_
    refine lv_istore_n (lv' := [(3, .int (if 5 < p3 then 5 else p3)), (2, .int (if p2 < 0 then 0 else p2)), (0, .ref ad.2), (1, .int p1)]) hx hb dJ1_indexOf_4cfef_21 rfl hl (by decide) rfl (fun ls hl => ?_)
    refine lv_iload_n hx hb dJ1_indexOf_4cfef_22 rfl (lv_at hl 1 rfl) ?_
    refine lv_iload_n hx hb dJ1_indexOf_4cfef_23 rfl (lv_at hl 0 rfl) ?_
    refine lv_icmp_lt (tgt := 29) hx hb dJ1_indexOf_4cfef_24 (by decide) (fun c0 => ?_) (fun c0 => ?_)
    · have h := (if_pos c0).symm.trans h
      refine lv_aload_n hx hb dJ1_indexOf_4cfef_29 rfl (lv_at hl 2 rfl) ?_
      refine lv_iload_n hx hb dJ1_indexOf_4cfef_30 rfl (lv_at hl 3 rfl) ?_
      refine lv_iload_n hx hb dJ1_indexOf_4cfef_31 rfl (lv_at hl 1 rfl) ?_
      refine lv_iload_n hx hb dJ1_indexOf_4cfef_32 rfl (lv_at hl 0 rfl) ?_
      obtain ⟨u2, hu2, h⟩ := k_bs h
      refine k_ci (r := u2) (k2 := 0) (n2 := 0) (wc := []) (wc' := []) (w2 := []) (va_runS (As := [.ref ad.2, .int p1, .int (if p2 < 0 then 0 else p2), .int (if 5 < p3 then 5 else p3)]) (rest := []) ⟨hx, hb, hml, hown, hts⟩ (mJ1_indexOfChar_4cfef l D cI ad _ p1 (if p2 < 0 then 0 else p2) (if 5 < p3 then 5 else p3) u2 hu2) (va_cwS 4 hts gJ1_indexOf_4cfef_J1_indexOfChar_4cfef rfl rfl rfl (by decide +kernel) ⟨Nat.le_of_ble_eq_true rfl, Nat.le_of_ble_eq_true rfl⟩) (k_pres hN hST hA hK hP hD hS (isC := []) rfl rfl) rfl rfl hl.1 rfl (lv_room (Nat.le_of_ble_eq_true rfl)) dJ1_indexOf_4cfef_33 ⟨Nat.le_of_ble_eq_true rfl, Nat.le_of_ble_eq_true rfl⟩) hP hD hS hA [] rfl rfl rfl rfl rfl (fun H locs hP hD hS => ?_)
      have h := Option.some.inj h
      subst h
      exact hRet _ _ _ _ hP hD hS dJ1_indexOf_4cfef_36
    · have h := (if_neg c0).symm.trans h
      refine lv_iconst (v := (-1)) hx hb dJ1_indexOf_4cfef_27 (by decide) ?_
      have h := Option.some.inj h
      subst h
      exact hRet _ _ _ _ hP hD hS dJ1_indexOf_4cfef_28
  · have h := (if_pos c0).symm.trans h
    refine lv_iconst (v := (-1)) hx hb dJ1_indexOf_4cfef_7 (by decide) ?_
    have h := Option.some.inj h
    subst h
    exact hRet _ _ _ _ hP hD hS dJ1_indexOf_4cfef_8
def rJ0_indexOf_7cf53 : Room := { frames := 2, cells := 0, slots := 0, locals := 48 }
set_option maxHeartbeats 4000000 in
set_option maxRecDepth 100000 in
theorem mJ0_indexOf_7cf53 (l : Launch) (D : va_G) (cI : ClassId) (ad : Nat × Nat) (sz : Nat) (p1 : Int32) (p2 : Int32) (r : Int32) (h : fJ0_indexOf_7cf53 p1 p2 = some r) : Met l yJ0_indexOf_7cf53 wsJ0_indexOf_7cf53 rJ0_indexOf_7cf53 (kPre D cI ad [.ref ad.1, .int p1, .int p2] [] sz) (kQi D cI r [] (va_A [] sz)) 0 0 (va_A [] sz) := by
  refine kStart (cc := cJ0_indexOf_7cf53) (maxL := 3) (ret := (some .int)) (Qc := fun A => kQi D cI r [] A) (by decide) rfl (Nat.le_of_ble_eq_true rfl) ?_
  intro p e s m args below meth c A ls hx hb hr hts hown hlocks hin hml hN hST hA hS hP hK hD hl
  have hown : s.vm.findClass RJ0 = some m.cls := hown
  have hl : lv_has ls 3 [(0, .ref ad.1), (1, .int p1), (2, .int p2)] := hl
  have hRet : ∀ (H : Heap) (locs : List Loc) (ls : Array Slot) (pc : Nat), va_P D vwCl [] H → va_D A [] → va_S A s.heap H locs → decode cJ0_indexOf_7cf53 pc = .ok (.ireturn, 1) → W p l e rJ0_indexOf_7cf53 s m args below meth c H locs 0 0 (MQ below (kQi D cI r [] A) args s 0 0 A) (F0 m pc ls [.int r]) := fun H locs ls pc hP hD hS hd => k_iret hx hb hr hlocks hK hP hD hS hd
  generalize MQ below (kQi D cI r [] A) args s 0 0 A = Q at hRet ⊢
  unfold fJ0_indexOf_7cf53 at h
  refine lv_aload_n hx hb dJ0_indexOf_7cf53_0 rfl (lv_at hl 0 rfl) ?_
  refine k_ci (r := 1) (k2 := 0) (n2 := 0) (wc := []) (wc' := []) (w2 := []) (va_runV (C := RJ0) (As := []) (rest := []) ⟨hx, hb, hml, hown, hts⟩ (mJ0_isLatin1_aae02 l D cI ad _ 1 rfl) (cwV 0 hts gJ0_indexOf_7cf53_J0_isLatin1_aae02 rfl rfl rfl (by decide +kernel) ⟨Nat.le_of_ble_eq_true rfl, Nat.le_of_ble_eq_true rfl⟩) (k_pret hN hST hA hK hP hD hS (isC := []) rfl rfl) rfl rfl hl.1 rfl (lv_room (Nat.le_of_ble_eq_true rfl)) dJ0_indexOf_7cf53_1 ⟨Nat.le_of_ble_eq_true rfl, Nat.le_of_ble_eq_true rfl⟩) hP hD hS hA [] rfl rfl rfl rfl rfl (fun H locs hP hD hS => ?_)
  refine lv_if_eq (tgt := 23) hx hb dJ0_indexOf_7cf53_4 (by decide) (fun c0 => absurd c0 (by decide)) (fun _ => ?_)
  refine lv_aload_n hx hb dJ0_indexOf_7cf53_7 rfl (lv_at hl 0 rfl) ?_
  refine vk_getf hx hb hST.value hS hown (hts (.fieldLink RJ0 9 "java/lang/String" "value" "[B") (by decide +kernel)) (fun _ h9 => h9) dJ0_indexOf_7cf53_8 ?_
  refine lv_iload_n hx hb dJ0_indexOf_7cf53_11 rfl (lv_at hl 1 rfl) ?_
  refine lv_iload_n hx hb dJ0_indexOf_7cf53_12 rfl (lv_at hl 2 rfl) ?_
  refine lv_aload_n hx hb dJ0_indexOf_7cf53_13 rfl (lv_at hl 0 rfl) ?_
  refine k_ci (r := ((5 : Int32) >>> ((0 : Int32) &&& 31))) (k2 := 0) (n2 := 0) (wc := []) (wc' := []) (w2 := []) (va_runV (C := RJ0) (As := []) (rest := [.int p2, .int p1, .ref ad.2]) ⟨hx, hb, hml, hown, hts⟩ (mJ0_length_8abf5 l D cI ad _ ((5 : Int32) >>> ((0 : Int32) &&& 31)) rfl) (cwV 0 hts gJ0_indexOf_7cf53_J0_length_8abf5 rfl rfl rfl (by decide +kernel) ⟨Nat.le_of_ble_eq_true rfl, Nat.le_of_ble_eq_true rfl⟩) (k_pret hN hST hA hK hP hD hS (isC := []) rfl rfl) rfl rfl hl.1 rfl (lv_room (Nat.le_of_ble_eq_true rfl)) dJ0_indexOf_7cf53_14 ⟨Nat.le_of_ble_eq_true rfl, Nat.le_of_ble_eq_true rfl⟩) hP hD hS hA [] rfl rfl rfl rfl rfl (fun H locs hP hD hS => ?_)
  obtain ⟨u3, hu3, h⟩ := k_bs h
  refine k_ci (r := u3) (k2 := 0) (n2 := 0) (wc := []) (wc' := []) (w2 := []) (va_runS (As := [.ref ad.2, .int p1, .int p2, .int ((5 : Int32) >>> ((0 : Int32) &&& 31))]) (rest := []) ⟨hx, hb, hml, hown, hts⟩ (mJ1_indexOf_4cfef l D cI ad _ p1 p2 ((5 : Int32) >>> ((0 : Int32) &&& 31)) u3 hu3) (va_cwS 4 hts gJ0_indexOf_7cf53_J1_indexOf_4cfef rfl rfl rfl (by decide +kernel) ⟨Nat.le_of_ble_eq_true rfl, Nat.le_of_ble_eq_true rfl⟩) (k_pres hN hST hA hK hP hD hS (isC := []) rfl rfl) rfl rfl hl.1 rfl (lv_room (Nat.le_of_ble_eq_true rfl)) dJ0_indexOf_7cf53_17 ⟨Nat.le_of_ble_eq_true rfl, Nat.le_of_ble_eq_true rfl⟩) hP hD hS hA [] rfl rfl rfl rfl rfl (fun H locs hP hD hS => ?_)
  refine lv_goto (tgt := 36) hx hb dJ0_indexOf_7cf53_20 (by decide) ?_
  have h := Option.some.inj h
  subst h
  exact hRet _ _ _ _ hP hD hS dJ0_indexOf_7cf53_36
def rJ0_indexOf_0f7a4 : Room := { frames := 3, cells := 0, slots := 0, locals := 70 }
set_option maxHeartbeats 4000000 in
set_option maxRecDepth 100000 in
theorem mJ0_indexOf_0f7a4 (l : Launch) (D : va_G) (cI : ClassId) (ad : Nat × Nat) (sz : Nat) (p1 : Int32) (r : Int32) (h : fJ0_indexOf_0f7a4 p1 = some r) : Met l yJ0_indexOf_0f7a4 wsJ0_indexOf_0f7a4 rJ0_indexOf_0f7a4 (kPre D cI ad [.ref ad.1, .int p1] [] sz) (kQi D cI r [] (va_A [] sz)) 0 0 (va_A [] sz) := by
  refine kStart (cc := cJ0_indexOf_0f7a4) (maxL := 2) (ret := (some .int)) (Qc := fun A => kQi D cI r [] A) (by decide) rfl (Nat.le_of_ble_eq_true rfl) ?_
  intro p e s m args below meth c A ls hx hb hr hts hown hlocks hin hml hN hST hA hS hP hK hD hl
  have hown : s.vm.findClass RJ0 = some m.cls := hown
  have hl : lv_has ls 2 [(0, .ref ad.1), (1, .int p1)] := hl
  have hRet : ∀ (H : Heap) (locs : List Loc) (ls : Array Slot) (pc : Nat), va_P D vwCl [] H → va_D A [] → va_S A s.heap H locs → decode cJ0_indexOf_0f7a4 pc = .ok (.ireturn, 1) → W p l e rJ0_indexOf_0f7a4 s m args below meth c H locs 0 0 (MQ below (kQi D cI r [] A) args s 0 0 A) (F0 m pc ls [.int r]) := fun H locs ls pc hP hD hS hd => k_iret hx hb hr hlocks hK hP hD hS hd
  generalize MQ below (kQi D cI r [] A) args s 0 0 A = Q at hRet ⊢
  unfold fJ0_indexOf_0f7a4 at h
  refine lv_aload_n hx hb dJ0_indexOf_0f7a4_0 rfl (lv_at hl 0 rfl) ?_
  refine lv_iload_n hx hb dJ0_indexOf_0f7a4_1 rfl (lv_at hl 1 rfl) ?_
  refine lv_iconst (v := 0) hx hb dJ0_indexOf_0f7a4_2 (by decide) ?_
  obtain ⟨u1, hu1, h⟩ := k_bs h
  refine k_ci (r := u1) (k2 := 0) (n2 := 0) (wc := []) (wc' := []) (w2 := []) (va_runV (C := RJ0) (As := [.int p1, .int 0]) (rest := []) ⟨hx, hb, hml, hown, hts⟩ (mJ0_indexOf_7cf53 l D cI ad _ p1 0 u1 hu1) (cwV 2 hts gJ0_indexOf_0f7a4_J0_indexOf_7cf53 rfl rfl rfl (by decide +kernel) ⟨Nat.le_of_ble_eq_true rfl, Nat.le_of_ble_eq_true rfl⟩) (k_pret hN hST hA hK hP hD hS (isC := []) rfl rfl) rfl rfl hl.1 rfl (lv_room (Nat.le_of_ble_eq_true rfl)) dJ0_indexOf_0f7a4_3 ⟨Nat.le_of_ble_eq_true rfl, Nat.le_of_ble_eq_true rfl⟩) hP hD hS hA [] rfl rfl rfl rfl rfl (fun H locs hP hD hS => ?_)
  have h := Option.some.inj h
  subst h
  exact hRet _ _ _ _ hP hD hS dJ0_indexOf_0f7a4_6
def rX4_kindBy : Room := { frames := 4, cells := 0, slots := 0, locals := 91 }
set_option maxHeartbeats 4000000 in
set_option maxRecDepth 100000 in
theorem mX4_kindBy (l : Launch) (D : va_G) (cI : ClassId) (ad : Nat × Nat) (sz : Nat) (p0 : Int32) (r : Int32) (h : fX4_kindBy p0 = some r) : Met l yX4_kindBy wsX4_kindBy rX4_kindBy (kPre D cI ad [.int p0] [] sz) (kQi D cI r [] (va_A [] sz)) 0 0 (va_A [] sz) := by
  refine kStart (cc := cX4_kindBy) (maxL := 1) (ret := (some .int)) (Qc := fun A => kQi D cI r [] A) (by decide) rfl (Nat.le_of_ble_eq_true rfl) ?_
  intro p e s m args below meth c A ls hx hb hr hts hown hlocks hin hml hN hST hA hS hP hK hD hl
  have hown : s.vm.findClass RX4 = some m.cls := hown
  have hl : lv_has ls 1 [(0, .int p0)] := hl
  have hRet : ∀ (H : Heap) (locs : List Loc) (ls : Array Slot) (pc : Nat), va_P D vwCl [] H → va_D A [] → va_S A s.heap H locs → decode cX4_kindBy pc = .ok (.ireturn, 1) → W p l e rX4_kindBy s m args below meth c H locs 0 0 (MQ below (kQi D cI r [] A) args s 0 0 A) (F0 m pc ls [.int r]) := fun H locs ls pc hP hD hS hd => k_iret hx hb hr hlocks hK hP hD hS hd
  generalize MQ below (kQi D cI r [] A) args s 0 0 A = Q at hRet ⊢
  unfold fX4_kindBy at h
  refine va_ldcS hx hb hown hST.1 dX4_kindBy_0 ?_
  refine lv_iload_n hx hb dX4_kindBy_2 rfl (lv_at hl 0 rfl) ?_
  refine lv_i2c hx hb dX4_kindBy_3 rfl ?_
  obtain ⟨u1, hu1, h⟩ := k_bs h
  refine k_ci (r := u1) (k2 := 0) (n2 := 0) (wc := []) (wc' := []) (w2 := []) (va_runV (C := RJ0) (As := [.int ((Int32.toUInt32 p0 % 65536).toInt32)]) (rest := []) ⟨hx, hb, hml, hown, hts⟩ (mJ0_indexOf_0f7a4 l D cI ad _ ((Int32.toUInt32 p0 % 65536).toInt32) u1 hu1) (cwV 1 hts gX4_kindBy_J0_indexOf_0f7a4 rfl rfl rfl (by decide +kernel) ⟨Nat.le_of_ble_eq_true rfl, Nat.le_of_ble_eq_true rfl⟩) (k_pret hN hST hA hK hP hD hS (isC := []) rfl rfl) rfl rfl hl.1 rfl (lv_room (Nat.le_of_ble_eq_true rfl)) dX4_kindBy_4 ⟨Nat.le_of_ble_eq_true rfl, Nat.le_of_ble_eq_true rfl⟩) hP hD hS hA [] rfl rfl rfl rfl rfl (fun H locs hP hD hS => ?_)
  have h := Option.some.inj h
  subst h
  exact hRet _ _ _ _ hP hD hS dX4_kindBy_7
theorem iX2_read_X2 : ∀ w ∈ wsX20, w ∈ wsX2_read := by decide +kernel
theorem iX2_read_X4 : ∀ w ∈ wsX40, w ∈ wsX2_read := by decide +kernel
def rX2_read : Room := { frames := 5, cells := 0, slots := 0, locals := 111 }
set_option maxHeartbeats 4000000 in
set_option maxRecDepth 100000 in
theorem mX2_read (l : Launch) (D : va_G) (cI : ClassId) (ad : Nat × Nat) (q0 q1 q2 q3 q4 q5 : Nat) (sz : Nat) (s_rows : Int32) (s_late : Int32) (s_kinds : (Nat → Int32)) (s_palms : (Nat → Int32)) (s_strengths : (Nat → Int32)) (s_page_length : Int32) (s_page_codes : (Nat → Int32)) (r : (Int32 × Int32 × (Nat → Int32) × (Nat → Int32) × (Nat → Int32))) (h : fX2_read s_kinds s_palms s_strengths s_page_codes s_page_length = some r) : Met l yX2_read wsX2_read rX2_read (kPre D cI ad [.ref q0, .ref q4] (wHP cI q0 q1 q2 q3 q4 q5 s_rows s_late s_kinds s_palms s_strengths s_page_length s_page_codes) sz) (kQv D cI (wHP cI q0 q1 q2 q3 q4 q5 r.1 r.2.1 r.2.2.1 r.2.2.2.1 r.2.2.2.2 s_page_length s_page_codes) (va_A (wHP cI q0 q1 q2 q3 q4 q5 s_rows s_late s_kinds s_palms s_strengths s_page_length s_page_codes) sz)) 0 0 (va_A (wHP cI q0 q1 q2 q3 q4 q5 s_rows s_late s_kinds s_palms s_strengths s_page_length s_page_codes) sz) := by
  refine kStart (cc := cX2_read) (maxL := 3) (ret := none) (Qc := fun A => kQv D cI (wHP cI q0 q1 q2 q3 q4 q5 r.1 r.2.1 r.2.2.1 r.2.2.2.1 r.2.2.2.2 s_page_length s_page_codes) A) (by decide) rfl (Nat.le_of_ble_eq_true rfl) ?_
  intro p e s m args below meth c A ls hx hb hr hts hown hlocks hin hml hN hST hA hS hP hK hD hl
  have hown : s.vm.findClass RX2 = some m.cls := hown
  have hl : lv_has ls 3 [(0, .ref q0), (1, .ref q4)] := hl
  have hRet : ∀ (H : Heap) (locs : List Loc) (ls : Array Slot) (pc : Nat), va_P D vwCl (wHP cI q0 q1 q2 q3 q4 q5 r.1 r.2.1 r.2.2.1 r.2.2.2.1 r.2.2.2.2 s_page_length s_page_codes) H → va_D A (wHP cI q0 q1 q2 q3 q4 q5 r.1 r.2.1 r.2.2.1 r.2.2.2.1 r.2.2.2.2 s_page_length s_page_codes) → va_S A s.heap H locs → decode cX2_read pc = .ok (.return_, 1) → W p l e rX2_read s m args below meth c H locs 0 0 (MQ below (kQv D cI (wHP cI q0 q1 q2 q3 q4 q5 r.1 r.2.1 r.2.2.1 r.2.2.2.1 r.2.2.2.2 s_page_length s_page_codes) A) args s 0 0 A) (F0 m pc ls []) := fun H locs ls pc hP hD hS hd => k_vret hx hb hr hlocks hK hP hD hS hd
  generalize MQ below (kQv D cI (wHP cI q0 q1 q2 q3 q4 q5 r.1 r.2.1 r.2.2.1 r.2.2.2.1 r.2.2.2.2 s_page_length s_page_codes) A) args s 0 0 A = Q at hRet ⊢
  unfold fX2_read at h
  refine lv_aload_n hx hb dX2_read_0 rfl (lv_at hl 0 rfl) ?_
  refine lv_aload_n hx hb dX2_read_1 rfl (lv_at hl 1 rfl) ?_
  refine va_getN (D := D) (ci := 4) (v := .int s_page_length) (C := RX4) (T := TX4) (N := 2) hx hb hts iX2_read_X4 hown hK hP 4 rfl rfl 1 (by decide) (hN.f RX2 28 "ClappedWrong$Page" "length" "I" "ClappedWrong" (by decide +kernel)) (fun _ h9 => h9) rfl dX2_read_2 ?_
  refine lv_iconst (v := 4) hx hb dX2_read_5 (by decide) ?_
  refine lv_idiv hx hb dX2_read_6 (by decide) ?_
  refine lv_bipush (v := 8) hx hb dX2_read_7 (by decide) ?_
  refine va_mmin hx hb (hml.trans hl.1.symm) hown (hts (.methodLink RX2 33 Lib.Math.min.name) (by decide +kernel)) (hts (.static Lib.Math.min.name) (by decide +kernel)) (hts (.initialized "java/lang/Math") (by decide +kernel)) (hts (.code Lib.Math.min.name Lib.Math.min.code 2 (some .int)) (by decide +kernel)) (Nat.le_of_ble_eq_true rfl) (Nat.le_of_ble_eq_true rfl) (Nat.le_of_ble_eq_true rfl) (Nat.le_of_ble_eq_true rfl) dX2_read_9 ?_
  refine va_put (D := D) (ci := 2) (v := .int (if 8 < (s_page_length / 4) then 8 else (s_page_length / 4))) (ty := .int) (C := RX2) (T := TX2) (N := 5) hx hb hts iX2_read_X2 tyX2 tyX2_ok nmX2 hown hK hP hD hS 0 rfl rfl 3 (by decide) (hts (.fieldLink RX2 21 "ClappedWrong$Hall" "rows" "I") (by decide +kernel)) (fun _ h9 => h9) rfl (by decide +kernel) rfl rfl (Nat.le_of_ble_eq_true rfl) dX2_read_12 (fun H locs hP hD hS => ?_)
  have hP : va_P D vwCl (wHP cI q0 q1 q2 q3 q4 q5 (if 8 < (s_page_length / 4) then 8 else (s_page_length / 4)) s_late s_kinds s_palms s_strengths s_page_length s_page_codes) H := hP
  have hD : va_D A (wHP cI q0 q1 q2 q3 q4 q5 (if 8 < (s_page_length / 4) then 8 else (s_page_length / 4)) s_late s_kinds s_palms s_strengths s_page_length s_page_codes) := hD
  refine lv_iconst (v := 0) hx hb dX2_read_15 (by decide) ?_
  refine lv_istore_n (lv' := [(2, .int 0), (0, .ref q0), (1, .ref q4)]) hx hb dX2_read_16 rfl hl (by decide) rfl (fun ls hl => ?_)
  obtain ⟨u2, hu2, h⟩ := k_bs h
  refine kIter_ind (fun (z1 : (Int32 × (Nat → Int32) × (Nat → Int32) × (Nat → Int32))) (u2 : (Int32 × (Nat → Int32) × (Nat → Int32) × (Nat → Int32))) => ∀ (H : Heap) (locs : List Loc) (ls : Array Slot), va_P D vwCl (wHP cI q0 q1 q2 q3 q4 q5 (if 8 < (s_page_length / 4) then 8 else (s_page_length / 4)) s_late z1.2.1 z1.2.2.1 z1.2.2.2 s_page_length s_page_codes) H → va_D A (wHP cI q0 q1 q2 q3 q4 q5 (if 8 < (s_page_length / 4) then 8 else (s_page_length / 4)) s_late z1.2.1 z1.2.2.1 z1.2.2.2 s_page_length s_page_codes) → va_S A s.heap H locs → lv_has ls 3 [(0, .ref q0), (1, .ref q4), (2, .int z1.1)] → (∀ (H : Heap) (locs : List Loc) (ls : Array Slot), va_P D vwCl (wHP cI q0 q1 q2 q3 q4 q5 (if 8 < (s_page_length / 4) then 8 else (s_page_length / 4)) s_late u2.2.1 u2.2.2.1 u2.2.2.2 s_page_length s_page_codes) H → va_D A (wHP cI q0 q1 q2 q3 q4 q5 (if 8 < (s_page_length / 4) then 8 else (s_page_length / 4)) s_late u2.2.1 u2.2.2.1 u2.2.2.2 s_page_length s_page_codes) → va_S A s.heap H locs → lv_has ls 3 [(0, .ref q0), (1, .ref q4), (2, .int u2.1)] → W p l e rX2_read s m args below meth c H locs 0 0 Q (F0 m 83 ls [])) → W p l e rX2_read s m args below meth c H locs 0 0 Q (F0 m 17 ls [])) ?_ _ _ _ hu2 _ _ _ hP hD hS (lv_sub hl [1, 2, 0] rfl) ?_
  · intro rc1 ih1 z1 u2 h H locs ls hP hD hS hl kx1
    unfold fX2_read_L1 at h
    refine lv_iload_n hx hb dX2_read_17 rfl (lv_at hl 2 rfl) ?_
    refine lv_aload_n hx hb dX2_read_18 rfl (lv_at hl 0 rfl) ?_
    refine va_get (D := D) (ci := 2) (v := .int (if 8 < (s_page_length / 4) then 8 else (s_page_length / 4))) (C := RX2) (T := TX2) (N := 5) hx hb hts iX2_read_X2 hown hK hP 0 rfl rfl 3 (by decide) (hts (.fieldLink RX2 21 "ClappedWrong$Hall" "rows" "I") (by decide +kernel)) (fun _ h9 => h9) rfl dX2_read_19 ?_
    refine lv_icmp_ge (tgt := 83) hx hb dX2_read_22 (by decide) (fun c0 => ?_) (fun c0 => ?_)
    · have h := (if_pos c0).symm.trans h
      have h := Option.some.inj h
      subst h
      exact kx1 _ _ _ hP hD hS (lv_sub hl [0, 1, 2] rfl)
    · have h := (if_neg c0).symm.trans h
      refine lv_aload_n hx hb dX2_read_25 rfl (lv_at hl 0 rfl) ?_
      refine va_get (D := D) (ci := 2) (v := .ref q1) (C := RX2) (T := TX2) (N := 5) hx hb hts iX2_read_X2 hown hK hP 0 rfl rfl 0 (by decide) (hts (.fieldLink RX2 9 "ClappedWrong$Hall" "kinds" "[I") (by decide +kernel)) (fun _ h9 => h9) rfl dX2_read_26 ?_
      refine lv_iload_n hx hb dX2_read_29 rfl (lv_at hl 2 rfl) ?_
      refine lv_aload_n hx hb dX2_read_30 rfl (lv_at hl 1 rfl) ?_
      refine lv_iconst (v := 4) hx hb dX2_read_31 (by decide) ?_
      refine lv_iload_n hx hb dX2_read_32 rfl (lv_at hl 2 rfl) ?_
      refine lv_imul hx hb dX2_read_33 ?_
      obtain ⟨u3, hu3, h⟩ := k_bs h
      refine k_ci (r := u3) (k2 := 0) (n2 := 0) (wc := (wP cI q4 q5 s_page_length s_page_codes)) (wc' := (wP cI q4 q5 s_page_length s_page_codes)) (w2 := (wHP cI q0 q1 q2 q3 q4 q5 (if 8 < (s_page_length / 4) then 8 else (s_page_length / 4)) s_late z1.2.1 z1.2.2.1 z1.2.2.2 s_page_length s_page_codes)) (va_runV (C := RX4) (As := [.int (4 * z1.1)]) (rest := [.int z1.1, .ref q1]) ⟨hx, hb, hml, hown, hts⟩ (mX4_codeAt l D cI ad q4 q5 _ s_page_length s_page_codes (4 * z1.1) u3 hu3) (cwV 1 hts gX2_read_X4_codeAt rfl rfl rfl (by decide +kernel) ⟨Nat.le_of_ble_eq_true rfl, Nat.le_of_ble_eq_true rfl⟩) (k_prev (q := (RX4, TX4, 2)) hN hST hA hK hP hD hS (isC := [4, 5]) rfl rfl 4 (ci := 4) rfl rfl) rfl rfl hl.1 rfl (lv_room (Nat.le_of_ble_eq_true rfl)) dX2_read_34 ⟨Nat.le_of_ble_eq_true rfl, Nat.le_of_ble_eq_true rfl⟩) hP hD hS hA [4, 5] rfl rfl rfl rfl rfl (fun H locs hP hD hS => ?_)
      obtain ⟨u4, hu4, h⟩ := k_bs h
      refine k_ci (r := u4) (k2 := 0) (n2 := 0) (wc := []) (wc' := []) (w2 := (wHP cI q0 q1 q2 q3 q4 q5 (if 8 < (s_page_length / 4) then 8 else (s_page_length / 4)) s_late z1.2.1 z1.2.2.1 z1.2.2.2 s_page_length s_page_codes)) (va_runS (As := [.int u3]) (rest := [.int z1.1, .ref q1]) ⟨hx, hb, hml, hown, hts⟩ (mX4_kindBy l D cI ad _ u3 u4 hu4) (va_cwS 1 hts gX2_read_X4_kindBy rfl rfl rfl (by decide +kernel) ⟨Nat.le_of_ble_eq_true rfl, Nat.le_of_ble_eq_true rfl⟩) (k_pres hN hST hA hK hP hD hS (isC := []) rfl rfl) rfl rfl hl.1 rfl (lv_room (Nat.le_of_ble_eq_true rfl)) dX2_read_37 ⟨Nat.le_of_ble_eq_true rfl, Nat.le_of_ble_eq_true rfl⟩) hP hD hS hA [] rfl rfl rfl rfl rfl (fun H locs hP hD hS => ?_)
      refine k_iast hx hb hK hP hD hS 1 rfl dX2_read_40 h (fun g5 => (wHP cI q0 q1 q2 q3 q4 q5 (if 8 < (s_page_length / 4) then 8 else (s_page_length / 4)) s_late g5 z1.2.2.1 z1.2.2.2 s_page_length s_page_codes)) (fun _ => rfl) (fun g5 H locs h hP hD hS => ?_)
      refine lv_aload_n hx hb dX2_read_41 rfl (lv_at hl 0 rfl) ?_
      refine va_get (D := D) (ci := 2) (v := .ref q2) (C := RX2) (T := TX2) (N := 5) hx hb hts iX2_read_X2 hown hK hP 0 rfl rfl 1 (by decide) (hts (.fieldLink RX2 15 "ClappedWrong$Hall" "palms" "[I") (by decide +kernel)) (fun _ h9 => h9) rfl dX2_read_42 ?_
      refine lv_iload_n hx hb dX2_read_45 rfl (lv_at hl 2 rfl) ?_
      refine lv_aload_n hx hb dX2_read_46 rfl (lv_at hl 1 rfl) ?_
      refine lv_iconst (v := 4) hx hb dX2_read_47 (by decide) ?_
      refine lv_iload_n hx hb dX2_read_48 rfl (lv_at hl 2 rfl) ?_
      refine lv_imul hx hb dX2_read_49 ?_
      refine lv_iconst (v := 1) hx hb dX2_read_50 (by decide) ?_
      refine lv_iadd hx hb dX2_read_51 ?_
      obtain ⟨u6, hu6, h⟩ := k_bs h
      refine k_ci (r := u6) (k2 := 0) (n2 := 0) (wc := (wP cI q4 q5 s_page_length s_page_codes)) (wc' := (wP cI q4 q5 s_page_length s_page_codes)) (w2 := (wHP cI q0 q1 q2 q3 q4 q5 (if 8 < (s_page_length / 4) then 8 else (s_page_length / 4)) s_late g5 z1.2.2.1 z1.2.2.2 s_page_length s_page_codes)) (va_runV (C := RX4) (As := [.int ((4 * z1.1) + 1)]) (rest := [.int z1.1, .ref q2]) ⟨hx, hb, hml, hown, hts⟩ (mX4_codeAt l D cI ad q4 q5 _ s_page_length s_page_codes ((4 * z1.1) + 1) u6 hu6) (cwV 1 hts gX2_read_X4_codeAt rfl rfl rfl (by decide +kernel) ⟨Nat.le_of_ble_eq_true rfl, Nat.le_of_ble_eq_true rfl⟩) (k_prev (q := (RX4, TX4, 2)) hN hST hA hK hP hD hS (isC := [4, 5]) rfl rfl 4 (ci := 4) rfl rfl) rfl rfl hl.1 rfl (lv_room (Nat.le_of_ble_eq_true rfl)) dX2_read_52 ⟨Nat.le_of_ble_eq_true rfl, Nat.le_of_ble_eq_true rfl⟩) hP hD hS hA [4, 5] rfl rfl rfl rfl rfl (fun H locs hP hD hS => ?_)
      refine lv_bipush (v := 48) hx hb dX2_read_55 (by decide) ?_
      refine lv_isub hx hb dX2_read_57 ?_
      refine k_iast hx hb hK hP hD hS 2 rfl dX2_read_58 h (fun g7 => (wHP cI q0 q1 q2 q3 q4 q5 (if 8 < (s_page_length / 4) then 8 else (s_page_length / 4)) s_late g5 g7 z1.2.2.2 s_page_length s_page_codes)) (fun _ => rfl) (fun g7 H locs h hP hD hS => ?_)
      refine lv_aload_n hx hb dX2_read_59 rfl (lv_at hl 0 rfl) ?_
      refine va_get (D := D) (ci := 2) (v := .ref q3) (C := RX2) (T := TX2) (N := 5) hx hb hts iX2_read_X2 hown hK hP 0 rfl rfl 2 (by decide) (hts (.fieldLink RX2 18 "ClappedWrong$Hall" "strengths" "[I") (by decide +kernel)) (fun _ h9 => h9) rfl dX2_read_60 ?_
      refine lv_iload_n hx hb dX2_read_63 rfl (lv_at hl 2 rfl) ?_
      refine lv_aload_n hx hb dX2_read_64 rfl (lv_at hl 1 rfl) ?_
      refine lv_iconst (v := 4) hx hb dX2_read_65 (by decide) ?_
      refine lv_iload_n hx hb dX2_read_66 rfl (lv_at hl 2 rfl) ?_
      refine lv_imul hx hb dX2_read_67 ?_
      refine lv_iconst (v := 2) hx hb dX2_read_68 (by decide) ?_
      refine lv_iadd hx hb dX2_read_69 ?_
      obtain ⟨u8, hu8, h⟩ := k_bs h
      refine k_ci (r := u8) (k2 := 0) (n2 := 0) (wc := (wP cI q4 q5 s_page_length s_page_codes)) (wc' := (wP cI q4 q5 s_page_length s_page_codes)) (w2 := (wHP cI q0 q1 q2 q3 q4 q5 (if 8 < (s_page_length / 4) then 8 else (s_page_length / 4)) s_late g5 g7 z1.2.2.2 s_page_length s_page_codes)) (va_runV (C := RX4) (As := [.int ((4 * z1.1) + 2)]) (rest := [.int z1.1, .ref q3]) ⟨hx, hb, hml, hown, hts⟩ (mX4_codeAt l D cI ad q4 q5 _ s_page_length s_page_codes ((4 * z1.1) + 2) u8 hu8) (cwV 1 hts gX2_read_X4_codeAt rfl rfl rfl (by decide +kernel) ⟨Nat.le_of_ble_eq_true rfl, Nat.le_of_ble_eq_true rfl⟩) (k_prev (q := (RX4, TX4, 2)) hN hST hA hK hP hD hS (isC := [4, 5]) rfl rfl 4 (ci := 4) rfl rfl) rfl rfl hl.1 rfl (lv_room (Nat.le_of_ble_eq_true rfl)) dX2_read_70 ⟨Nat.le_of_ble_eq_true rfl, Nat.le_of_ble_eq_true rfl⟩) hP hD hS hA [4, 5] rfl rfl rfl rfl rfl (fun H locs hP hD hS => ?_)
      refine lv_bipush (v := 48) hx hb dX2_read_73 (by decide) ?_
      refine lv_isub hx hb dX2_read_75 ?_
      refine k_iast hx hb hK hP hD hS 3 rfl dX2_read_76 h (fun g9 => (wHP cI q0 q1 q2 q3 q4 q5 (if 8 < (s_page_length / 4) then 8 else (s_page_length / 4)) s_late g5 g7 g9 s_page_length s_page_codes)) (fun _ => rfl) (fun g9 H locs h hP hD hS => ?_)
      refine lv_iinc (v := (z1.1 + 1)) (lv' := [(2, .int (z1.1 + 1)), (0, .ref q0), (1, .ref q4)]) hx hb dX2_read_77 hl (k := 2) rfl rfl (by decide) rfl (fun ls hl => ?_)
      refine lv_goto (tgt := 17) hx hb dX2_read_80 (by decide) ?_
      exact ih1 _ _ h _ _ _ hP hD hS (lv_sub hl [1, 2, 0] rfl) kx1
  · intro H locs ls hP hD hS hl
    refine lv_aload_n hx hb dX2_read_83 rfl (lv_at hl 0 rfl) ?_
    refine lv_aload_n hx hb dX2_read_84 rfl (lv_at hl 1 rfl) ?_
    refine lv_iconst (v := 4) hx hb dX2_read_85 (by decide) ?_
    refine lv_aload_n hx hb dX2_read_86 rfl (lv_at hl 0 rfl) ?_
    refine va_get (D := D) (ci := 2) (v := .int (if 8 < (s_page_length / 4) then 8 else (s_page_length / 4))) (C := RX2) (T := TX2) (N := 5) hx hb hts iX2_read_X2 hown hK hP 0 rfl rfl 3 (by decide) (hts (.fieldLink RX2 21 "ClappedWrong$Hall" "rows" "I") (by decide +kernel)) (fun _ h9 => h9) rfl dX2_read_87 ?_
    refine lv_imul hx hb dX2_read_90 ?_
    obtain ⟨u10, hu10, h⟩ := k_bs h
    refine k_ci (r := u10) (k2 := 0) (n2 := 0) (wc := (wP cI q4 q5 s_page_length s_page_codes)) (wc' := (wP cI q4 q5 s_page_length s_page_codes)) (w2 := (wHP cI q0 q1 q2 q3 q4 q5 (if 8 < (s_page_length / 4) then 8 else (s_page_length / 4)) s_late u2.2.1 u2.2.2.1 u2.2.2.2 s_page_length s_page_codes)) (va_runV (C := RX4) (As := [.int (4 * (if 8 < (s_page_length / 4) then 8 else (s_page_length / 4)))]) (rest := [.ref q0]) ⟨hx, hb, hml, hown, hts⟩ (mX4_codeAt l D cI ad q4 q5 _ s_page_length s_page_codes (4 * (if 8 < (s_page_length / 4) then 8 else (s_page_length / 4))) u10 hu10) (cwV 1 hts gX2_read_X4_codeAt rfl rfl rfl (by decide +kernel) ⟨Nat.le_of_ble_eq_true rfl, Nat.le_of_ble_eq_true rfl⟩) (k_prev (q := (RX4, TX4, 2)) hN hST hA hK hP hD hS (isC := [4, 5]) rfl rfl 4 (ci := 4) rfl rfl) rfl rfl hl.1 rfl (lv_room (Nat.le_of_ble_eq_true rfl)) dX2_read_91 ⟨Nat.le_of_ble_eq_true rfl, Nat.le_of_ble_eq_true rfl⟩) hP hD hS hA [4, 5] rfl rfl rfl rfl rfl (fun H locs hP hD hS => ?_)
    refine lv_bipush (v := 48) hx hb dX2_read_94 (by decide) ?_
    refine lv_isub hx hb dX2_read_96 ?_
    refine va_put (D := D) (ci := 2) (v := .int (u10 - 48)) (ty := .int) (C := RX2) (T := TX2) (N := 5) hx hb hts iX2_read_X2 tyX2 tyX2_ok nmX2 hown hK hP hD hS 0 rfl rfl 4 (by decide) (hts (.fieldLink RX2 25 "ClappedWrong$Hall" "late" "I") (by decide +kernel)) (fun _ h9 => h9) rfl (by decide +kernel) rfl rfl (Nat.le_of_ble_eq_true rfl) dX2_read_97 (fun H locs hP hD hS => ?_)
    have hP : va_P D vwCl (wHP cI q0 q1 q2 q3 q4 q5 (if 8 < (s_page_length / 4) then 8 else (s_page_length / 4)) (u10 - 48) u2.2.1 u2.2.2.1 u2.2.2.2 s_page_length s_page_codes) H := hP
    have hD : va_D A (wHP cI q0 q1 q2 q3 q4 q5 (if 8 < (s_page_length / 4) then 8 else (s_page_length / 4)) (u10 - 48) u2.2.1 u2.2.2.1 u2.2.2.2 s_page_length s_page_codes) := hD
    have h := Option.some.inj h
    subst h
    exact hRet _ _ _ _ hP hD hS dX2_read_100
theorem iX2_isThere_X2 : ∀ w ∈ wsX20, w ∈ wsX2_isThere := by decide +kernel
def rX2_isThere : Room := { frames := 0, cells := 0, slots := 0, locals := 0 }
set_option maxHeartbeats 4000000 in
set_option maxRecDepth 100000 in
theorem mX2_isThere (l : Launch) (D : va_G) (cI : ClassId) (ad : Nat × Nat) (q0 q1 q2 q3 : Nat) (sz : Nat) (s_rows : Int32) (s_late : Int32) (s_kinds : (Nat → Int32)) (s_palms : (Nat → Int32)) (s_strengths : (Nat → Int32)) (r : Int32) (h : fX2_isThere s_rows = some r) : Met l yX2_isThere wsX2_isThere rX2_isThere (kPre D cI ad [.ref q0] (wH cI q0 q1 q2 q3 s_rows s_late s_kinds s_palms s_strengths) sz) (kQi D cI r (wH cI q0 q1 q2 q3 s_rows s_late s_kinds s_palms s_strengths) (va_A (wH cI q0 q1 q2 q3 s_rows s_late s_kinds s_palms s_strengths) sz)) 0 0 (va_A (wH cI q0 q1 q2 q3 s_rows s_late s_kinds s_palms s_strengths) sz) := by
  refine kStart (cc := cX2_isThere) (maxL := 1) (ret := (some .boolean)) (Qc := fun A => kQi D cI r (wH cI q0 q1 q2 q3 s_rows s_late s_kinds s_palms s_strengths) A) (by decide) rfl (Nat.le_of_ble_eq_true rfl) ?_
  intro p e s m args below meth c A ls hx hb hr hts hown hlocks hin hml hN hST hA hS hP hK hD hl
  have hown : s.vm.findClass RX2 = some m.cls := hown
  have hl : lv_has ls 1 [(0, .ref q0)] := hl
  have hRet : ∀ (H : Heap) (locs : List Loc) (ls : Array Slot) (pc : Nat), narrow .boolean (.int r) = .int r → va_P D vwCl (wH cI q0 q1 q2 q3 s_rows s_late s_kinds s_palms s_strengths) H → va_D A (wH cI q0 q1 q2 q3 s_rows s_late s_kinds s_palms s_strengths) → va_S A s.heap H locs → decode cX2_isThere pc = .ok (.ireturn, 1) → W p l e rX2_isThere s m args below meth c H locs 0 0 (MQ below (kQi D cI r (wH cI q0 q1 q2 q3 s_rows s_late s_kinds s_palms s_strengths) A) args s 0 0 A) (F0 m pc ls [.int r]) := fun H locs ls pc hz hP hD hS hd => k_zret hx hb hr hlocks hK hz hP hD hS hd
  generalize MQ below (kQi D cI r (wH cI q0 q1 q2 q3 s_rows s_late s_kinds s_palms s_strengths) A) args s 0 0 A = Q at hRet ⊢
  unfold fX2_isThere at h
  refine lv_aload_n hx hb dX2_isThere_0 rfl (lv_at hl 0 rfl) ?_
  refine va_get (D := D) (ci := 2) (v := .int s_rows) (C := RX2) (T := TX2) (N := 5) hx hb hts iX2_isThere_X2 hown hK hP 0 rfl rfl 3 (by decide) (hts (.fieldLink RX2 21 "ClappedWrong$Hall" "rows" "I") (by decide +kernel)) (fun _ h9 => h9) rfl dX2_isThere_1 ?_
  refine lv_if_le (tgt := 11) hx hb dX2_isThere_4 (by decide) (fun c0 => ?_) (fun c0 => ?_)
  · have h := (if_pos c0).symm.trans h
    refine lv_iconst (v := 0) hx hb dX2_isThere_11 (by decide) ?_
    have h := Option.some.inj h
    subst h
    exact hRet _ _ _ _ kn_bo0 hP hD hS dX2_isThere_12
  · have h := (if_neg c0).symm.trans h
    refine lv_iconst (v := 1) hx hb dX2_isThere_7 (by decide) ?_
    refine lv_goto (tgt := 12) hx hb dX2_isThere_8 (by decide) ?_
    have h := Option.some.inj h
    subst h
    exact hRet _ _ _ _ kn_bo1 hP hD hS dX2_isThere_12
theorem iX2_has_X2 : ∀ w ∈ wsX20, w ∈ wsX2_has := by decide +kernel
def rX2_has : Room := { frames := 0, cells := 0, slots := 0, locals := 0 }
set_option maxHeartbeats 4000000 in
set_option maxRecDepth 100000 in
theorem mX2_has (l : Launch) (D : va_G) (cI : ClassId) (ad : Nat × Nat) (q0 q1 q2 q3 : Nat) (sz : Nat) (s_rows : Int32) (s_late : Int32) (s_kinds : (Nat → Int32)) (s_palms : (Nat → Int32)) (s_strengths : (Nat → Int32)) (p1 : Int32) (r : Int32) (h : fX2_has s_rows p1 = some r) : Met l yX2_has wsX2_has rX2_has (kPre D cI ad [.ref q0, .int p1] (wH cI q0 q1 q2 q3 s_rows s_late s_kinds s_palms s_strengths) sz) (kQi D cI r (wH cI q0 q1 q2 q3 s_rows s_late s_kinds s_palms s_strengths) (va_A (wH cI q0 q1 q2 q3 s_rows s_late s_kinds s_palms s_strengths) sz)) 0 0 (va_A (wH cI q0 q1 q2 q3 s_rows s_late s_kinds s_palms s_strengths) sz) := by
  refine kStart (cc := cX2_has) (maxL := 2) (ret := (some .boolean)) (Qc := fun A => kQi D cI r (wH cI q0 q1 q2 q3 s_rows s_late s_kinds s_palms s_strengths) A) (by decide) rfl (Nat.le_of_ble_eq_true rfl) ?_
  intro p e s m args below meth c A ls hx hb hr hts hown hlocks hin hml hN hST hA hS hP hK hD hl
  have hown : s.vm.findClass RX2 = some m.cls := hown
  have hl : lv_has ls 2 [(0, .ref q0), (1, .int p1)] := hl
  have hRet : ∀ (H : Heap) (locs : List Loc) (ls : Array Slot) (pc : Nat), narrow .boolean (.int r) = .int r → va_P D vwCl (wH cI q0 q1 q2 q3 s_rows s_late s_kinds s_palms s_strengths) H → va_D A (wH cI q0 q1 q2 q3 s_rows s_late s_kinds s_palms s_strengths) → va_S A s.heap H locs → decode cX2_has pc = .ok (.ireturn, 1) → W p l e rX2_has s m args below meth c H locs 0 0 (MQ below (kQi D cI r (wH cI q0 q1 q2 q3 s_rows s_late s_kinds s_palms s_strengths) A) args s 0 0 A) (F0 m pc ls [.int r]) := fun H locs ls pc hz hP hD hS hd => k_zret hx hb hr hlocks hK hz hP hD hS hd
  generalize MQ below (kQi D cI r (wH cI q0 q1 q2 q3 s_rows s_late s_kinds s_palms s_strengths) A) args s 0 0 A = Q at hRet ⊢
  unfold fX2_has at h
  refine lv_iload_n hx hb dX2_has_0 rfl (lv_at hl 1 rfl) ?_
  refine lv_if_lt (tgt := 16) hx hb dX2_has_1 (by decide) (fun c0 => ?_) (fun c0 => ?_)
  · have h := (if_pos c0).symm.trans h
    refine lv_iconst (v := 0) hx hb dX2_has_16 (by decide) ?_
    have h := Option.some.inj h
    subst h
    exact hRet _ _ _ _ kn_bo0 hP hD hS dX2_has_17
  · have h := (if_neg c0).symm.trans h
    refine lv_iload_n hx hb dX2_has_4 rfl (lv_at hl 1 rfl) ?_
    refine lv_aload_n hx hb dX2_has_5 rfl (lv_at hl 0 rfl) ?_
    refine va_get (D := D) (ci := 2) (v := .int s_rows) (C := RX2) (T := TX2) (N := 5) hx hb hts iX2_has_X2 hown hK hP 0 rfl rfl 3 (by decide) (hts (.fieldLink RX2 21 "ClappedWrong$Hall" "rows" "I") (by decide +kernel)) (fun _ h9 => h9) rfl dX2_has_6 ?_
    refine lv_icmp_ge (tgt := 16) hx hb dX2_has_9 (by decide) (fun c0 => ?_) (fun c0 => ?_)
    · have h := (if_pos c0).symm.trans h
      refine lv_iconst (v := 0) hx hb dX2_has_16 (by decide) ?_
      have h := Option.some.inj h
      subst h
      exact hRet _ _ _ _ kn_bo0 hP hD hS dX2_has_17
    · have h := (if_neg c0).symm.trans h
      refine lv_iconst (v := 1) hx hb dX2_has_12 (by decide) ?_
      refine lv_goto (tgt := 17) hx hb dX2_has_13 (by decide) ?_
      have h := Option.some.inj h
      subst h
      exact hRet _ _ _ _ kn_bo1 hP hD hS dX2_has_17
theorem iX2_lag_X2 : ∀ w ∈ wsX20, w ∈ wsX2_lag := by decide +kernel
def rX2_lag : Room := { frames := 0, cells := 0, slots := 0, locals := 0 }
set_option maxHeartbeats 4000000 in
set_option maxRecDepth 100000 in
theorem mX2_lag (l : Launch) (D : va_G) (cI : ClassId) (ad : Nat × Nat) (q0 q1 q2 q3 : Nat) (sz : Nat) (s_rows : Int32) (s_late : Int32) (s_kinds : (Nat → Int32)) (s_palms : (Nat → Int32)) (s_strengths : (Nat → Int32)) (p1 : Int32) (r : Int32) (h : fX2_lag s_late p1 = some r) : Met l yX2_lag wsX2_lag rX2_lag (kPre D cI ad [.ref q0, .int p1] (wH cI q0 q1 q2 q3 s_rows s_late s_kinds s_palms s_strengths) sz) (kQi D cI r (wH cI q0 q1 q2 q3 s_rows s_late s_kinds s_palms s_strengths) (va_A (wH cI q0 q1 q2 q3 s_rows s_late s_kinds s_palms s_strengths) sz)) 0 0 (va_A (wH cI q0 q1 q2 q3 s_rows s_late s_kinds s_palms s_strengths) sz) := by
  refine kStart (cc := cX2_lag) (maxL := 2) (ret := (some .int)) (Qc := fun A => kQi D cI r (wH cI q0 q1 q2 q3 s_rows s_late s_kinds s_palms s_strengths) A) (by decide) rfl (Nat.le_of_ble_eq_true rfl) ?_
  intro p e s m args below meth c A ls hx hb hr hts hown hlocks hin hml hN hST hA hS hP hK hD hl
  have hown : s.vm.findClass RX2 = some m.cls := hown
  have hl : lv_has ls 2 [(0, .ref q0), (1, .int p1)] := hl
  have hRet : ∀ (H : Heap) (locs : List Loc) (ls : Array Slot) (pc : Nat), va_P D vwCl (wH cI q0 q1 q2 q3 s_rows s_late s_kinds s_palms s_strengths) H → va_D A (wH cI q0 q1 q2 q3 s_rows s_late s_kinds s_palms s_strengths) → va_S A s.heap H locs → decode cX2_lag pc = .ok (.ireturn, 1) → W p l e rX2_lag s m args below meth c H locs 0 0 (MQ below (kQi D cI r (wH cI q0 q1 q2 q3 s_rows s_late s_kinds s_palms s_strengths) A) args s 0 0 A) (F0 m pc ls [.int r]) := fun H locs ls pc hP hD hS hd => k_iret hx hb hr hlocks hK hP hD hS hd
  generalize MQ below (kQi D cI r (wH cI q0 q1 q2 q3 s_rows s_late s_kinds s_palms s_strengths) A) args s 0 0 A = Q at hRet ⊢
  unfold fX2_lag at h
  refine lv_aload_n hx hb dX2_lag_0 rfl (lv_at hl 0 rfl) ?_
  refine va_get (D := D) (ci := 2) (v := .int s_late) (C := RX2) (T := TX2) (N := 5) hx hb hts iX2_lag_X2 hown hK hP 0 rfl rfl 4 (by decide) (hts (.fieldLink RX2 25 "ClappedWrong$Hall" "late" "I") (by decide +kernel)) (fun _ h9 => h9) rfl dX2_lag_1 ?_
  refine lv_if_le (tgt := 16) hx hb dX2_lag_4 (by decide) (fun c0 => ?_) (fun c0 => ?_)
  · have h := (if_pos c0).symm.trans h
    refine lv_iconst (v := 0) hx hb dX2_lag_16 (by decide) ?_
    have h := Option.some.inj h
    subst h
    exact hRet _ _ _ _ hP hD hS dX2_lag_17
  · have h := (if_neg c0).symm.trans h
    refine lv_iload_n hx hb dX2_lag_7 rfl (lv_at hl 1 rfl) ?_
    refine lv_aload_n hx hb dX2_lag_8 rfl (lv_at hl 0 rfl) ?_
    refine va_get (D := D) (ci := 2) (v := .int s_late) (C := RX2) (T := TX2) (N := 5) hx hb hts iX2_lag_X2 hown hK hP 0 rfl rfl 4 (by decide) (hts (.fieldLink RX2 25 "ClappedWrong$Hall" "late" "I") (by decide +kernel)) (fun _ h9 => h9) rfl dX2_lag_9 ?_
    refine k_idiv hx hb dX2_lag_12 h (fun v1 h => ?_)
    refine lv_goto (tgt := 17) hx hb dX2_lag_13 (by decide) ?_
    have h := Option.some.inj h
    subst h
    exact hRet _ _ _ _ hP hD hS dX2_lag_17
theorem iX2_allPalms_X2 : ∀ w ∈ wsX20, w ∈ wsX2_allPalms := by decide +kernel
def rX2_allPalms : Room := { frames := 0, cells := 0, slots := 0, locals := 0 }
set_option maxHeartbeats 4000000 in
set_option maxRecDepth 100000 in
theorem mX2_allPalms (l : Launch) (D : va_G) (cI : ClassId) (ad : Nat × Nat) (q0 q1 q2 q3 : Nat) (sz : Nat) (s_rows : Int32) (s_late : Int32) (s_kinds : (Nat → Int32)) (s_palms : (Nat → Int32)) (s_strengths : (Nat → Int32)) (r : Int32) (h : fX2_allPalms s_palms s_rows = some r) : Met l yX2_allPalms wsX2_allPalms rX2_allPalms (kPre D cI ad [.ref q0] (wH cI q0 q1 q2 q3 s_rows s_late s_kinds s_palms s_strengths) sz) (kQi D cI r (wH cI q0 q1 q2 q3 s_rows s_late s_kinds s_palms s_strengths) (va_A (wH cI q0 q1 q2 q3 s_rows s_late s_kinds s_palms s_strengths) sz)) 0 0 (va_A (wH cI q0 q1 q2 q3 s_rows s_late s_kinds s_palms s_strengths) sz) := by
  refine kStart (cc := cX2_allPalms) (maxL := 3) (ret := (some .int)) (Qc := fun A => kQi D cI r (wH cI q0 q1 q2 q3 s_rows s_late s_kinds s_palms s_strengths) A) (by decide) rfl (Nat.le_of_ble_eq_true rfl) ?_
  intro p e s m args below meth c A ls hx hb hr hts hown hlocks hin hml hN hST hA hS hP hK hD hl
  have hown : s.vm.findClass RX2 = some m.cls := hown
  have hl : lv_has ls 3 [(0, .ref q0)] := hl
  have hRet : ∀ (H : Heap) (locs : List Loc) (ls : Array Slot) (pc : Nat), va_P D vwCl (wH cI q0 q1 q2 q3 s_rows s_late s_kinds s_palms s_strengths) H → va_D A (wH cI q0 q1 q2 q3 s_rows s_late s_kinds s_palms s_strengths) → va_S A s.heap H locs → decode cX2_allPalms pc = .ok (.ireturn, 1) → W p l e rX2_allPalms s m args below meth c H locs 0 0 (MQ below (kQi D cI r (wH cI q0 q1 q2 q3 s_rows s_late s_kinds s_palms s_strengths) A) args s 0 0 A) (F0 m pc ls [.int r]) := fun H locs ls pc hP hD hS hd => k_iret hx hb hr hlocks hK hP hD hS hd
  generalize MQ below (kQi D cI r (wH cI q0 q1 q2 q3 s_rows s_late s_kinds s_palms s_strengths) A) args s 0 0 A = Q at hRet ⊢
  unfold fX2_allPalms at h
  refine lv_iconst (v := 0) hx hb dX2_allPalms_0 (by decide) ?_
  refine lv_istore_n (lv' := [(1, .int 0), (0, .ref q0)]) hx hb dX2_allPalms_1 rfl hl (by decide) rfl (fun ls hl => ?_)
  refine lv_iconst (v := 0) hx hb dX2_allPalms_2 (by decide) ?_
  refine lv_istore_n (lv' := [(2, .int 0), (1, .int 0), (0, .ref q0)]) hx hb dX2_allPalms_3 rfl hl (by decide) rfl (fun ls hl => ?_)
  obtain ⟨u2, hu2, h⟩ := k_bs h
  refine kIter_ind (fun (z1 : (Int32 × Int32)) (u2 : (Int32 × Int32)) => ∀ (H : Heap) (locs : List Loc) (ls : Array Slot), va_P D vwCl (wH cI q0 q1 q2 q3 s_rows s_late s_kinds s_palms s_strengths) H → va_D A (wH cI q0 q1 q2 q3 s_rows s_late s_kinds s_palms s_strengths) → va_S A s.heap H locs → lv_has ls 3 [(0, .ref q0), (1, .int z1.1), (2, .int z1.2)] → (∀ (H : Heap) (locs : List Loc) (ls : Array Slot), va_P D vwCl (wH cI q0 q1 q2 q3 s_rows s_late s_kinds s_palms s_strengths) H → va_D A (wH cI q0 q1 q2 q3 s_rows s_late s_kinds s_palms s_strengths) → va_S A s.heap H locs → lv_has ls 3 [(0, .ref q0), (1, .int u2.1), (2, .int u2.2)] → W p l e rX2_allPalms s m args below meth c H locs 0 0 Q (F0 m 27 ls [])) → W p l e rX2_allPalms s m args below meth c H locs 0 0 Q (F0 m 4 ls [])) ?_ _ _ _ hu2 _ _ _ hP hD hS (lv_sub hl [2, 1, 0] rfl) ?_
  · intro rc1 ih1 z1 u2 h H locs ls hP hD hS hl kx1
    unfold fX2_allPalms_L1 at h
    refine lv_iload_n hx hb dX2_allPalms_4 rfl (lv_at hl 2 rfl) ?_
    refine lv_aload_n hx hb dX2_allPalms_5 rfl (lv_at hl 0 rfl) ?_
    refine va_get (D := D) (ci := 2) (v := .int s_rows) (C := RX2) (T := TX2) (N := 5) hx hb hts iX2_allPalms_X2 hown hK hP 0 rfl rfl 3 (by decide) (hts (.fieldLink RX2 21 "ClappedWrong$Hall" "rows" "I") (by decide +kernel)) (fun _ h9 => h9) rfl dX2_allPalms_6 ?_
    refine lv_icmp_ge (tgt := 27) hx hb dX2_allPalms_9 (by decide) (fun c0 => ?_) (fun c0 => ?_)
    · have h := (if_pos c0).symm.trans h
      have h := Option.some.inj h
      subst h
      exact kx1 _ _ _ hP hD hS (lv_sub hl [0, 1, 2] rfl)
    · have h := (if_neg c0).symm.trans h
      refine lv_iload_n hx hb dX2_allPalms_12 rfl (lv_at hl 1 rfl) ?_
      refine lv_aload_n hx hb dX2_allPalms_13 rfl (lv_at hl 0 rfl) ?_
      refine va_get (D := D) (ci := 2) (v := .ref q2) (C := RX2) (T := TX2) (N := 5) hx hb hts iX2_allPalms_X2 hown hK hP 0 rfl rfl 1 (by decide) (hts (.fieldLink RX2 15 "ClappedWrong$Hall" "palms" "[I") (by decide +kernel)) (fun _ h9 => h9) rfl dX2_allPalms_14 ?_
      refine lv_iload_n hx hb dX2_allPalms_17 rfl (lv_at hl 2 rfl) ?_
      refine k_iald hx hb hK hP 2 rfl dX2_allPalms_18 h (fun v3 h => ?_)
      refine lv_iadd hx hb dX2_allPalms_19 ?_
      refine lv_istore_n (lv' := [(1, .int (z1.1 + v3)), (0, .ref q0), (2, .int z1.2)]) hx hb dX2_allPalms_20 rfl hl (by decide) rfl (fun ls hl => ?_)
      refine lv_iinc (v := (z1.2 + 1)) (lv' := [(2, .int (z1.2 + 1)), (1, .int (z1.1 + v3)), (0, .ref q0)]) hx hb dX2_allPalms_21 hl (k := 2) rfl rfl (by decide) rfl (fun ls hl => ?_)
      refine lv_goto (tgt := 4) hx hb dX2_allPalms_24 (by decide) ?_
      exact ih1 _ _ h _ _ _ hP hD hS (lv_sub hl [2, 1, 0] rfl) kx1
  · intro H locs ls hP hD hS hl
    refine lv_iload_n hx hb dX2_allPalms_27 rfl (lv_at hl 1 rfl) ?_
    have h := Option.some.inj h
    subst h
    exact hRet _ _ _ _ hP hD hS dX2_allPalms_28
theorem iX3_init_X0 : ∀ w ∈ wsX00, w ∈ wsX3_init := by decide +kernel
theorem iX3_init_X3 : ∀ w ∈ wsX30, w ∈ wsX3_init := by decide +kernel
def rX3_init : Room := { frames := 2, cells := 5, slots := 36, locals := 40 }
set_option maxHeartbeats 4000000 in
set_option maxRecDepth 100000 in
theorem mX3_init (l : Launch) (D : va_G) (cI : ClassId) (ad : Nat × Nat) (q0 : Nat) (sz : Nat) : Met l yX3_init wsX3_init rX3_init (kPre D cI ad [.ref q0] [(q0, .inr (3, [.null, .null, .int 0, .int 0, .int 0]))] sz) (kQn D cI (fun (u : (Nat × Nat × Nat × Nat × Nat)) => (wN cI q0 u.1 u.2.1 u.2.2.1 u.2.2.2.1 u.2.2.2.2 0 0 0 0 (fun _ => 0) (fun _ => 0) (fun _ => 0) (fun _ => 0))) (va_A [(q0, .inr (3, [.null, .null, .int 0, .int 0, .int 0]))] sz)) 5 36 (va_A [(q0, .inr (3, [.null, .null, .int 0, .int 0, .int 0]))] sz) := by
  refine kStart (cc := cX3_init) (maxL := 1) (ret := none) (Qc := fun A => kQn D cI (fun (u : (Nat × Nat × Nat × Nat × Nat)) => (wN cI q0 u.1 u.2.1 u.2.2.1 u.2.2.2.1 u.2.2.2.2 0 0 0 0 (fun _ => 0) (fun _ => 0) (fun _ => 0) (fun _ => 0))) A) (by decide) rfl (Nat.le_of_ble_eq_true rfl) ?_
  intro p e s m args below meth c A ls hx hb hr hts hown hlocks hin hml hN hST hA hS hP hK hD hl
  have hown : s.vm.findClass RX3 = some m.cls := hown
  have hl : lv_has ls 1 [(0, .ref q0)] := hl
  refine lv_aload_n hx hb dX3_init_0 rfl (lv_at hl 0 rfl) ?_
  refine W.objInit hx hb hown (hts (.methodLink RX3 3 objectInit) (by decide +kernel)) (hts (.instanceMethod objectInit) (by decide +kernel)) (hts (.code objectInit ⟨#[0xb1]⟩ 1 none) (by decide +kernel)) rfl (by rw [hml]; exact hl.1) rfl dX3_init_1 (Nat.le_of_ble_eq_true rfl) (Nat.le_of_ble_eq_true rfl) ?_
  refine lv_aload_n hx hb dX3_init_4 rfl (lv_at hl 0 rfl) ?_
  refine va_new (ci := 0) (fs := [.null, .null, .null, .int 0]) (C := RX0) (T := TX0) (N := 4) hx hb hts iX3_init_X0 tyX0 tyX0_ok hown (hts (.classLink RX3 9 RX0) (by decide +kernel)) (hts (.instantiable RX0 4) (by decide +kernel)) (hts (.initialized RX0) (by decide +kernel)) hK hP hD hS hA rfl (fun j hj => match j, hj with | 0, _ => rfl | 1, _ => rfl | 2, _ => rfl | 3, _ => rfl | n + 4, h => absurd h (by omega)) (Nat.le_of_ble_eq_true rfl) (Nat.le_of_ble_eq_true rfl) dX3_init_5 (fun q1 H hP hD hS => ?_)
  have hP : va_P D vwCl [(q0, .inr (3, [.null, .null, .int 0, .int 0, .int 0])), (q1, .inr (0, [.null, .null, .null, .int 0]))] H := hP
  have hD : va_D A [(q0, .inr (3, [.null, .null, .int 0, .int 0, .int 0])), (q1, .inr (0, [.null, .null, .null, .int 0]))] := hD
  refine lv_dup hx hb dX3_init_8 rfl ?_
  refine k_cn (k2 := 4) (n2 := 28) (wc := [(q1, .inr (0, [.null, .null, .null, .int 0]))]) (wr := [(q0, .inr (3, [.null, .null, .int 0, .int 0, .int 0]))]) (va_runI (As := []) (rest := [.ref q1, .ref q0]) ⟨hx, hb, hml, hown, hts⟩ (mX0_init l D cI ad q1 _) (cwI 0 hts gX3_init_X0_init rfl rfl rfl (hts (.initialized RX0) (by decide +kernel)) (hts (.methodLink RX3 11 yX0_init) (by decide +kernel)) (hts (.instanceMethod yX0_init) (by decide +kernel)) rfl (by decide +kernel) ⟨Nat.le_of_ble_eq_true rfl, Nat.le_of_ble_eq_true rfl⟩) (k_pres (av := [.ref q1]) hN hST hA hK hP hD hS (isC := [1]) rfl rfl) rfl rfl hl.1 rfl (lv_room (Nat.le_of_ble_eq_true rfl)) dX3_init_9 ⟨Nat.le_of_ble_eq_true rfl, Nat.le_of_ble_eq_true rfl⟩) hP hD hS hA [1] [0] rfl rfl (by decide) (by decide) rfl rfl (fun u1 H locs hP hD hS => ?_)
  have hP : va_P D vwCl [(q0, .inr (3, [.null, .null, .int 0, .int 0, .int 0])), (q1, .inr (0, [.ref u1.1, .ref u1.2.1, .ref u1.2.2, .int 0])), (u1.1, .inl (cI, 8, .inl (fun _ => 0))), (u1.2.1, .inl (cI, 8, .inl (fun _ => 0))), (u1.2.2, .inl (cI, 8, .inl (fun _ => 0)))] H := hP
  have hD : va_D A [(q0, .inr (3, [.null, .null, .int 0, .int 0, .int 0])), (q1, .inr (0, [.ref u1.1, .ref u1.2.1, .ref u1.2.2, .int 0])), (u1.1, .inl (cI, 8, .inl (fun _ => 0))), (u1.2.1, .inl (cI, 8, .inl (fun _ => 0))), (u1.2.2, .inl (cI, 8, .inl (fun _ => 0)))] := hD
  refine va_putF (D := D) (ci := 3) (v := .ref q1) (ty := (.object "ClappedWrong$Crowd")) (C := RX3) (T := TX3) (N := 5) hx hb hts iX3_init_X3 tyX3 tyX3_ok nmX3 hown hK hP hD hS 0 rfl rfl 0 (by decide) (hts (.fieldLink RX3 12 "ClappedWrong$Night" "crowd" "LClappedWrong$Crowd;") (by decide +kernel)) (fun _ h9 => h9) rfl hin rfl (by decide +kernel) rfl rfl (Nat.le_of_ble_eq_true rfl) dX3_init_12 (fun H locs hP hD hS => ?_)
  have hP : va_P D vwCl [(q0, .inr (3, [.ref q1, .null, .int 0, .int 0, .int 0])), (q1, .inr (0, [.ref u1.1, .ref u1.2.1, .ref u1.2.2, .int 0])), (u1.1, .inl (cI, 8, .inl (fun _ => 0))), (u1.2.1, .inl (cI, 8, .inl (fun _ => 0))), (u1.2.2, .inl (cI, 8, .inl (fun _ => 0)))] H := hP
  have hD : va_D A [(q0, .inr (3, [.ref q1, .null, .int 0, .int 0, .int 0])), (q1, .inr (0, [.ref u1.1, .ref u1.2.1, .ref u1.2.2, .int 0])), (u1.1, .inl (cI, 8, .inl (fun _ => 0))), (u1.2.1, .inl (cI, 8, .inl (fun _ => 0))), (u1.2.2, .inl (cI, 8, .inl (fun _ => 0)))] := hD
  refine lv_aload_n hx hb dX3_init_15 rfl (lv_at hl 0 rfl) ?_
  refine lv_bipush (v := 8) hx hb dX3_init_16 (by decide) ?_
  refine k_newa 8 (k2 := 5) (n2 := 36) hx hb (hts (.arrayClass .int) (by decide +kernel)) hK hP hD hS hA (by decide) (by decide) (by decide) (Nat.le_of_ble_eq_true rfl) (Nat.le_of_ble_eq_true rfl) dX3_init_18 (fun q2 => [(q0, .inr (3, [.ref q1, .null, .int 0, .int 0, .int 0])), (q1, .inr (0, [.ref u1.1, .ref u1.2.1, .ref u1.2.2, .int 0])), (u1.1, .inl (cI, 8, .inl (fun _ => 0))), (u1.2.1, .inl (cI, 8, .inl (fun _ => 0))), (u1.2.2, .inl (cI, 8, .inl (fun _ => 0))), (q2, .inl (cI, 8, .inl (fun _ => 0)))]) (fun _ => rfl) rfl rfl (fun q2 H hP hD hS => ?_)
  refine va_putF (D := D) (ci := 3) (v := .ref q2) (ty := (.array .int)) (C := RX3) (T := TX3) (N := 5) hx hb hts iX3_init_X3 tyX3 tyX3_ok nmX3 hown hK hP hD hS 0 rfl rfl 1 (by decide) (hts (.fieldLink RX3 18 "ClappedWrong$Night" "rightBehindBar" "[I") (by decide +kernel)) (fun _ h9 => h9) rfl hin rfl (by decide +kernel) rfl rfl (Nat.le_of_ble_eq_true rfl) dX3_init_20 (fun H locs hP hD hS => ?_)
  have hP : va_P D vwCl (wN cI q0 q1 u1.1 u1.2.1 u1.2.2 q2 0 0 0 0 (fun _ => 0) (fun _ => 0) (fun _ => 0) (fun _ => 0)) H := hP
  have hD : va_D A (wN cI q0 q1 u1.1 u1.2.1 u1.2.2 q2 0 0 0 0 (fun _ => 0) (fun _ => 0) (fun _ => 0) (fun _ => 0)) := hD
  refine lv_aload_n hx hb dX3_init_23 rfl (lv_at hl 0 rfl) ?_
  refine lv_iconst (v := 0) hx hb dX3_init_24 (by decide) ?_
  refine va_put (D := D) (ci := 3) (v := .int 0) (ty := .int) (C := RX3) (T := TX3) (N := 5) hx hb hts iX3_init_X3 tyX3 tyX3_ok nmX3 hown hK hP hD hS 0 rfl rfl 2 (by decide) (hts (.fieldLink RX3 22 "ClappedWrong$Night" "recorded" "I") (by decide +kernel)) (fun _ h9 => h9) rfl (by decide +kernel) rfl rfl (Nat.le_of_ble_eq_true rfl) dX3_init_25 (fun H locs hP hD hS => ?_)
  have hP : va_P D vwCl (wN cI q0 q1 u1.1 u1.2.1 u1.2.2 q2 0 0 0 0 (fun _ => 0) (fun _ => 0) (fun _ => 0) (fun _ => 0)) H := hP
  have hD : va_D A (wN cI q0 q1 u1.1 u1.2.1 u1.2.2 q2 0 0 0 0 (fun _ => 0) (fun _ => 0) (fun _ => 0) (fun _ => 0)) := hD
  refine lv_aload_n hx hb dX3_init_28 rfl (lv_at hl 0 rfl) ?_
  refine lv_iconst (v := 0) hx hb dX3_init_29 (by decide) ?_
  refine va_put (D := D) (ci := 3) (v := .int 0) (ty := .int) (C := RX3) (T := TX3) (N := 5) hx hb hts iX3_init_X3 tyX3 tyX3_ok nmX3 hown hK hP hD hS 0 rfl rfl 3 (by decide) (hts (.fieldLink RX3 26 "ClappedWrong$Night" "barsGone" "I") (by decide +kernel)) (fun _ h9 => h9) rfl (by decide +kernel) rfl rfl (Nat.le_of_ble_eq_true rfl) dX3_init_30 (fun H locs hP hD hS => ?_)
  have hP : va_P D vwCl (wN cI q0 q1 u1.1 u1.2.1 u1.2.2 q2 0 0 0 0 (fun _ => 0) (fun _ => 0) (fun _ => 0) (fun _ => 0)) H := hP
  have hD : va_D A (wN cI q0 q1 u1.1 u1.2.1 u1.2.2 q2 0 0 0 0 (fun _ => 0) (fun _ => 0) (fun _ => 0) (fun _ => 0)) := hD
  refine lv_aload_n hx hb dX3_init_33 rfl (lv_at hl 0 rfl) ?_
  refine lv_iconst (v := 0) hx hb dX3_init_34 (by decide) ?_
  refine va_put (D := D) (ci := 3) (v := .int 0) (ty := .int) (C := RX3) (T := TX3) (N := 5) hx hb hts iX3_init_X3 tyX3 tyX3_ok nmX3 hown hK hP hD hS 0 rfl rfl 4 (by decide) (hts (.fieldLink RX3 29 "ClappedWrong$Night" "beatsLeftOut" "I") (by decide +kernel)) (fun _ h9 => h9) rfl (by decide +kernel) rfl rfl (Nat.le_of_ble_eq_true rfl) dX3_init_35 (fun H locs hP hD hS => ?_)
  have hP : va_P D vwCl (wN cI q0 q1 u1.1 u1.2.1 u1.2.2 q2 0 0 0 0 (fun _ => 0) (fun _ => 0) (fun _ => 0) (fun _ => 0)) H := hP
  have hD : va_D A (wN cI q0 q1 u1.1 u1.2.1 u1.2.2 q2 0 0 0 0 (fun _ => 0) (fun _ => 0) (fun _ => 0) (fun _ => 0)) := hD
  have hP := hP.sub (ws' := (wN cI q0 q1 u1.1 u1.2.1 u1.2.2 q2 0 0 0 0 (fun _ => 0) (fun _ => 0) (fun _ => 0) (fun _ => 0))) [0, 1, 2, 3, 4, 5] rfl
  have hD := hD.sub (ws' := (wN cI q0 q1 u1.1 u1.2.1 u1.2.2 q2 0 0 0 0 (fun _ => 0) (fun _ => 0) (fun _ => 0) (fun _ => 0))) [0, 1, 2, 3, 4, 5] (by decide) rfl
  exact k_nret (wn := (fun (u : (Nat × Nat × Nat × Nat × Nat)) => (wN cI q0 u.1 u.2.1 u.2.2.1 u.2.2.2.1 u.2.2.2.2 0 0 0 0 (fun _ => 0) (fun _ => 0) (fun _ => 0) (fun _ => 0)))) (q1, u1.1, u1.2.1, u1.2.2, q2) hx hb hr hlocks hK hP hD hS dX3_init_38
theorem iX3_startAnew_X3 : ∀ w ∈ wsX30, w ∈ wsX3_startAnew := by decide +kernel
def rX3_startAnew : Room := { frames := 1, cells := 0, slots := 0, locals := 22 }
set_option maxHeartbeats 4000000 in
set_option maxRecDepth 100000 in
theorem mX3_startAnew (l : Launch) (D : va_G) (cI : ClassId) (ad : Nat × Nat) (q0 q1 q2 q3 q4 q5 : Nat) (sz : Nat) (s_recorded : Int32) (s_barsGone : Int32) (s_beatsLeftOut : Int32) (s_crowd_armRows : Int32) (s_crowd_sounds : (Nat → Int32)) (s_crowd_clapped : (Nat → Int32)) (s_crowd_next : (Nat → Int32)) (s_rightBehindBar : (Nat → Int32)) (r : (Int32 × Int32 × Int32 × Int32 × (Nat → Int32) × (Nat → Int32))) (h : fX3_startAnew s_crowd_sounds s_crowd_clapped = some r) : Met l yX3_startAnew wsX3_startAnew rX3_startAnew (kPre D cI ad [.ref q0] (wN cI q0 q1 q2 q3 q4 q5 s_recorded s_barsGone s_beatsLeftOut s_crowd_armRows s_crowd_sounds s_crowd_clapped s_crowd_next s_rightBehindBar) sz) (kQv D cI (wN cI q0 q1 q2 q3 q4 q5 r.1 r.2.1 r.2.2.1 r.2.2.2.1 r.2.2.2.2.1 r.2.2.2.2.2 s_crowd_next s_rightBehindBar) (va_A (wN cI q0 q1 q2 q3 q4 q5 s_recorded s_barsGone s_beatsLeftOut s_crowd_armRows s_crowd_sounds s_crowd_clapped s_crowd_next s_rightBehindBar) sz)) 0 0 (va_A (wN cI q0 q1 q2 q3 q4 q5 s_recorded s_barsGone s_beatsLeftOut s_crowd_armRows s_crowd_sounds s_crowd_clapped s_crowd_next s_rightBehindBar) sz) := by
  refine kStart (cc := cX3_startAnew) (maxL := 1) (ret := none) (Qc := fun A => kQv D cI (wN cI q0 q1 q2 q3 q4 q5 r.1 r.2.1 r.2.2.1 r.2.2.2.1 r.2.2.2.2.1 r.2.2.2.2.2 s_crowd_next s_rightBehindBar) A) (by decide) rfl (Nat.le_of_ble_eq_true rfl) ?_
  intro p e s m args below meth c A ls hx hb hr hts hown hlocks hin hml hN hST hA hS hP hK hD hl
  have hown : s.vm.findClass RX3 = some m.cls := hown
  have hl : lv_has ls 1 [(0, .ref q0)] := hl
  have hRet : ∀ (H : Heap) (locs : List Loc) (ls : Array Slot) (pc : Nat), va_P D vwCl (wN cI q0 q1 q2 q3 q4 q5 r.1 r.2.1 r.2.2.1 r.2.2.2.1 r.2.2.2.2.1 r.2.2.2.2.2 s_crowd_next s_rightBehindBar) H → va_D A (wN cI q0 q1 q2 q3 q4 q5 r.1 r.2.1 r.2.2.1 r.2.2.2.1 r.2.2.2.2.1 r.2.2.2.2.2 s_crowd_next s_rightBehindBar) → va_S A s.heap H locs → decode cX3_startAnew pc = .ok (.return_, 1) → W p l e rX3_startAnew s m args below meth c H locs 0 0 (MQ below (kQv D cI (wN cI q0 q1 q2 q3 q4 q5 r.1 r.2.1 r.2.2.1 r.2.2.2.1 r.2.2.2.2.1 r.2.2.2.2.2 s_crowd_next s_rightBehindBar) A) args s 0 0 A) (F0 m pc ls []) := fun H locs ls pc hP hD hS hd => k_vret hx hb hr hlocks hK hP hD hS hd
  generalize MQ below (kQv D cI (wN cI q0 q1 q2 q3 q4 q5 r.1 r.2.1 r.2.2.1 r.2.2.2.1 r.2.2.2.2.1 r.2.2.2.2.2 s_crowd_next s_rightBehindBar) A) args s 0 0 A = Q at hRet ⊢
  unfold fX3_startAnew at h
  refine lv_aload_n hx hb dX3_startAnew_0 rfl (lv_at hl 0 rfl) ?_
  refine va_get (D := D) (ci := 3) (v := .ref q1) (C := RX3) (T := TX3) (N := 5) hx hb hts iX3_startAnew_X3 hown hK hP 0 rfl rfl 0 (by decide) (hts (.fieldLink RX3 12 "ClappedWrong$Night" "crowd" "LClappedWrong$Crowd;") (by decide +kernel)) (fun _ h9 => h9) rfl dX3_startAnew_1 ?_
  refine lv_iconst (v := 0) hx hb dX3_startAnew_4 (by decide) ?_
  obtain ⟨u1, hu1, h⟩ := k_bs h
  refine k_cv (k2 := 0) (n2 := 0) (wc := (wC cI q1 q2 q3 q4 s_crowd_armRows s_crowd_sounds s_crowd_clapped s_crowd_next)) (wc' := (wC cI q1 q2 q3 q4 u1.1 u1.2.1 u1.2.2 s_crowd_next)) (w2 := (wN cI q0 q1 q2 q3 q4 q5 s_recorded s_barsGone s_beatsLeftOut u1.1 u1.2.1 u1.2.2 s_crowd_next s_rightBehindBar)) (va_runV (C := RX0) (As := [.int 0]) (rest := []) ⟨hx, hb, hml, hown, hts⟩ (mX0_beginWith l D cI ad q1 q2 q3 q4 _ s_crowd_armRows s_crowd_sounds s_crowd_clapped s_crowd_next 0 u1 hu1) (cwV 1 hts gX3_startAnew_X0_beginWith rfl rfl rfl (by decide +kernel) ⟨Nat.le_of_ble_eq_true rfl, Nat.le_of_ble_eq_true rfl⟩) (k_prev (q := (RX0, TX0, 4)) hN hST hA hK hP hD hS (isC := [1, 2, 3, 4]) rfl rfl 1 (ci := 0) rfl rfl) rfl rfl hl.1 rfl (lv_room (Nat.le_of_ble_eq_true rfl)) dX3_startAnew_5 ⟨Nat.le_of_ble_eq_true rfl, Nat.le_of_ble_eq_true rfl⟩) hP hD hS hA [1, 2, 3, 4] rfl rfl rfl rfl rfl (fun H locs hP hD hS => ?_)
  refine lv_aload_n hx hb dX3_startAnew_8 rfl (lv_at hl 0 rfl) ?_
  refine lv_iconst (v := 0) hx hb dX3_startAnew_9 (by decide) ?_
  refine va_put (D := D) (ci := 3) (v := .int 0) (ty := .int) (C := RX3) (T := TX3) (N := 5) hx hb hts iX3_startAnew_X3 tyX3 tyX3_ok nmX3 hown hK hP hD hS 0 rfl rfl 2 (by decide) (hts (.fieldLink RX3 22 "ClappedWrong$Night" "recorded" "I") (by decide +kernel)) (fun _ h9 => h9) rfl (by decide +kernel) rfl rfl (Nat.le_of_ble_eq_true rfl) dX3_startAnew_10 (fun H locs hP hD hS => ?_)
  have hP : va_P D vwCl (wN cI q0 q1 q2 q3 q4 q5 0 s_barsGone s_beatsLeftOut u1.1 u1.2.1 u1.2.2 s_crowd_next s_rightBehindBar) H := hP
  have hD : va_D A (wN cI q0 q1 q2 q3 q4 q5 0 s_barsGone s_beatsLeftOut u1.1 u1.2.1 u1.2.2 s_crowd_next s_rightBehindBar) := hD
  refine lv_aload_n hx hb dX3_startAnew_13 rfl (lv_at hl 0 rfl) ?_
  refine lv_iconst (v := 0) hx hb dX3_startAnew_14 (by decide) ?_
  refine va_put (D := D) (ci := 3) (v := .int 0) (ty := .int) (C := RX3) (T := TX3) (N := 5) hx hb hts iX3_startAnew_X3 tyX3 tyX3_ok nmX3 hown hK hP hD hS 0 rfl rfl 3 (by decide) (hts (.fieldLink RX3 26 "ClappedWrong$Night" "barsGone" "I") (by decide +kernel)) (fun _ h9 => h9) rfl (by decide +kernel) rfl rfl (Nat.le_of_ble_eq_true rfl) dX3_startAnew_15 (fun H locs hP hD hS => ?_)
  have hP : va_P D vwCl (wN cI q0 q1 q2 q3 q4 q5 0 0 s_beatsLeftOut u1.1 u1.2.1 u1.2.2 s_crowd_next s_rightBehindBar) H := hP
  have hD : va_D A (wN cI q0 q1 q2 q3 q4 q5 0 0 s_beatsLeftOut u1.1 u1.2.1 u1.2.2 s_crowd_next s_rightBehindBar) := hD
  refine lv_aload_n hx hb dX3_startAnew_18 rfl (lv_at hl 0 rfl) ?_
  refine lv_iconst (v := 0) hx hb dX3_startAnew_19 (by decide) ?_
  refine va_put (D := D) (ci := 3) (v := .int 0) (ty := .int) (C := RX3) (T := TX3) (N := 5) hx hb hts iX3_startAnew_X3 tyX3 tyX3_ok nmX3 hown hK hP hD hS 0 rfl rfl 4 (by decide) (hts (.fieldLink RX3 29 "ClappedWrong$Night" "beatsLeftOut" "I") (by decide +kernel)) (fun _ h9 => h9) rfl (by decide +kernel) rfl rfl (Nat.le_of_ble_eq_true rfl) dX3_startAnew_20 (fun H locs hP hD hS => ?_)
  have hP : va_P D vwCl (wN cI q0 q1 q2 q3 q4 q5 0 0 0 u1.1 u1.2.1 u1.2.2 s_crowd_next s_rightBehindBar) H := hP
  have hD : va_D A (wN cI q0 q1 q2 q3 q4 q5 0 0 0 u1.1 u1.2.1 u1.2.2 s_crowd_next s_rightBehindBar) := hD
  have h := Option.some.inj h
  subst h
  exact hRet _ _ _ _ hP hD hS dX3_startAnew_23
theorem iX3_takeFrom_X3 : ∀ w ∈ wsX30, w ∈ wsX3_takeFrom := by decide +kernel
def rX3_takeFrom : Room := { frames := 1, cells := 0, slots := 0, locals := 22 }
set_option maxHeartbeats 4000000 in
set_option maxRecDepth 100000 in
theorem mX3_takeFrom (l : Launch) (D : va_G) (cI : ClassId) (ad : Nat × Nat) (q0 q1 q2 q3 q4 q5 q6 q7 q8 q9 q10 q11 : Nat) (sz : Nat) (s_recorded : Int32) (s_barsGone : Int32) (s_beatsLeftOut : Int32) (s_crowd_armRows : Int32) (s_crowd_sounds : (Nat → Int32)) (s_crowd_clapped : (Nat → Int32)) (s_crowd_next : (Nat → Int32)) (s_rightBehindBar : (Nat → Int32)) (s_other_recorded : Int32) (s_other_barsGone : Int32) (s_other_beatsLeftOut : Int32) (s_other_crowd_armRows : Int32) (s_other_crowd_sounds : (Nat → Int32)) (s_other_crowd_clapped : (Nat → Int32)) (s_other_crowd_next : (Nat → Int32)) (s_other_rightBehindBar : (Nat → Int32)) (r : (Int32 × Int32 × Int32 × Int32 × (Nat → Int32) × (Nat → Int32) × (Nat → Int32))) (h : fX3_takeFrom s_crowd_sounds s_crowd_clapped s_rightBehindBar s_other_crowd_sounds s_other_crowd_clapped s_other_crowd_armRows s_other_rightBehindBar s_other_recorded s_other_barsGone s_other_beatsLeftOut = some r) : Met l yX3_takeFrom wsX3_takeFrom rX3_takeFrom (kPre D cI ad [.ref q0, .ref q6] (wNN cI q0 q1 q2 q3 q4 q5 q6 q7 q8 q9 q10 q11 s_recorded s_barsGone s_beatsLeftOut s_crowd_armRows s_crowd_sounds s_crowd_clapped s_crowd_next s_rightBehindBar s_other_recorded s_other_barsGone s_other_beatsLeftOut s_other_crowd_armRows s_other_crowd_sounds s_other_crowd_clapped s_other_crowd_next s_other_rightBehindBar) sz) (kQv D cI (wNN cI q0 q1 q2 q3 q4 q5 q6 q7 q8 q9 q10 q11 r.1 r.2.1 r.2.2.1 r.2.2.2.1 r.2.2.2.2.1 r.2.2.2.2.2.1 s_crowd_next r.2.2.2.2.2.2 s_other_recorded s_other_barsGone s_other_beatsLeftOut s_other_crowd_armRows s_other_crowd_sounds s_other_crowd_clapped s_other_crowd_next s_other_rightBehindBar) (va_A (wNN cI q0 q1 q2 q3 q4 q5 q6 q7 q8 q9 q10 q11 s_recorded s_barsGone s_beatsLeftOut s_crowd_armRows s_crowd_sounds s_crowd_clapped s_crowd_next s_rightBehindBar s_other_recorded s_other_barsGone s_other_beatsLeftOut s_other_crowd_armRows s_other_crowd_sounds s_other_crowd_clapped s_other_crowd_next s_other_rightBehindBar) sz)) 0 0 (va_A (wNN cI q0 q1 q2 q3 q4 q5 q6 q7 q8 q9 q10 q11 s_recorded s_barsGone s_beatsLeftOut s_crowd_armRows s_crowd_sounds s_crowd_clapped s_crowd_next s_rightBehindBar s_other_recorded s_other_barsGone s_other_beatsLeftOut s_other_crowd_armRows s_other_crowd_sounds s_other_crowd_clapped s_other_crowd_next s_other_rightBehindBar) sz) := by
  refine kStart (cc := cX3_takeFrom) (maxL := 3) (ret := none) (Qc := fun A => kQv D cI (wNN cI q0 q1 q2 q3 q4 q5 q6 q7 q8 q9 q10 q11 r.1 r.2.1 r.2.2.1 r.2.2.2.1 r.2.2.2.2.1 r.2.2.2.2.2.1 s_crowd_next r.2.2.2.2.2.2 s_other_recorded s_other_barsGone s_other_beatsLeftOut s_other_crowd_armRows s_other_crowd_sounds s_other_crowd_clapped s_other_crowd_next s_other_rightBehindBar) A) (by decide) rfl (Nat.le_of_ble_eq_true rfl) ?_
  intro p e s m args below meth c A ls hx hb hr hts hown hlocks hin hml hN hST hA hS hP hK hD hl
  have hown : s.vm.findClass RX3 = some m.cls := hown
  have hl : lv_has ls 3 [(0, .ref q0), (1, .ref q6)] := hl
  have hRet : ∀ (H : Heap) (locs : List Loc) (ls : Array Slot) (pc : Nat), va_P D vwCl (wNN cI q0 q1 q2 q3 q4 q5 q6 q7 q8 q9 q10 q11 r.1 r.2.1 r.2.2.1 r.2.2.2.1 r.2.2.2.2.1 r.2.2.2.2.2.1 s_crowd_next r.2.2.2.2.2.2 s_other_recorded s_other_barsGone s_other_beatsLeftOut s_other_crowd_armRows s_other_crowd_sounds s_other_crowd_clapped s_other_crowd_next s_other_rightBehindBar) H → va_D A (wNN cI q0 q1 q2 q3 q4 q5 q6 q7 q8 q9 q10 q11 r.1 r.2.1 r.2.2.1 r.2.2.2.1 r.2.2.2.2.1 r.2.2.2.2.2.1 s_crowd_next r.2.2.2.2.2.2 s_other_recorded s_other_barsGone s_other_beatsLeftOut s_other_crowd_armRows s_other_crowd_sounds s_other_crowd_clapped s_other_crowd_next s_other_rightBehindBar) → va_S A s.heap H locs → decode cX3_takeFrom pc = .ok (.return_, 1) → W p l e rX3_takeFrom s m args below meth c H locs 0 0 (MQ below (kQv D cI (wNN cI q0 q1 q2 q3 q4 q5 q6 q7 q8 q9 q10 q11 r.1 r.2.1 r.2.2.1 r.2.2.2.1 r.2.2.2.2.1 r.2.2.2.2.2.1 s_crowd_next r.2.2.2.2.2.2 s_other_recorded s_other_barsGone s_other_beatsLeftOut s_other_crowd_armRows s_other_crowd_sounds s_other_crowd_clapped s_other_crowd_next s_other_rightBehindBar) A) args s 0 0 A) (F0 m pc ls []) := fun H locs ls pc hP hD hS hd => k_vret hx hb hr hlocks hK hP hD hS hd
  generalize MQ below (kQv D cI (wNN cI q0 q1 q2 q3 q4 q5 q6 q7 q8 q9 q10 q11 r.1 r.2.1 r.2.2.1 r.2.2.2.1 r.2.2.2.2.1 r.2.2.2.2.2.1 s_crowd_next r.2.2.2.2.2.2 s_other_recorded s_other_barsGone s_other_beatsLeftOut s_other_crowd_armRows s_other_crowd_sounds s_other_crowd_clapped s_other_crowd_next s_other_rightBehindBar) A) args s 0 0 A = Q at hRet ⊢
  unfold fX3_takeFrom at h
  refine lv_aload_n hx hb dX3_takeFrom_0 rfl (lv_at hl 0 rfl) ?_
  refine va_get (D := D) (ci := 3) (v := .ref q1) (C := RX3) (T := TX3) (N := 5) hx hb hts iX3_takeFrom_X3 hown hK hP 0 rfl rfl 0 (by decide) (hts (.fieldLink RX3 12 "ClappedWrong$Night" "crowd" "LClappedWrong$Crowd;") (by decide +kernel)) (fun _ h9 => h9) rfl dX3_takeFrom_1 ?_
  refine lv_aload_n hx hb dX3_takeFrom_4 rfl (lv_at hl 1 rfl) ?_
  refine va_get (D := D) (ci := 3) (v := .ref q7) (C := RX3) (T := TX3) (N := 5) hx hb hts iX3_takeFrom_X3 hown hK hP 6 rfl rfl 0 (by decide) (hts (.fieldLink RX3 12 "ClappedWrong$Night" "crowd" "LClappedWrong$Crowd;") (by decide +kernel)) (fun _ h9 => h9) rfl dX3_takeFrom_5 ?_
  obtain ⟨u1, hu1, h⟩ := k_bs h
  refine k_cv (k2 := 0) (n2 := 0) (wc := (wCC cI q1 q2 q3 q4 q7 q8 q9 q10 s_crowd_armRows s_crowd_sounds s_crowd_clapped s_crowd_next s_other_crowd_armRows s_other_crowd_sounds s_other_crowd_clapped s_other_crowd_next)) (wc' := (wCC cI q1 q2 q3 q4 q7 q8 q9 q10 u1.1 u1.2.1 u1.2.2 s_crowd_next s_other_crowd_armRows s_other_crowd_sounds s_other_crowd_clapped s_other_crowd_next)) (w2 := (wNN cI q0 q1 q2 q3 q4 q5 q6 q7 q8 q9 q10 q11 s_recorded s_barsGone s_beatsLeftOut u1.1 u1.2.1 u1.2.2 s_crowd_next s_rightBehindBar s_other_recorded s_other_barsGone s_other_beatsLeftOut s_other_crowd_armRows s_other_crowd_sounds s_other_crowd_clapped s_other_crowd_next s_other_rightBehindBar)) (va_runV (C := RX0) (As := [.ref q7]) (rest := []) ⟨hx, hb, hml, hown, hts⟩ (mX0_takeFrom l D cI ad q1 q2 q3 q4 q7 q8 q9 q10 _ s_crowd_armRows s_crowd_sounds s_crowd_clapped s_crowd_next s_other_crowd_armRows s_other_crowd_sounds s_other_crowd_clapped s_other_crowd_next u1 hu1) (cwV 1 hts gX3_takeFrom_X0_takeFrom rfl rfl rfl (by decide +kernel) ⟨Nat.le_of_ble_eq_true rfl, Nat.le_of_ble_eq_true rfl⟩) (k_prev (q := (RX0, TX0, 4)) hN hST hA hK hP hD hS (isC := [1, 2, 3, 4, 7, 8, 9, 10]) rfl rfl 1 (ci := 0) rfl rfl) rfl rfl hl.1 rfl (lv_room (Nat.le_of_ble_eq_true rfl)) dX3_takeFrom_8 ⟨Nat.le_of_ble_eq_true rfl, Nat.le_of_ble_eq_true rfl⟩) hP hD hS hA [1, 2, 3, 4, 7, 8, 9, 10] rfl rfl rfl rfl rfl (fun H locs hP hD hS => ?_)
  refine lv_iconst (v := 0) hx hb dX3_takeFrom_11 (by decide) ?_
  refine lv_istore_n (lv' := [(2, .int 0), (0, .ref q0), (1, .ref q6)]) hx hb dX3_takeFrom_12 rfl hl (by decide) rfl (fun ls hl => ?_)
  obtain ⟨u3, hu3, h⟩ := k_bs h
  refine kIter_ind (fun (z2 : (Int32 × (Nat → Int32))) (u3 : (Int32 × (Nat → Int32))) => ∀ (H : Heap) (locs : List Loc) (ls : Array Slot), va_P D vwCl (wNN cI q0 q1 q2 q3 q4 q5 q6 q7 q8 q9 q10 q11 s_recorded s_barsGone s_beatsLeftOut u1.1 u1.2.1 u1.2.2 s_crowd_next z2.2 s_other_recorded s_other_barsGone s_other_beatsLeftOut s_other_crowd_armRows s_other_crowd_sounds s_other_crowd_clapped s_other_crowd_next s_other_rightBehindBar) H → va_D A (wNN cI q0 q1 q2 q3 q4 q5 q6 q7 q8 q9 q10 q11 s_recorded s_barsGone s_beatsLeftOut u1.1 u1.2.1 u1.2.2 s_crowd_next z2.2 s_other_recorded s_other_barsGone s_other_beatsLeftOut s_other_crowd_armRows s_other_crowd_sounds s_other_crowd_clapped s_other_crowd_next s_other_rightBehindBar) → va_S A s.heap H locs → lv_has ls 3 [(0, .ref q0), (1, .ref q6), (2, .int z2.1)] → (∀ (H : Heap) (locs : List Loc) (ls : Array Slot), va_P D vwCl (wNN cI q0 q1 q2 q3 q4 q5 q6 q7 q8 q9 q10 q11 s_recorded s_barsGone s_beatsLeftOut u1.1 u1.2.1 u1.2.2 s_crowd_next u3.2 s_other_recorded s_other_barsGone s_other_beatsLeftOut s_other_crowd_armRows s_other_crowd_sounds s_other_crowd_clapped s_other_crowd_next s_other_rightBehindBar) H → va_D A (wNN cI q0 q1 q2 q3 q4 q5 q6 q7 q8 q9 q10 q11 s_recorded s_barsGone s_beatsLeftOut u1.1 u1.2.1 u1.2.2 s_crowd_next u3.2 s_other_recorded s_other_barsGone s_other_beatsLeftOut s_other_crowd_armRows s_other_crowd_sounds s_other_crowd_clapped s_other_crowd_next s_other_rightBehindBar) → va_S A s.heap H locs → lv_has ls 3 [(0, .ref q0), (1, .ref q6), (2, .int u3.1)] → W p l e rX3_takeFrom s m args below meth c H locs 0 0 Q (F0 m 37 ls [])) → W p l e rX3_takeFrom s m args below meth c H locs 0 0 Q (F0 m 13 ls [])) ?_ _ _ _ hu3 _ _ _ hP hD hS (lv_sub hl [1, 2, 0] rfl) ?_
  · intro rc2 ih2 z2 u3 h H locs ls hP hD hS hl kx2
    unfold fX3_takeFrom_L1 at h
    refine lv_iload_n hx hb dX3_takeFrom_13 rfl (lv_at hl 2 rfl) ?_
    refine lv_bipush (v := 8) hx hb dX3_takeFrom_14 (by decide) ?_
    refine lv_icmp_ge (tgt := 37) hx hb dX3_takeFrom_16 (by decide) (fun c0 => ?_) (fun c0 => ?_)
    · have h := (if_pos c0).symm.trans h
      have h := Option.some.inj h
      subst h
      exact kx2 _ _ _ hP hD hS (lv_sub hl [0, 1, 2] rfl)
    · have h := (if_neg c0).symm.trans h
      refine lv_aload_n hx hb dX3_takeFrom_19 rfl (lv_at hl 0 rfl) ?_
      refine va_get (D := D) (ci := 3) (v := .ref q5) (C := RX3) (T := TX3) (N := 5) hx hb hts iX3_takeFrom_X3 hown hK hP 0 rfl rfl 1 (by decide) (hts (.fieldLink RX3 18 "ClappedWrong$Night" "rightBehindBar" "[I") (by decide +kernel)) (fun _ h9 => h9) rfl dX3_takeFrom_20 ?_
      refine lv_iload_n hx hb dX3_takeFrom_23 rfl (lv_at hl 2 rfl) ?_
      refine lv_aload_n hx hb dX3_takeFrom_24 rfl (lv_at hl 1 rfl) ?_
      refine va_get (D := D) (ci := 3) (v := .ref q11) (C := RX3) (T := TX3) (N := 5) hx hb hts iX3_takeFrom_X3 hown hK hP 6 rfl rfl 1 (by decide) (hts (.fieldLink RX3 18 "ClappedWrong$Night" "rightBehindBar" "[I") (by decide +kernel)) (fun _ h9 => h9) rfl dX3_takeFrom_25 ?_
      refine lv_iload_n hx hb dX3_takeFrom_28 rfl (lv_at hl 2 rfl) ?_
      refine k_iald hx hb hK hP 11 rfl dX3_takeFrom_29 h (fun v4 h => ?_)
      refine k_iast hx hb hK hP hD hS 5 rfl dX3_takeFrom_30 h (fun g5 => (wNN cI q0 q1 q2 q3 q4 q5 q6 q7 q8 q9 q10 q11 s_recorded s_barsGone s_beatsLeftOut u1.1 u1.2.1 u1.2.2 s_crowd_next g5 s_other_recorded s_other_barsGone s_other_beatsLeftOut s_other_crowd_armRows s_other_crowd_sounds s_other_crowd_clapped s_other_crowd_next s_other_rightBehindBar)) (fun _ => rfl) (fun g5 H locs h hP hD hS => ?_)
      refine lv_iinc (v := (z2.1 + 1)) (lv' := [(2, .int (z2.1 + 1)), (0, .ref q0), (1, .ref q6)]) hx hb dX3_takeFrom_31 hl (k := 2) rfl rfl (by decide) rfl (fun ls hl => ?_)
      refine lv_goto (tgt := 13) hx hb dX3_takeFrom_34 (by decide) ?_
      exact ih2 _ _ h _ _ _ hP hD hS (lv_sub hl [1, 2, 0] rfl) kx2
  · intro H locs ls hP hD hS hl
    refine lv_aload_n hx hb dX3_takeFrom_37 rfl (lv_at hl 0 rfl) ?_
    refine lv_aload_n hx hb dX3_takeFrom_38 rfl (lv_at hl 1 rfl) ?_
    refine va_get (D := D) (ci := 3) (v := .int s_other_recorded) (C := RX3) (T := TX3) (N := 5) hx hb hts iX3_takeFrom_X3 hown hK hP 6 rfl rfl 2 (by decide) (hts (.fieldLink RX3 22 "ClappedWrong$Night" "recorded" "I") (by decide +kernel)) (fun _ h9 => h9) rfl dX3_takeFrom_39 ?_
    refine va_put (D := D) (ci := 3) (v := .int s_other_recorded) (ty := .int) (C := RX3) (T := TX3) (N := 5) hx hb hts iX3_takeFrom_X3 tyX3 tyX3_ok nmX3 hown hK hP hD hS 0 rfl rfl 2 (by decide) (hts (.fieldLink RX3 22 "ClappedWrong$Night" "recorded" "I") (by decide +kernel)) (fun _ h9 => h9) rfl (by decide +kernel) rfl rfl (Nat.le_of_ble_eq_true rfl) dX3_takeFrom_42 (fun H locs hP hD hS => ?_)
    have hP : va_P D vwCl (wNN cI q0 q1 q2 q3 q4 q5 q6 q7 q8 q9 q10 q11 s_other_recorded s_barsGone s_beatsLeftOut u1.1 u1.2.1 u1.2.2 s_crowd_next u3.2 s_other_recorded s_other_barsGone s_other_beatsLeftOut s_other_crowd_armRows s_other_crowd_sounds s_other_crowd_clapped s_other_crowd_next s_other_rightBehindBar) H := hP
    have hD : va_D A (wNN cI q0 q1 q2 q3 q4 q5 q6 q7 q8 q9 q10 q11 s_other_recorded s_barsGone s_beatsLeftOut u1.1 u1.2.1 u1.2.2 s_crowd_next u3.2 s_other_recorded s_other_barsGone s_other_beatsLeftOut s_other_crowd_armRows s_other_crowd_sounds s_other_crowd_clapped s_other_crowd_next s_other_rightBehindBar) := hD
    refine lv_aload_n hx hb dX3_takeFrom_45 rfl (lv_at hl 0 rfl) ?_
    refine lv_aload_n hx hb dX3_takeFrom_46 rfl (lv_at hl 1 rfl) ?_
    refine va_get (D := D) (ci := 3) (v := .int s_other_barsGone) (C := RX3) (T := TX3) (N := 5) hx hb hts iX3_takeFrom_X3 hown hK hP 6 rfl rfl 3 (by decide) (hts (.fieldLink RX3 26 "ClappedWrong$Night" "barsGone" "I") (by decide +kernel)) (fun _ h9 => h9) rfl dX3_takeFrom_47 ?_
    refine va_put (D := D) (ci := 3) (v := .int s_other_barsGone) (ty := .int) (C := RX3) (T := TX3) (N := 5) hx hb hts iX3_takeFrom_X3 tyX3 tyX3_ok nmX3 hown hK hP hD hS 0 rfl rfl 3 (by decide) (hts (.fieldLink RX3 26 "ClappedWrong$Night" "barsGone" "I") (by decide +kernel)) (fun _ h9 => h9) rfl (by decide +kernel) rfl rfl (Nat.le_of_ble_eq_true rfl) dX3_takeFrom_50 (fun H locs hP hD hS => ?_)
    have hP : va_P D vwCl (wNN cI q0 q1 q2 q3 q4 q5 q6 q7 q8 q9 q10 q11 s_other_recorded s_other_barsGone s_beatsLeftOut u1.1 u1.2.1 u1.2.2 s_crowd_next u3.2 s_other_recorded s_other_barsGone s_other_beatsLeftOut s_other_crowd_armRows s_other_crowd_sounds s_other_crowd_clapped s_other_crowd_next s_other_rightBehindBar) H := hP
    have hD : va_D A (wNN cI q0 q1 q2 q3 q4 q5 q6 q7 q8 q9 q10 q11 s_other_recorded s_other_barsGone s_beatsLeftOut u1.1 u1.2.1 u1.2.2 s_crowd_next u3.2 s_other_recorded s_other_barsGone s_other_beatsLeftOut s_other_crowd_armRows s_other_crowd_sounds s_other_crowd_clapped s_other_crowd_next s_other_rightBehindBar) := hD
    refine lv_aload_n hx hb dX3_takeFrom_53 rfl (lv_at hl 0 rfl) ?_
    refine lv_aload_n hx hb dX3_takeFrom_54 rfl (lv_at hl 1 rfl) ?_
    refine va_get (D := D) (ci := 3) (v := .int s_other_beatsLeftOut) (C := RX3) (T := TX3) (N := 5) hx hb hts iX3_takeFrom_X3 hown hK hP 6 rfl rfl 4 (by decide) (hts (.fieldLink RX3 29 "ClappedWrong$Night" "beatsLeftOut" "I") (by decide +kernel)) (fun _ h9 => h9) rfl dX3_takeFrom_55 ?_
    refine va_put (D := D) (ci := 3) (v := .int s_other_beatsLeftOut) (ty := .int) (C := RX3) (T := TX3) (N := 5) hx hb hts iX3_takeFrom_X3 tyX3 tyX3_ok nmX3 hown hK hP hD hS 0 rfl rfl 4 (by decide) (hts (.fieldLink RX3 29 "ClappedWrong$Night" "beatsLeftOut" "I") (by decide +kernel)) (fun _ h9 => h9) rfl (by decide +kernel) rfl rfl (Nat.le_of_ble_eq_true rfl) dX3_takeFrom_58 (fun H locs hP hD hS => ?_)
    have hP : va_P D vwCl (wNN cI q0 q1 q2 q3 q4 q5 q6 q7 q8 q9 q10 q11 s_other_recorded s_other_barsGone s_other_beatsLeftOut u1.1 u1.2.1 u1.2.2 s_crowd_next u3.2 s_other_recorded s_other_barsGone s_other_beatsLeftOut s_other_crowd_armRows s_other_crowd_sounds s_other_crowd_clapped s_other_crowd_next s_other_rightBehindBar) H := hP
    have hD : va_D A (wNN cI q0 q1 q2 q3 q4 q5 q6 q7 q8 q9 q10 q11 s_other_recorded s_other_barsGone s_other_beatsLeftOut u1.1 u1.2.1 u1.2.2 s_crowd_next u3.2 s_other_recorded s_other_barsGone s_other_beatsLeftOut s_other_crowd_armRows s_other_crowd_sounds s_other_crowd_clapped s_other_crowd_next s_other_rightBehindBar) := hD
    have h := Option.some.inj h
    subst h
    exact hRet _ _ _ _ hP hD hS dX3_takeFrom_61
theorem iX3_noteDown_X3 : ∀ w ∈ wsX30, w ∈ wsX3_noteDown := by decide +kernel
def rX3_noteDown : Room := { frames := 1, cells := 0, slots := 0, locals := 22 }
set_option maxHeartbeats 4000000 in
set_option maxRecDepth 100000 in
theorem mX3_noteDown (l : Launch) (D : va_G) (cI : ClassId) (ad : Nat × Nat) (q0 q1 q2 q3 q4 q5 : Nat) (sz : Nat) (s_recorded : Int32) (s_barsGone : Int32) (s_beatsLeftOut : Int32) (s_crowd_armRows : Int32) (s_crowd_sounds : (Nat → Int32)) (s_crowd_clapped : (Nat → Int32)) (s_crowd_next : (Nat → Int32)) (s_rightBehindBar : (Nat → Int32)) (p1 : Int32) (r : (Int32 × Int32 × (Nat → Int32))) (h : fX3_noteDown s_rightBehindBar s_recorded p1 = some r) : Met l yX3_noteDown wsX3_noteDown rX3_noteDown (kPre D cI ad [.ref q0, .int p1] (wN cI q0 q1 q2 q3 q4 q5 s_recorded s_barsGone s_beatsLeftOut s_crowd_armRows s_crowd_sounds s_crowd_clapped s_crowd_next s_rightBehindBar) sz) (kQi D cI r.1 (wN cI q0 q1 q2 q3 q4 q5 r.2.1 s_barsGone s_beatsLeftOut s_crowd_armRows s_crowd_sounds s_crowd_clapped s_crowd_next r.2.2) (va_A (wN cI q0 q1 q2 q3 q4 q5 s_recorded s_barsGone s_beatsLeftOut s_crowd_armRows s_crowd_sounds s_crowd_clapped s_crowd_next s_rightBehindBar) sz)) 0 0 (va_A (wN cI q0 q1 q2 q3 q4 q5 s_recorded s_barsGone s_beatsLeftOut s_crowd_armRows s_crowd_sounds s_crowd_clapped s_crowd_next s_rightBehindBar) sz) := by
  refine kStart (cc := cX3_noteDown) (maxL := 2) (ret := (some .boolean)) (Qc := fun A => kQi D cI r.1 (wN cI q0 q1 q2 q3 q4 q5 r.2.1 s_barsGone s_beatsLeftOut s_crowd_armRows s_crowd_sounds s_crowd_clapped s_crowd_next r.2.2) A) (by decide) rfl (Nat.le_of_ble_eq_true rfl) ?_
  intro p e s m args below meth c A ls hx hb hr hts hown hlocks hin hml hN hST hA hS hP hK hD hl
  have hown : s.vm.findClass RX3 = some m.cls := hown
  have hl : lv_has ls 2 [(0, .ref q0), (1, .int p1)] := hl
  have hRet : ∀ (H : Heap) (locs : List Loc) (ls : Array Slot) (pc : Nat), narrow .boolean (.int r.1) = .int r.1 → va_P D vwCl (wN cI q0 q1 q2 q3 q4 q5 r.2.1 s_barsGone s_beatsLeftOut s_crowd_armRows s_crowd_sounds s_crowd_clapped s_crowd_next r.2.2) H → va_D A (wN cI q0 q1 q2 q3 q4 q5 r.2.1 s_barsGone s_beatsLeftOut s_crowd_armRows s_crowd_sounds s_crowd_clapped s_crowd_next r.2.2) → va_S A s.heap H locs → decode cX3_noteDown pc = .ok (.ireturn, 1) → W p l e rX3_noteDown s m args below meth c H locs 0 0 (MQ below (kQi D cI r.1 (wN cI q0 q1 q2 q3 q4 q5 r.2.1 s_barsGone s_beatsLeftOut s_crowd_armRows s_crowd_sounds s_crowd_clapped s_crowd_next r.2.2) A) args s 0 0 A) (F0 m pc ls [.int r.1]) := fun H locs ls pc hz hP hD hS hd => k_zret hx hb hr hlocks hK hz hP hD hS hd
  generalize MQ below (kQi D cI r.1 (wN cI q0 q1 q2 q3 q4 q5 r.2.1 s_barsGone s_beatsLeftOut s_crowd_armRows s_crowd_sounds s_crowd_clapped s_crowd_next r.2.2) A) args s 0 0 A = Q at hRet ⊢
  unfold fX3_noteDown at h
  refine lv_aload_n hx hb dX3_noteDown_0 rfl (lv_at hl 0 rfl) ?_
  refine va_get (D := D) (ci := 3) (v := .int s_recorded) (C := RX3) (T := TX3) (N := 5) hx hb hts iX3_noteDown_X3 hown hK hP 0 rfl rfl 2 (by decide) (hts (.fieldLink RX3 22 "ClappedWrong$Night" "recorded" "I") (by decide +kernel)) (fun _ h9 => h9) rfl dX3_noteDown_1 ?_
  refine lv_iconst (v := 0) hx hb dX3_noteDown_4 (by decide) ?_
  refine lv_bipush (v := 7) hx hb dX3_noteDown_5 (by decide) ?_
  obtain ⟨u1, hu1, h⟩ := k_bs h
  refine k_ci (r := u1) (k2 := 0) (n2 := 0) (wc := []) (wc' := []) (w2 := (wN cI q0 q1 q2 q3 q4 q5 s_recorded s_barsGone s_beatsLeftOut s_crowd_armRows s_crowd_sounds s_crowd_clapped s_crowd_next s_rightBehindBar)) (va_runSN (host := "ClappedWrong") (As := [.int s_recorded, .int 0, .int 7]) (rest := []) ⟨hx, hb, hml, hown, hts⟩ (mX5_within l D cI ad _ s_recorded 0 7 u1 hu1) ⟨va_cnB 3 hts gX3_noteDown_X5_within_n40 rfl rfl rfl (hN.m RX3 40 yX5_within "ClappedWrong" (by decide +kernel)) (hts (.initialized RX5) (by decide +kernel)) (by decide +kernel) ⟨Nat.le_of_ble_eq_true rfl, Nat.le_of_ble_eq_true rfl⟩, hts (.static yX5_within) (by decide +kernel), trivial⟩ (k_pres hN hST hA hK hP hD hS (isC := []) rfl rfl) rfl rfl hl.1 rfl (lv_room (Nat.le_of_ble_eq_true rfl)) dX3_noteDown_7 ⟨Nat.le_of_ble_eq_true rfl, Nat.le_of_ble_eq_true rfl⟩) hP hD hS hA [] rfl rfl rfl rfl rfl (fun H locs hP hD hS => ?_)
  refine lv_if_ne (tgt := 15) hx hb dX3_noteDown_10 (by decide) (fun c0 => ?_) (fun c0 => ?_)
  · have h := (if_neg c0).symm.trans h
    refine lv_aload_n hx hb dX3_noteDown_15 rfl (lv_at hl 0 rfl) ?_
    refine va_get (D := D) (ci := 3) (v := .ref q5) (C := RX3) (T := TX3) (N := 5) hx hb hts iX3_noteDown_X3 hown hK hP 0 rfl rfl 1 (by decide) (hts (.fieldLink RX3 18 "ClappedWrong$Night" "rightBehindBar" "[I") (by decide +kernel)) (fun _ h9 => h9) rfl dX3_noteDown_16 ?_
    refine lv_aload_n hx hb dX3_noteDown_19 rfl (lv_at hl 0 rfl) ?_
    refine va_get (D := D) (ci := 3) (v := .int s_recorded) (C := RX3) (T := TX3) (N := 5) hx hb hts iX3_noteDown_X3 hown hK hP 0 rfl rfl 2 (by decide) (hts (.fieldLink RX3 22 "ClappedWrong$Night" "recorded" "I") (by decide +kernel)) (fun _ h9 => h9) rfl dX3_noteDown_20 ?_
    refine lv_iload_n hx hb dX3_noteDown_23 rfl (lv_at hl 1 rfl) ?_
    refine k_iast hx hb hK hP hD hS 5 rfl dX3_noteDown_24 h (fun g2 => (wN cI q0 q1 q2 q3 q4 q5 s_recorded s_barsGone s_beatsLeftOut s_crowd_armRows s_crowd_sounds s_crowd_clapped s_crowd_next g2)) (fun _ => rfl) (fun g2 H locs h hP hD hS => ?_)
    refine lv_aload_n hx hb dX3_noteDown_25 rfl (lv_at hl 0 rfl) ?_
    refine lv_dup hx hb dX3_noteDown_26 rfl ?_
    refine va_get (D := D) (ci := 3) (v := .int s_recorded) (C := RX3) (T := TX3) (N := 5) hx hb hts iX3_noteDown_X3 hown hK hP 0 rfl rfl 2 (by decide) (hts (.fieldLink RX3 22 "ClappedWrong$Night" "recorded" "I") (by decide +kernel)) (fun _ h9 => h9) rfl dX3_noteDown_27 ?_
    refine lv_iconst (v := 1) hx hb dX3_noteDown_30 (by decide) ?_
    refine lv_iadd hx hb dX3_noteDown_31 ?_
    refine va_put (D := D) (ci := 3) (v := .int (s_recorded + 1)) (ty := .int) (C := RX3) (T := TX3) (N := 5) hx hb hts iX3_noteDown_X3 tyX3 tyX3_ok nmX3 hown hK hP hD hS 0 rfl rfl 2 (by decide) (hts (.fieldLink RX3 22 "ClappedWrong$Night" "recorded" "I") (by decide +kernel)) (fun _ h9 => h9) rfl (by decide +kernel) rfl rfl (Nat.le_of_ble_eq_true rfl) dX3_noteDown_32 (fun H locs hP hD hS => ?_)
    have hP : va_P D vwCl (wN cI q0 q1 q2 q3 q4 q5 (s_recorded + 1) s_barsGone s_beatsLeftOut s_crowd_armRows s_crowd_sounds s_crowd_clapped s_crowd_next g2) H := hP
    have hD : va_D A (wN cI q0 q1 q2 q3 q4 q5 (s_recorded + 1) s_barsGone s_beatsLeftOut s_crowd_armRows s_crowd_sounds s_crowd_clapped s_crowd_next g2) := hD
    refine lv_iconst (v := 1) hx hb dX3_noteDown_35 (by decide) ?_
    have h := Option.some.inj h
    subst h
    exact hRet _ _ _ _ kn_bo1 hP hD hS dX3_noteDown_36
  · have h := (if_pos c0).symm.trans h
    refine lv_iconst (v := 0) hx hb dX3_noteDown_13 (by decide) ?_
    have h := Option.some.inj h
    subst h
    exact hRet _ _ _ _ kn_bo0 hP hD hS dX3_noteDown_14
theorem iX3_recordedAt_X3 : ∀ w ∈ wsX30, w ∈ wsX3_recordedAt := by decide +kernel
def rX3_recordedAt : Room := { frames := 1, cells := 0, slots := 0, locals := 22 }
set_option maxHeartbeats 4000000 in
set_option maxRecDepth 100000 in
theorem mX3_recordedAt (l : Launch) (D : va_G) (cI : ClassId) (ad : Nat × Nat) (q0 q1 q2 q3 q4 q5 : Nat) (sz : Nat) (s_recorded : Int32) (s_barsGone : Int32) (s_beatsLeftOut : Int32) (s_crowd_armRows : Int32) (s_crowd_sounds : (Nat → Int32)) (s_crowd_clapped : (Nat → Int32)) (s_crowd_next : (Nat → Int32)) (s_rightBehindBar : (Nat → Int32)) (p1 : Int32) (r : Int32) (h : fX3_recordedAt s_rightBehindBar p1 = some r) : Met l yX3_recordedAt wsX3_recordedAt rX3_recordedAt (kPre D cI ad [.ref q0, .int p1] (wN cI q0 q1 q2 q3 q4 q5 s_recorded s_barsGone s_beatsLeftOut s_crowd_armRows s_crowd_sounds s_crowd_clapped s_crowd_next s_rightBehindBar) sz) (kQi D cI r (wN cI q0 q1 q2 q3 q4 q5 s_recorded s_barsGone s_beatsLeftOut s_crowd_armRows s_crowd_sounds s_crowd_clapped s_crowd_next s_rightBehindBar) (va_A (wN cI q0 q1 q2 q3 q4 q5 s_recorded s_barsGone s_beatsLeftOut s_crowd_armRows s_crowd_sounds s_crowd_clapped s_crowd_next s_rightBehindBar) sz)) 0 0 (va_A (wN cI q0 q1 q2 q3 q4 q5 s_recorded s_barsGone s_beatsLeftOut s_crowd_armRows s_crowd_sounds s_crowd_clapped s_crowd_next s_rightBehindBar) sz) := by
  refine kStart (cc := cX3_recordedAt) (maxL := 2) (ret := (some .int)) (Qc := fun A => kQi D cI r (wN cI q0 q1 q2 q3 q4 q5 s_recorded s_barsGone s_beatsLeftOut s_crowd_armRows s_crowd_sounds s_crowd_clapped s_crowd_next s_rightBehindBar) A) (by decide) rfl (Nat.le_of_ble_eq_true rfl) ?_
  intro p e s m args below meth c A ls hx hb hr hts hown hlocks hin hml hN hST hA hS hP hK hD hl
  have hown : s.vm.findClass RX3 = some m.cls := hown
  have hl : lv_has ls 2 [(0, .ref q0), (1, .int p1)] := hl
  have hRet : ∀ (H : Heap) (locs : List Loc) (ls : Array Slot) (pc : Nat), va_P D vwCl (wN cI q0 q1 q2 q3 q4 q5 s_recorded s_barsGone s_beatsLeftOut s_crowd_armRows s_crowd_sounds s_crowd_clapped s_crowd_next s_rightBehindBar) H → va_D A (wN cI q0 q1 q2 q3 q4 q5 s_recorded s_barsGone s_beatsLeftOut s_crowd_armRows s_crowd_sounds s_crowd_clapped s_crowd_next s_rightBehindBar) → va_S A s.heap H locs → decode cX3_recordedAt pc = .ok (.ireturn, 1) → W p l e rX3_recordedAt s m args below meth c H locs 0 0 (MQ below (kQi D cI r (wN cI q0 q1 q2 q3 q4 q5 s_recorded s_barsGone s_beatsLeftOut s_crowd_armRows s_crowd_sounds s_crowd_clapped s_crowd_next s_rightBehindBar) A) args s 0 0 A) (F0 m pc ls [.int r]) := fun H locs ls pc hP hD hS hd => k_iret hx hb hr hlocks hK hP hD hS hd
  generalize MQ below (kQi D cI r (wN cI q0 q1 q2 q3 q4 q5 s_recorded s_barsGone s_beatsLeftOut s_crowd_armRows s_crowd_sounds s_crowd_clapped s_crowd_next s_rightBehindBar) A) args s 0 0 A = Q at hRet ⊢
  unfold fX3_recordedAt at h
  refine lv_iload_n hx hb dX3_recordedAt_0 rfl (lv_at hl 1 rfl) ?_
  refine lv_iconst (v := 0) hx hb dX3_recordedAt_1 (by decide) ?_
  refine lv_bipush (v := 7) hx hb dX3_recordedAt_2 (by decide) ?_
  obtain ⟨u1, hu1, h⟩ := k_bs h
  refine k_ci (r := u1) (k2 := 0) (n2 := 0) (wc := []) (wc' := []) (w2 := (wN cI q0 q1 q2 q3 q4 q5 s_recorded s_barsGone s_beatsLeftOut s_crowd_armRows s_crowd_sounds s_crowd_clapped s_crowd_next s_rightBehindBar)) (va_runSN (host := "ClappedWrong") (As := [.int p1, .int 0, .int 7]) (rest := []) ⟨hx, hb, hml, hown, hts⟩ (mX5_within l D cI ad _ p1 0 7 u1 hu1) ⟨va_cnB 3 hts gX3_recordedAt_X5_within_n40 rfl rfl rfl (hN.m RX3 40 yX5_within "ClappedWrong" (by decide +kernel)) (hts (.initialized RX5) (by decide +kernel)) (by decide +kernel) ⟨Nat.le_of_ble_eq_true rfl, Nat.le_of_ble_eq_true rfl⟩, hts (.static yX5_within) (by decide +kernel), trivial⟩ (k_pres hN hST hA hK hP hD hS (isC := []) rfl rfl) rfl rfl hl.1 rfl (lv_room (Nat.le_of_ble_eq_true rfl)) dX3_recordedAt_4 ⟨Nat.le_of_ble_eq_true rfl, Nat.le_of_ble_eq_true rfl⟩) hP hD hS hA [] rfl rfl rfl rfl rfl (fun H locs hP hD hS => ?_)
  refine lv_if_eq (tgt := 19) hx hb dX3_recordedAt_7 (by decide) (fun c0 => ?_) (fun c0 => ?_)
  · have h := (if_pos c0).symm.trans h
    refine lv_iconst (v := 0) hx hb dX3_recordedAt_19 (by decide) ?_
    have h := Option.some.inj h
    subst h
    exact hRet _ _ _ _ hP hD hS dX3_recordedAt_20
  · have h := (if_neg c0).symm.trans h
    refine lv_aload_n hx hb dX3_recordedAt_10 rfl (lv_at hl 0 rfl) ?_
    refine va_get (D := D) (ci := 3) (v := .ref q5) (C := RX3) (T := TX3) (N := 5) hx hb hts iX3_recordedAt_X3 hown hK hP 0 rfl rfl 1 (by decide) (hts (.fieldLink RX3 18 "ClappedWrong$Night" "rightBehindBar" "[I") (by decide +kernel)) (fun _ h9 => h9) rfl dX3_recordedAt_11 ?_
    refine lv_iload_n hx hb dX3_recordedAt_14 rfl (lv_at hl 1 rfl) ?_
    refine k_iald hx hb hK hP 5 rfl dX3_recordedAt_15 h (fun v2 h => ?_)
    refine lv_goto (tgt := 20) hx hb dX3_recordedAt_16 (by decide) ?_
    have h := Option.some.inj h
    subst h
    exact hRet _ _ _ _ hP hD hS dX3_recordedAt_20
theorem iX4_init_X4 : ∀ w ∈ wsX40, w ∈ wsX4_init := by decide +kernel
def rX4_init : Room := { frames := 1, cells := 1, slots := 36, locals := 20 }
set_option maxHeartbeats 4000000 in
set_option maxRecDepth 100000 in
theorem mX4_init (l : Launch) (D : va_G) (cI : ClassId) (ad : Nat × Nat) (q0 : Nat) (sz : Nat) : Met l yX4_init wsX4_init rX4_init (kPre D cI ad [.ref q0] [(q0, .inr (4, [.null, .int 0]))] sz) (kQn D cI (fun (u : Nat) => (wP cI q0 u 0 (fun _ => 0))) (va_A [(q0, .inr (4, [.null, .int 0]))] sz)) 1 36 (va_A [(q0, .inr (4, [.null, .int 0]))] sz) := by
  refine kStart (cc := cX4_init) (maxL := 1) (ret := none) (Qc := fun A => kQn D cI (fun (u : Nat) => (wP cI q0 u 0 (fun _ => 0))) A) (by decide) rfl (Nat.le_of_ble_eq_true rfl) ?_
  intro p e s m args below meth c A ls hx hb hr hts hown hlocks hin hml hN hST hA hS hP hK hD hl
  have hown : s.vm.findClass RX4 = some m.cls := hown
  have hl : lv_has ls 1 [(0, .ref q0)] := hl
  refine lv_aload_n hx hb dX4_init_0 rfl (lv_at hl 0 rfl) ?_
  refine W.objInit hx hb hown (hts (.methodLink RX4 3 objectInit) (by decide +kernel)) (hts (.instanceMethod objectInit) (by decide +kernel)) (hts (.code objectInit ⟨#[0xb1]⟩ 1 none) (by decide +kernel)) rfl (by rw [hml]; exact hl.1) rfl dX4_init_1 (Nat.le_of_ble_eq_true rfl) (Nat.le_of_ble_eq_true rfl) ?_
  refine lv_aload_n hx hb dX4_init_4 rfl (lv_at hl 0 rfl) ?_
  refine lv_bipush (v := 36) hx hb dX4_init_5 (by decide) ?_
  refine k_newa 36 (k2 := 1) (n2 := 36) hx hb (hts (.arrayClass .int) (by decide +kernel)) hK hP hD hS hA (by decide) (by decide) (by decide) (Nat.le_of_ble_eq_true rfl) (Nat.le_of_ble_eq_true rfl) dX4_init_7 (fun q1 => [(q0, .inr (4, [.null, .int 0])), (q1, .inl (cI, 36, .inl (fun _ => 0)))]) (fun _ => rfl) rfl rfl (fun q1 H hP hD hS => ?_)
  refine va_putF (D := D) (ci := 4) (v := .ref q1) (ty := (.array .int)) (C := RX4) (T := TX4) (N := 2) hx hb hts iX4_init_X4 tyX4 tyX4_ok nmX4 hown hK hP hD hS 0 rfl rfl 0 (by decide) (hts (.fieldLink RX4 9 "ClappedWrong$Page" "codes" "[I") (by decide +kernel)) (fun _ h9 => h9) rfl hin rfl (by decide +kernel) rfl rfl (Nat.le_of_ble_eq_true rfl) dX4_init_9 (fun H locs hP hD hS => ?_)
  have hP : va_P D vwCl (wP cI q0 q1 0 (fun _ => 0)) H := hP
  have hD : va_D A (wP cI q0 q1 0 (fun _ => 0)) := hD
  refine lv_aload_n hx hb dX4_init_12 rfl (lv_at hl 0 rfl) ?_
  refine lv_iconst (v := 0) hx hb dX4_init_13 (by decide) ?_
  refine va_put (D := D) (ci := 4) (v := .int 0) (ty := .int) (C := RX4) (T := TX4) (N := 2) hx hb hts iX4_init_X4 tyX4 tyX4_ok nmX4 hown hK hP hD hS 0 rfl rfl 1 (by decide) (hts (.fieldLink RX4 15 "ClappedWrong$Page" "length" "I") (by decide +kernel)) (fun _ h9 => h9) rfl (by decide +kernel) rfl rfl (Nat.le_of_ble_eq_true rfl) dX4_init_14 (fun H locs hP hD hS => ?_)
  have hP : va_P D vwCl (wP cI q0 q1 0 (fun _ => 0)) H := hP
  have hD : va_D A (wP cI q0 q1 0 (fun _ => 0)) := hD
  have hP := hP.sub (ws' := (wP cI q0 q1 0 (fun _ => 0))) [0, 1] rfl
  have hD := hD.sub (ws' := (wP cI q0 q1 0 (fun _ => 0))) [0, 1] (by decide) rfl
  exact k_nret (wn := (fun (u : Nat) => (wP cI q0 u 0 (fun _ => 0)))) q1 hx hb hr hlocks hK hP hD hS dX4_init_17
theorem iX4_write_X4 : ∀ w ∈ wsX40, w ∈ wsX4_write := by decide +kernel
def rX4_write : Room := { frames := 0, cells := 0, slots := 0, locals := 0 }
set_option maxHeartbeats 4000000 in
set_option maxRecDepth 100000 in
theorem mX4_write (l : Launch) (D : va_G) (cI : ClassId) (ad : Nat × Nat) (q0 q1 : Nat) (sz : Nat) (s_length : Int32) (s_codes : (Nat → Int32)) (p1 : Int32) (r : (Int32 × Int32 × (Nat → Int32))) (h : fX4_write s_codes s_length p1 = some r) : Met l yX4_write wsX4_write rX4_write (kPre D cI ad [.ref q0, .int p1] (wP cI q0 q1 s_length s_codes) sz) (kQi D cI r.1 (wP cI q0 q1 r.2.1 r.2.2) (va_A (wP cI q0 q1 s_length s_codes) sz)) 0 0 (va_A (wP cI q0 q1 s_length s_codes) sz) := by
  refine kStart (cc := cX4_write) (maxL := 2) (ret := (some .boolean)) (Qc := fun A => kQi D cI r.1 (wP cI q0 q1 r.2.1 r.2.2) A) (by decide) rfl (Nat.le_of_ble_eq_true rfl) ?_
  intro p e s m args below meth c A ls hx hb hr hts hown hlocks hin hml hN hST hA hS hP hK hD hl
  have hown : s.vm.findClass RX4 = some m.cls := hown
  have hl : lv_has ls 2 [(0, .ref q0), (1, .int p1)] := hl
  have hRet : ∀ (H : Heap) (locs : List Loc) (ls : Array Slot) (pc : Nat), narrow .boolean (.int r.1) = .int r.1 → va_P D vwCl (wP cI q0 q1 r.2.1 r.2.2) H → va_D A (wP cI q0 q1 r.2.1 r.2.2) → va_S A s.heap H locs → decode cX4_write pc = .ok (.ireturn, 1) → W p l e rX4_write s m args below meth c H locs 0 0 (MQ below (kQi D cI r.1 (wP cI q0 q1 r.2.1 r.2.2) A) args s 0 0 A) (F0 m pc ls [.int r.1]) := fun H locs ls pc hz hP hD hS hd => k_zret hx hb hr hlocks hK hz hP hD hS hd
  generalize MQ below (kQi D cI r.1 (wP cI q0 q1 r.2.1 r.2.2) A) args s 0 0 A = Q at hRet ⊢
  unfold fX4_write at h
  refine lv_aload_n hx hb dX4_write_0 rfl (lv_at hl 0 rfl) ?_
  refine va_get (D := D) (ci := 4) (v := .int s_length) (C := RX4) (T := TX4) (N := 2) hx hb hts iX4_write_X4 hown hK hP 0 rfl rfl 1 (by decide) (hts (.fieldLink RX4 15 "ClappedWrong$Page" "length" "I") (by decide +kernel)) (fun _ h9 => h9) rfl dX4_write_1 ?_
  refine lv_if_lt (tgt := 19) hx hb dX4_write_4 (by decide) (fun c0 => ?_) (fun c0 => ?_)
  · have h := (if_pos c0).symm.trans h
    refine lv_iconst (v := 0) hx hb dX4_write_19 (by decide) ?_
    have h := Option.some.inj h
    subst h
    exact hRet _ _ _ _ kn_bo0 hP hD hS dX4_write_20
  · have h := (if_neg c0).symm.trans h
    refine lv_aload_n hx hb dX4_write_7 rfl (lv_at hl 0 rfl) ?_
    refine va_get (D := D) (ci := 4) (v := .int s_length) (C := RX4) (T := TX4) (N := 2) hx hb hts iX4_write_X4 hown hK hP 0 rfl rfl 1 (by decide) (hts (.fieldLink RX4 15 "ClappedWrong$Page" "length" "I") (by decide +kernel)) (fun _ h9 => h9) rfl dX4_write_8 ?_
    refine lv_aload_n hx hb dX4_write_11 rfl (lv_at hl 0 rfl) ?_
    refine va_get (D := D) (ci := 4) (v := .ref q1) (C := RX4) (T := TX4) (N := 2) hx hb hts iX4_write_X4 hown hK hP 0 rfl rfl 0 (by decide) (hts (.fieldLink RX4 9 "ClappedWrong$Page" "codes" "[I") (by decide +kernel)) (fun _ h9 => h9) rfl dX4_write_12 ?_
    refine va_alen (v := 36) hx hb hK hP 1 0 rfl rfl rfl dX4_write_15 ?_
    refine lv_icmp_lt (tgt := 21) hx hb dX4_write_16 (by decide) (fun c0 => ?_) (fun c0 => ?_)
    · have h := (if_pos c0).symm.trans h
      refine lv_aload_n hx hb dX4_write_21 rfl (lv_at hl 0 rfl) ?_
      refine va_get (D := D) (ci := 4) (v := .ref q1) (C := RX4) (T := TX4) (N := 2) hx hb hts iX4_write_X4 hown hK hP 0 rfl rfl 0 (by decide) (hts (.fieldLink RX4 9 "ClappedWrong$Page" "codes" "[I") (by decide +kernel)) (fun _ h9 => h9) rfl dX4_write_22 ?_
      refine lv_aload_n hx hb dX4_write_25 rfl (lv_at hl 0 rfl) ?_
      refine va_get (D := D) (ci := 4) (v := .int s_length) (C := RX4) (T := TX4) (N := 2) hx hb hts iX4_write_X4 hown hK hP 0 rfl rfl 1 (by decide) (hts (.fieldLink RX4 15 "ClappedWrong$Page" "length" "I") (by decide +kernel)) (fun _ h9 => h9) rfl dX4_write_26 ?_
      refine lv_iload_n hx hb dX4_write_29 rfl (lv_at hl 1 rfl) ?_
      refine k_iast hx hb hK hP hD hS 1 rfl dX4_write_30 h (fun g1 => (wP cI q0 q1 s_length g1)) (fun _ => rfl) (fun g1 H locs h hP hD hS => ?_)
      refine lv_aload_n hx hb dX4_write_31 rfl (lv_at hl 0 rfl) ?_
      refine lv_dup hx hb dX4_write_32 rfl ?_
      refine va_get (D := D) (ci := 4) (v := .int s_length) (C := RX4) (T := TX4) (N := 2) hx hb hts iX4_write_X4 hown hK hP 0 rfl rfl 1 (by decide) (hts (.fieldLink RX4 15 "ClappedWrong$Page" "length" "I") (by decide +kernel)) (fun _ h9 => h9) rfl dX4_write_33 ?_
      refine lv_iconst (v := 1) hx hb dX4_write_36 (by decide) ?_
      refine lv_iadd hx hb dX4_write_37 ?_
      refine va_put (D := D) (ci := 4) (v := .int (s_length + 1)) (ty := .int) (C := RX4) (T := TX4) (N := 2) hx hb hts iX4_write_X4 tyX4 tyX4_ok nmX4 hown hK hP hD hS 0 rfl rfl 1 (by decide) (hts (.fieldLink RX4 15 "ClappedWrong$Page" "length" "I") (by decide +kernel)) (fun _ h9 => h9) rfl (by decide +kernel) rfl rfl (Nat.le_of_ble_eq_true rfl) dX4_write_38 (fun H locs hP hD hS => ?_)
      have hP : va_P D vwCl (wP cI q0 q1 (s_length + 1) g1) H := hP
      have hD : va_D A (wP cI q0 q1 (s_length + 1) g1) := hD
      refine lv_iconst (v := 1) hx hb dX4_write_41 (by decide) ?_
      have h := Option.some.inj h
      subst h
      exact hRet _ _ _ _ kn_bo1 hP hD hS dX4_write_42
    · have h := (if_neg c0).symm.trans h
      refine lv_iconst (v := 0) hx hb dX4_write_19 (by decide) ?_
      have h := Option.some.inj h
      subst h
      exact hRet _ _ _ _ kn_bo0 hP hD hS dX4_write_20
theorem iX4_wipe_X4 : ∀ w ∈ wsX40, w ∈ wsX4_wipe := by decide +kernel
def rX4_wipe : Room := { frames := 0, cells := 0, slots := 0, locals := 0 }
set_option maxHeartbeats 4000000 in
set_option maxRecDepth 100000 in
theorem mX4_wipe (l : Launch) (D : va_G) (cI : ClassId) (ad : Nat × Nat) (q0 q1 : Nat) (sz : Nat) (s_length : Int32) (s_codes : (Nat → Int32)) (r : Int32) (h : fX4_wipe = some r) : Met l yX4_wipe wsX4_wipe rX4_wipe (kPre D cI ad [.ref q0] (wP cI q0 q1 s_length s_codes) sz) (kQv D cI (wP cI q0 q1 r s_codes) (va_A (wP cI q0 q1 s_length s_codes) sz)) 0 0 (va_A (wP cI q0 q1 s_length s_codes) sz) := by
  refine kStart (cc := cX4_wipe) (maxL := 1) (ret := none) (Qc := fun A => kQv D cI (wP cI q0 q1 r s_codes) A) (by decide) rfl (Nat.le_of_ble_eq_true rfl) ?_
  intro p e s m args below meth c A ls hx hb hr hts hown hlocks hin hml hN hST hA hS hP hK hD hl
  have hown : s.vm.findClass RX4 = some m.cls := hown
  have hl : lv_has ls 1 [(0, .ref q0)] := hl
  have hRet : ∀ (H : Heap) (locs : List Loc) (ls : Array Slot) (pc : Nat), va_P D vwCl (wP cI q0 q1 r s_codes) H → va_D A (wP cI q0 q1 r s_codes) → va_S A s.heap H locs → decode cX4_wipe pc = .ok (.return_, 1) → W p l e rX4_wipe s m args below meth c H locs 0 0 (MQ below (kQv D cI (wP cI q0 q1 r s_codes) A) args s 0 0 A) (F0 m pc ls []) := fun H locs ls pc hP hD hS hd => k_vret hx hb hr hlocks hK hP hD hS hd
  generalize MQ below (kQv D cI (wP cI q0 q1 r s_codes) A) args s 0 0 A = Q at hRet ⊢
  unfold fX4_wipe at h
  refine lv_aload_n hx hb dX4_wipe_0 rfl (lv_at hl 0 rfl) ?_
  refine lv_iconst (v := 0) hx hb dX4_wipe_1 (by decide) ?_
  refine va_put (D := D) (ci := 4) (v := .int 0) (ty := .int) (C := RX4) (T := TX4) (N := 2) hx hb hts iX4_wipe_X4 tyX4 tyX4_ok nmX4 hown hK hP hD hS 0 rfl rfl 1 (by decide) (hts (.fieldLink RX4 15 "ClappedWrong$Page" "length" "I") (by decide +kernel)) (fun _ h9 => h9) rfl (by decide +kernel) rfl rfl (Nat.le_of_ble_eq_true rfl) dX4_wipe_2 (fun H locs hP hD hS => ?_)
  have hP : va_P D vwCl (wP cI q0 q1 0 s_codes) H := hP
  have hD : va_D A (wP cI q0 q1 0 s_codes) := hD
  have h := Option.some.inj h
  subst h
  exact hRet _ _ _ _ hP hD hS dX4_wipe_5
def rX4_followsRow : Room := { frames := 0, cells := 0, slots := 0, locals := 0 }
set_option maxHeartbeats 4000000 in
set_option maxRecDepth 100000 in
theorem mX4_followsRow (l : Launch) (D : va_G) (cI : ClassId) (ad : Nat × Nat) (sz : Nat) (p0 : Int32) (p1 : Int32) (r : Int32) (h : fX4_followsRow p0 p1 = some r) : Met l yX4_followsRow wsX4_followsRow rX4_followsRow (kPre D cI ad [.int p0, .int p1] [] sz) (kQi D cI r [] (va_A [] sz)) 0 0 (va_A [] sz) := by
  refine kStart (cc := cX4_followsRow) (maxL := 2) (ret := (some .boolean)) (Qc := fun A => kQi D cI r [] A) (by decide) rfl (Nat.le_of_ble_eq_true rfl) ?_
  intro p e s m args below meth c A ls hx hb hr hts hown hlocks hin hml hN hST hA hS hP hK hD hl
  have hown : s.vm.findClass RX4 = some m.cls := hown
  have hl : lv_has ls 2 [(0, .int p0), (1, .int p1)] := hl
  have hRet : ∀ (H : Heap) (locs : List Loc) (ls : Array Slot) (pc : Nat), narrow .boolean (.int r) = .int r → va_P D vwCl [] H → va_D A [] → va_S A s.heap H locs → decode cX4_followsRow pc = .ok (.ireturn, 1) → W p l e rX4_followsRow s m args below meth c H locs 0 0 (MQ below (kQi D cI r [] A) args s 0 0 A) (F0 m pc ls [.int r]) := fun H locs ls pc hz hP hD hS hd => k_zret hx hb hr hlocks hK hz hP hD hS hd
  generalize MQ below (kQi D cI r [] A) args s 0 0 A = Q at hRet ⊢
  unfold fX4_followsRow at h
  refine lv_iload_n hx hb dX4_followsRow_0 rfl (lv_at hl 0 rfl) ?_
  refine lv_bipush (v := 44) hx hb dX4_followsRow_1 (by decide) ?_
  refine lv_icmp_ne (tgt := 18) hx hb dX4_followsRow_3 (by decide) (fun c0 => ?_) (fun c0 => ?_)
  · have h := (if_neg c0).symm.trans h
    refine lv_iload_n hx hb dX4_followsRow_18 rfl (lv_at hl 0 rfl) ?_
    refine lv_bipush (v := 59) hx hb dX4_followsRow_19 (by decide) ?_
    refine lv_icmp_ne (tgt := 33) hx hb dX4_followsRow_21 (by decide) (fun c0 => ?_) (fun c0 => ?_)
    · have h := (if_neg c0).symm.trans h
      refine lv_iconst (v := 0) hx hb dX4_followsRow_33 (by decide) ?_
      have h := Option.some.inj h
      subst h
      exact hRet _ _ _ _ kn_bo0 hP hD hS dX4_followsRow_34
    · have h := (if_pos c0).symm.trans h
      refine lv_iload_n hx hb dX4_followsRow_24 rfl (lv_at hl 1 rfl) ?_
      refine lv_iconst (v := 3) hx hb dX4_followsRow_25 (by decide) ?_
      refine lv_icmp_lt (tgt := 33) hx hb dX4_followsRow_26 (by decide) (fun c0 => ?_) (fun c0 => ?_)
      · have h := (if_pos c0).symm.trans h
        refine lv_iconst (v := 0) hx hb dX4_followsRow_33 (by decide) ?_
        have h := Option.some.inj h
        subst h
        exact hRet _ _ _ _ kn_bo0 hP hD hS dX4_followsRow_34
      · have h := (if_neg c0).symm.trans h
        refine lv_iconst (v := 1) hx hb dX4_followsRow_29 (by decide) ?_
        refine lv_goto (tgt := 34) hx hb dX4_followsRow_30 (by decide) ?_
        have h := Option.some.inj h
        subst h
        exact hRet _ _ _ _ kn_bo1 hP hD hS dX4_followsRow_34
  · have h := (if_pos c0).symm.trans h
    refine lv_iload_n hx hb dX4_followsRow_6 rfl (lv_at hl 1 rfl) ?_
    refine lv_bipush (v := 8) hx hb dX4_followsRow_7 (by decide) ?_
    refine lv_icmp_ge (tgt := 16) hx hb dX4_followsRow_9 (by decide) (fun c0 => ?_) (fun c0 => ?_)
    · have h := (if_pos c0).symm.trans h
      refine lv_iconst (v := 0) hx hb dX4_followsRow_16 (by decide) ?_
      have h := Option.some.inj h
      subst h
      exact hRet _ _ _ _ kn_bo0 hP hD hS dX4_followsRow_17
    · have h := (if_neg c0).symm.trans h
      refine lv_iconst (v := 1) hx hb dX4_followsRow_12 (by decide) ?_
      refine lv_goto (tgt := 17) hx hb dX4_followsRow_13 (by decide) ?_
      have h := Option.some.inj h
      subst h
      exact hRet _ _ _ _ kn_bo1 hP hD hS dX4_followsRow_17
def rX4_fits : Room := { frames := 5, cells := 0, slots := 0, locals := 111 }
set_option maxHeartbeats 4000000 in
set_option maxRecDepth 100000 in
theorem mX4_fits (l : Launch) (D : va_G) (cI : ClassId) (ad : Nat × Nat) (q0 q1 : Nat) (sz : Nat) (s_length : Int32) (s_codes : (Nat → Int32)) (p1 : Int32) (p2 : Int32) (r : Int32) (h : fX4_fits s_codes p1 p2 = some r) : Met l yX4_fits wsX4_fits rX4_fits (kPre D cI ad [.ref q0, .int p1, .int p2] (wP cI q0 q1 s_length s_codes) sz) (kQi D cI r (wP cI q0 q1 s_length s_codes) (va_A (wP cI q0 q1 s_length s_codes) sz)) 0 0 (va_A (wP cI q0 q1 s_length s_codes) sz) := by
  refine kStart (cc := cX4_fits) (maxL := 4) (ret := (some .boolean)) (Qc := fun A => kQi D cI r (wP cI q0 q1 s_length s_codes) A) (by decide) rfl (Nat.le_of_ble_eq_true rfl) ?_
  intro p e s m args below meth c A ls hx hb hr hts hown hlocks hin hml hN hST hA hS hP hK hD hl
  have hown : s.vm.findClass RX4 = some m.cls := hown
  have hl : lv_has ls 4 [(0, .ref q0), (1, .int p1), (2, .int p2)] := hl
  have hRet : ∀ (H : Heap) (locs : List Loc) (ls : Array Slot) (pc : Nat), narrow .boolean (.int r) = .int r → va_P D vwCl (wP cI q0 q1 s_length s_codes) H → va_D A (wP cI q0 q1 s_length s_codes) → va_S A s.heap H locs → decode cX4_fits pc = .ok (.ireturn, 1) → W p l e rX4_fits s m args below meth c H locs 0 0 (MQ below (kQi D cI r (wP cI q0 q1 s_length s_codes) A) args s 0 0 A) (F0 m pc ls [.int r]) := fun H locs ls pc hz hP hD hS hd => k_zret hx hb hr hlocks hK hz hP hD hS hd
  generalize MQ below (kQi D cI r (wP cI q0 q1 s_length s_codes) A) args s 0 0 A = Q at hRet ⊢
  unfold fX4_fits at h
  refine lv_aload_n hx hb dX4_fits_0 rfl (lv_at hl 0 rfl) ?_
  refine lv_iload_n hx hb dX4_fits_1 rfl (lv_at hl 1 rfl) ?_
  obtain ⟨u1, hu1, h⟩ := k_bs h
  refine k_ciA (r := u1) (k2 := 0) (n2 := 0) (ws := (wP cI q0 q1 s_length s_codes)) (wc' := (wP cI q0 q1 s_length s_codes)) (va_runV (C := RX4) (As := [.int p1]) (rest := []) ⟨hx, hb, hml, hown, hts⟩ (mX4_codeAt l D cI ad q0 q1 _ s_length s_codes p1 u1 hu1) (cwV 1 hts gX4_fits_X4_codeAt rfl rfl rfl (by decide +kernel) ⟨Nat.le_of_ble_eq_true rfl, Nat.le_of_ble_eq_true rfl⟩) (k_preA (q := (RX4, TX4, 2)) hN hST hA hK hP hD hS 0 (ci := 4) rfl rfl) rfl rfl hl.1 rfl (lv_room (Nat.le_of_ble_eq_true rfl)) dX4_fits_2 ⟨Nat.le_of_ble_eq_true rfl, Nat.le_of_ble_eq_true rfl⟩) hP hD hS hA rfl rfl (fun H locs hP hD hS => ?_)
  refine lv_istore_n (lv' := [(3, .int u1), (0, .ref q0), (1, .int p1), (2, .int p2)]) hx hb dX4_fits_5 rfl hl (by decide) rfl (fun ls hl => ?_)
  refine lv_iload_n hx hb dX4_fits_6 rfl (lv_at hl 3 rfl) ?_
  refine lv_iconst (v := (-1)) hx hb dX4_fits_7 (by decide) ?_
  refine lv_icmp_eq (tgt := 35) hx hb dX4_fits_8 (by decide) (fun c0 => ?_) (fun c0 => ?_)
  · have h := (if_pos c0).symm.trans h
    refine lv_iload_n hx hb dX4_fits_35 rfl (lv_at hl 2 rfl) ?_
    refine lv_iconst (v := 4) hx hb dX4_fits_36 (by decide) ?_
    refine lv_irem hx hb dX4_fits_37 (by decide) ?_
    by_cases c38_0 : (p1 - p1 / 4 * 4) = (0 : Int32)
    · have h := (if_pos c38_0).symm.trans h
      refine lv_tableIn (off := 26) (tgt := 64) hx hb dX4_fits_38 (by rw [c38_0]; decide) (by rw [c38_0]; decide) (by rw [c38_0]; rfl) (by decide) ?_
      refine lv_iload_n hx hb dX4_fits_64 rfl (lv_at hl 0 rfl) ?_
      obtain ⟨u8, hu8, h⟩ := k_bs h
      refine k_ci (r := u8) (k2 := 0) (n2 := 0) (wc := []) (wc' := []) (w2 := (wP cI q0 q1 s_length s_codes)) (va_runS (As := [.int u1]) (rest := []) ⟨hx, hb, hml, hown, hts⟩ (mX4_kindBy l D cI ad _ u1 u8 hu8) (va_cwS 1 hts gX4_fits_X4_kindBy rfl rfl rfl (by decide +kernel) ⟨Nat.le_of_ble_eq_true rfl, Nat.le_of_ble_eq_true rfl⟩) (k_pres hN hST hA hK hP hD hS (isC := []) rfl rfl) rfl rfl hl.1 rfl (lv_room (Nat.le_of_ble_eq_true rfl)) dX4_fits_65 ⟨Nat.le_of_ble_eq_true rfl, Nat.le_of_ble_eq_true rfl⟩) hP hD hS hA [] rfl rfl rfl rfl rfl (fun H locs hP hD hS => ?_)
      refine lv_iconst (v := (-1)) hx hb dX4_fits_68 (by decide) ?_
      refine lv_icmp_eq (tgt := 76) hx hb dX4_fits_69 (by decide) (fun c0 => ?_) (fun c0 => ?_)
      · have h := (if_pos c0).symm.trans h
        refine lv_iconst (v := 0) hx hb dX4_fits_76 (by decide) ?_
        have h := Option.some.inj h
        subst h
        exact hRet _ _ _ _ kn_bo0 hP hD hS dX4_fits_77
      · have h := (if_neg c0).symm.trans h
        refine lv_iconst (v := 1) hx hb dX4_fits_72 (by decide) ?_
        refine lv_goto (tgt := 77) hx hb dX4_fits_73 (by decide) ?_
        have h := Option.some.inj h
        subst h
        exact hRet _ _ _ _ kn_bo1 hP hD hS dX4_fits_77
    · have h := (if_neg c38_0).symm.trans h
      by_cases c38_1 : (p1 - p1 / 4 * 4) = (1 : Int32)
      · have h := (if_pos c38_1).symm.trans h
        refine lv_tableIn (off := 40) (tgt := 78) hx hb dX4_fits_38 (by rw [c38_1]; decide) (by rw [c38_1]; decide) (by rw [c38_1]; rfl) (by decide) ?_
        refine lv_iload_n hx hb dX4_fits_78 rfl (lv_at hl 0 rfl) ?_
        refine lv_bipush (v := 49) hx hb dX4_fits_79 (by decide) ?_
        refine lv_bipush (v := 57) hx hb dX4_fits_81 (by decide) ?_
        obtain ⟨u6, hu6, h⟩ := k_bs h
        refine k_ci (r := u6) (k2 := 0) (n2 := 0) (wc := []) (wc' := []) (w2 := (wP cI q0 q1 s_length s_codes)) (va_runSN (host := "ClappedWrong") (As := [.int u1, .int 49, .int 57]) (rest := []) ⟨hx, hb, hml, hown, hts⟩ (mX5_within l D cI ad _ u1 49 57 u6 hu6) ⟨va_cnB 3 hts gX4_fits_X5_within_n19 rfl rfl rfl (hN.m RX4 19 yX5_within "ClappedWrong" (by decide +kernel)) (hts (.initialized RX5) (by decide +kernel)) (by decide +kernel) ⟨Nat.le_of_ble_eq_true rfl, Nat.le_of_ble_eq_true rfl⟩, hts (.static yX5_within) (by decide +kernel), trivial⟩ (k_pres hN hST hA hK hP hD hS (isC := []) rfl rfl) rfl rfl hl.1 rfl (lv_room (Nat.le_of_ble_eq_true rfl)) dX4_fits_83 ⟨Nat.le_of_ble_eq_true rfl, Nat.le_of_ble_eq_true rfl⟩) hP hD hS hA [] rfl rfl rfl rfl rfl (fun H locs hP hD hS => ?_)
        obtain ⟨hz, h⟩ := kz_bind h
        have h := Option.some.inj h
        subst h
        exact hRet _ _ _ _ hz hP hD hS dX4_fits_86
      · have h := (if_neg c38_1).symm.trans h
        by_cases c38_2 : (p1 - p1 / 4 * 4) = (2 : Int32)
        · have h := (if_pos c38_2).symm.trans h
          refine lv_tableIn (off := 49) (tgt := 87) hx hb dX4_fits_38 (by rw [c38_2]; decide) (by rw [c38_2]; decide) (by rw [c38_2]; rfl) (by decide) ?_
          refine lv_iload_n hx hb dX4_fits_87 rfl (lv_at hl 0 rfl) ?_
          refine lv_bipush (v := 48) hx hb dX4_fits_88 (by decide) ?_
          refine lv_bipush (v := 57) hx hb dX4_fits_90 (by decide) ?_
          obtain ⟨u4, hu4, h⟩ := k_bs h
          refine k_ci (r := u4) (k2 := 0) (n2 := 0) (wc := []) (wc' := []) (w2 := (wP cI q0 q1 s_length s_codes)) (va_runSN (host := "ClappedWrong") (As := [.int u1, .int 48, .int 57]) (rest := []) ⟨hx, hb, hml, hown, hts⟩ (mX5_within l D cI ad _ u1 48 57 u4 hu4) ⟨va_cnB 3 hts gX4_fits_X5_within_n19 rfl rfl rfl (hN.m RX4 19 yX5_within "ClappedWrong" (by decide +kernel)) (hts (.initialized RX5) (by decide +kernel)) (by decide +kernel) ⟨Nat.le_of_ble_eq_true rfl, Nat.le_of_ble_eq_true rfl⟩, hts (.static yX5_within) (by decide +kernel), trivial⟩ (k_pres hN hST hA hK hP hD hS (isC := []) rfl rfl) rfl rfl hl.1 rfl (lv_room (Nat.le_of_ble_eq_true rfl)) dX4_fits_92 ⟨Nat.le_of_ble_eq_true rfl, Nat.le_of_ble_eq_true rfl⟩) hP hD hS hA [] rfl rfl rfl rfl rfl (fun H locs hP hD hS => ?_)
          obtain ⟨hz, h⟩ := kz_bind h
          have h := Option.some.inj h
          subst h
          exact hRet _ _ _ _ hz hP hD hS dX4_fits_95
        · have h := (if_neg c38_2).symm.trans h
          refine lv_tableOut (tgt := 96) hx hb dX4_fits_38 (kdn (by decide) (lv_neT c38_0 (a := 0) rfl) (kdn (by decide) (lv_neT c38_1 (a := 1) rfl) (kdn (by decide) (lv_neT c38_2 (a := 2) rfl) (kdb (k1 := 3) (by decide) _)))) (by decide) ?_
          refine lv_iload_n hx hb dX4_fits_96 rfl (lv_at hl 0 rfl) ?_
          refine lv_iload_n hx hb dX4_fits_97 rfl (lv_at hl 2 rfl) ?_
          refine lv_iconst (v := 4) hx hb dX4_fits_98 (by decide) ?_
          refine lv_idiv hx hb dX4_fits_99 (by decide) ?_
          refine lv_iconst (v := 1) hx hb dX4_fits_100 (by decide) ?_
          refine lv_iadd hx hb dX4_fits_101 ?_
          obtain ⟨u2, hu2, h⟩ := k_bs h
          refine k_ci (r := u2) (k2 := 0) (n2 := 0) (wc := []) (wc' := []) (w2 := (wP cI q0 q1 s_length s_codes)) (va_runS (As := [.int u1, .int ((p1 / 4) + 1)]) (rest := []) ⟨hx, hb, hml, hown, hts⟩ (mX4_followsRow l D cI ad _ u1 ((p1 / 4) + 1) u2 hu2) (va_cwS 2 hts gX4_fits_X4_followsRow rfl rfl rfl (by decide +kernel) ⟨Nat.le_of_ble_eq_true rfl, Nat.le_of_ble_eq_true rfl⟩) (k_pres hN hST hA hK hP hD hS (isC := []) rfl rfl) rfl rfl hl.1 rfl (lv_room (Nat.le_of_ble_eq_true rfl)) dX4_fits_102 ⟨Nat.le_of_ble_eq_true rfl, Nat.le_of_ble_eq_true rfl⟩) hP hD hS hA [] rfl rfl rfl rfl rfl (fun H locs hP hD hS => ?_)
          obtain ⟨hz, h⟩ := kz_bind h
          have h := Option.some.inj h
          subst h
          exact hRet _ _ _ _ hz hP hD hS dX4_fits_105
  · have h := (if_neg c0).symm.trans h
    refine lv_iload_n hx hb dX4_fits_11 rfl (lv_at hl 2 rfl) ?_
    refine lv_iload_n hx hb dX4_fits_12 rfl (lv_at hl 3 rfl) ?_
    refine lv_iconst (v := 1) hx hb dX4_fits_13 (by decide) ?_
    refine lv_iadd hx hb dX4_fits_14 ?_
    refine lv_icmp_ne (tgt := 33) hx hb dX4_fits_15 (by decide) (fun c0 => ?_) (fun c0 => ?_)
    · have h := (if_neg c0).symm.trans h
      refine lv_iconst (v := 0) hx hb dX4_fits_33 (by decide) ?_
      have h := Option.some.inj h
      subst h
      exact hRet _ _ _ _ kn_bo0 hP hD hS dX4_fits_34
    · have h := (if_pos c0).symm.trans h
      refine lv_iload_n hx hb dX4_fits_18 rfl (lv_at hl 0 rfl) ?_
      refine lv_bipush (v := 48) hx hb dX4_fits_19 (by decide) ?_
      refine lv_bipush (v := 51) hx hb dX4_fits_21 (by decide) ?_
      obtain ⟨u9, hu9, h⟩ := k_bs h
      refine k_ci (r := u9) (k2 := 0) (n2 := 0) (wc := []) (wc' := []) (w2 := (wP cI q0 q1 s_length s_codes)) (va_runSN (host := "ClappedWrong") (As := [.int u1, .int 48, .int 51]) (rest := []) ⟨hx, hb, hml, hown, hts⟩ (mX5_within l D cI ad _ u1 48 51 u9 hu9) ⟨va_cnB 3 hts gX4_fits_X5_within_n19 rfl rfl rfl (hN.m RX4 19 yX5_within "ClappedWrong" (by decide +kernel)) (hts (.initialized RX5) (by decide +kernel)) (by decide +kernel) ⟨Nat.le_of_ble_eq_true rfl, Nat.le_of_ble_eq_true rfl⟩, hts (.static yX5_within) (by decide +kernel), trivial⟩ (k_pres hN hST hA hK hP hD hS (isC := []) rfl rfl) rfl rfl hl.1 rfl (lv_room (Nat.le_of_ble_eq_true rfl)) dX4_fits_23 ⟨Nat.le_of_ble_eq_true rfl, Nat.le_of_ble_eq_true rfl⟩) hP hD hS hA [] rfl rfl rfl rfl rfl (fun H locs hP hD hS => ?_)
      refine lv_if_eq (tgt := 33) hx hb dX4_fits_26 (by decide) (fun c0 => ?_) (fun c0 => ?_)
      · have h := (if_pos c0).symm.trans h
        refine lv_iconst (v := 0) hx hb dX4_fits_33 (by decide) ?_
        have h := Option.some.inj h
        subst h
        exact hRet _ _ _ _ kn_bo0 hP hD hS dX4_fits_34
      · have h := (if_neg c0).symm.trans h
        refine lv_iconst (v := 1) hx hb dX4_fits_29 (by decide) ?_
        refine lv_goto (tgt := 34) hx hb dX4_fits_30 (by decide) ?_
        have h := Option.some.inj h
        subst h
        exact hRet _ _ _ _ kn_bo1 hP hD hS dX4_fits_34
theorem iX4_firstFault_X4 : ∀ w ∈ wsX40, w ∈ wsX4_firstFault := by decide +kernel
def rX4_firstFault : Room := { frames := 6, cells := 0, slots := 0, locals := 134 }
set_option maxHeartbeats 4000000 in
set_option maxRecDepth 100000 in
theorem mX4_firstFault (l : Launch) (D : va_G) (cI : ClassId) (ad : Nat × Nat) (q0 q1 : Nat) (sz : Nat) (s_length : Int32) (s_codes : (Nat → Int32)) (r : Int32) (h : fX4_firstFault s_codes s_length = some r) : Met l yX4_firstFault wsX4_firstFault rX4_firstFault (kPre D cI ad [.ref q0] (wP cI q0 q1 s_length s_codes) sz) (kQi D cI r (wP cI q0 q1 s_length s_codes) (va_A (wP cI q0 q1 s_length s_codes) sz)) 0 0 (va_A (wP cI q0 q1 s_length s_codes) sz) := by
  refine kStart (cc := cX4_firstFault) (maxL := 3) (ret := (some .int)) (Qc := fun A => kQi D cI r (wP cI q0 q1 s_length s_codes) A) (by decide) rfl (Nat.le_of_ble_eq_true rfl) ?_
  intro p e s m args below meth c A ls hx hb hr hts hown hlocks hin hml hN hST hA hS hP hK hD hl
  have hown : s.vm.findClass RX4 = some m.cls := hown
  have hl : lv_has ls 3 [(0, .ref q0)] := hl
  have hRet : ∀ (H : Heap) (locs : List Loc) (ls : Array Slot) (pc : Nat), va_P D vwCl (wP cI q0 q1 s_length s_codes) H → va_D A (wP cI q0 q1 s_length s_codes) → va_S A s.heap H locs → decode cX4_firstFault pc = .ok (.ireturn, 1) → W p l e rX4_firstFault s m args below meth c H locs 0 0 (MQ below (kQi D cI r (wP cI q0 q1 s_length s_codes) A) args s 0 0 A) (F0 m pc ls [.int r]) := fun H locs ls pc hP hD hS hd => k_iret hx hb hr hlocks hK hP hD hS hd
  generalize MQ below (kQi D cI r (wP cI q0 q1 s_length s_codes) A) args s 0 0 A = Q at hRet ⊢
  unfold fX4_firstFault at h
  refine lv_iconst (v := (-1)) hx hb dX4_firstFault_0 (by decide) ?_
  refine lv_istore_n (lv' := [(1, .int (-1)), (0, .ref q0)]) hx hb dX4_firstFault_1 rfl hl (by decide) rfl (fun ls hl => ?_)
  refine lv_iconst (v := 0) hx hb dX4_firstFault_2 (by decide) ?_
  refine lv_istore_n (lv' := [(2, .int 0), (1, .int (-1)), (0, .ref q0)]) hx hb dX4_firstFault_3 rfl hl (by decide) rfl (fun ls hl => ?_)
  refine kIter_fix (fun (z1 : (Int32 × Int32)) => ∀ (H : Heap) (locs : List Loc) (ls : Array Slot), va_P D vwCl (wP cI q0 q1 s_length s_codes) H → va_D A (wP cI q0 q1 s_length s_codes) → va_S A s.heap H locs → lv_has ls 3 [(0, .ref q0), (1, .int z1.1), (2, .int z1.2)] → W p l e rX4_firstFault s m args below meth c H locs 0 0 Q (F0 m 4 ls [])) ?_ _ _ h _ _ _ hP hD hS (lv_sub hl [2, 1, 0] rfl)
  intro rc1 ih1 z1 h H locs ls hP hD hS hl
  unfold fX4_firstFault_L1 at h
  refine lv_iload_n hx hb dX4_firstFault_4 rfl (lv_at hl 2 rfl) ?_
  refine lv_aload_n hx hb dX4_firstFault_5 rfl (lv_at hl 0 rfl) ?_
  refine va_get (D := D) (ci := 4) (v := .int s_length) (C := RX4) (T := TX4) (N := 2) hx hb hts iX4_firstFault_X4 hown hK hP 0 rfl rfl 1 (by decide) (hts (.fieldLink RX4 15 "ClappedWrong$Page" "length" "I") (by decide +kernel)) (fun _ h9 => h9) rfl dX4_firstFault_6 ?_
  refine lv_icmp_ge (tgt := 41) hx hb dX4_firstFault_9 (by decide) (fun c0 => ?_) (fun c0 => ?_)
  · have h := (if_pos c0).symm.trans h
    refine lv_aload_n hx hb dX4_firstFault_41 rfl (lv_at hl 0 rfl) ?_
    refine va_get (D := D) (ci := 4) (v := .int s_length) (C := RX4) (T := TX4) (N := 2) hx hb hts iX4_firstFault_X4 hown hK hP 0 rfl rfl 1 (by decide) (hts (.fieldLink RX4 15 "ClappedWrong$Page" "length" "I") (by decide +kernel)) (fun _ h9 => h9) rfl dX4_firstFault_42 ?_
    have h := Option.some.inj h
    subst h
    exact hRet _ _ _ _ hP hD hS dX4_firstFault_45
  · have h := (if_neg c0).symm.trans h
    refine lv_aload_n hx hb dX4_firstFault_12 rfl (lv_at hl 0 rfl) ?_
    refine lv_iload_n hx hb dX4_firstFault_13 rfl (lv_at hl 2 rfl) ?_
    refine lv_iload_n hx hb dX4_firstFault_14 rfl (lv_at hl 1 rfl) ?_
    obtain ⟨u2, hu2, h⟩ := k_bs h
    refine k_ciA (r := u2) (k2 := 0) (n2 := 0) (ws := (wP cI q0 q1 s_length s_codes)) (wc' := (wP cI q0 q1 s_length s_codes)) (va_runV (C := RX4) (As := [.int z1.2, .int z1.1]) (rest := []) ⟨hx, hb, hml, hown, hts⟩ (mX4_fits l D cI ad q0 q1 _ s_length s_codes z1.2 z1.1 u2 hu2) (cwV 2 hts gX4_firstFault_X4_fits rfl rfl rfl (by decide +kernel) ⟨Nat.le_of_ble_eq_true rfl, Nat.le_of_ble_eq_true rfl⟩) (k_preA (q := (RX4, TX4, 2)) hN hST hA hK hP hD hS 0 (ci := 4) rfl rfl) rfl rfl hl.1 rfl (lv_room (Nat.le_of_ble_eq_true rfl)) dX4_firstFault_15 ⟨Nat.le_of_ble_eq_true rfl, Nat.le_of_ble_eq_true rfl⟩) hP hD hS hA rfl rfl (fun H locs hP hD hS => ?_)
    refine lv_if_ne (tgt := 23) hx hb dX4_firstFault_18 (by decide) (fun c0 => ?_) (fun c0 => ?_)
    · have h := (if_neg c0).symm.trans h
      refine lv_aload_n hx hb dX4_firstFault_23 rfl (lv_at hl 0 rfl) ?_
      refine lv_iload_n hx hb dX4_firstFault_24 rfl (lv_at hl 2 rfl) ?_
      obtain ⟨u3, hu3, h⟩ := k_bs h
      refine k_ciA (r := u3) (k2 := 0) (n2 := 0) (ws := (wP cI q0 q1 s_length s_codes)) (wc' := (wP cI q0 q1 s_length s_codes)) (va_runV (C := RX4) (As := [.int z1.2]) (rest := []) ⟨hx, hb, hml, hown, hts⟩ (mX4_codeAt l D cI ad q0 q1 _ s_length s_codes z1.2 u3 hu3) (cwV 1 hts gX4_firstFault_X4_codeAt rfl rfl rfl (by decide +kernel) ⟨Nat.le_of_ble_eq_true rfl, Nat.le_of_ble_eq_true rfl⟩) (k_preA (q := (RX4, TX4, 2)) hN hST hA hK hP hD hS 0 (ci := 4) rfl rfl) rfl rfl hl.1 rfl (lv_room (Nat.le_of_ble_eq_true rfl)) dX4_firstFault_25 ⟨Nat.le_of_ble_eq_true rfl, Nat.le_of_ble_eq_true rfl⟩) hP hD hS hA rfl rfl (fun H locs hP hD hS => ?_)
      refine lv_bipush (v := 59) hx hb dX4_firstFault_28 (by decide) ?_
      refine lv_icmp_ne (tgt := 35) hx hb dX4_firstFault_30 (by decide) (fun c0 => ?_) (fun c0 => ?_)
      · have h := (if_neg c0).symm.trans h
        refine lv_iinc (v := (z1.2 + 1)) (lv' := [(2, .int (z1.2 + 1)), (0, .ref q0), (1, .int z1.1)]) hx hb dX4_firstFault_35 hl (k := 2) rfl rfl (by decide) rfl (fun ls hl => ?_)
        refine lv_goto (tgt := 4) hx hb dX4_firstFault_38 (by decide) ?_
        exact ih1 _ h _ _ _ hP hD hS (lv_sub hl [1, 2, 0] rfl)
      · have h := (if_pos c0).symm.trans h
        refine lv_iload_n hx hb dX4_firstFault_33 rfl (lv_at hl 2 rfl) ?_
        refine lv_istore_n (lv' := [(1, .int z1.2), (0, .ref q0), (2, .int z1.2)]) hx hb dX4_firstFault_34 rfl hl (by decide) rfl (fun ls hl => ?_)
        refine lv_iinc (v := (z1.2 + 1)) (lv' := [(2, .int (z1.2 + 1)), (1, .int z1.2), (0, .ref q0)]) hx hb dX4_firstFault_35 hl (k := 2) rfl rfl (by decide) rfl (fun ls hl => ?_)
        refine lv_goto (tgt := 4) hx hb dX4_firstFault_38 (by decide) ?_
        exact ih1 _ h _ _ _ hP hD hS (lv_sub hl [2, 1, 0] rfl)
    · have h := (if_pos c0).symm.trans h
      refine lv_iload_n hx hb dX4_firstFault_21 rfl (lv_at hl 2 rfl) ?_
      have h := Option.some.inj h
      subst h
      exact hRet _ _ _ _ hP hD hS dX4_firstFault_22
theorem iX4_isWhole_X4 : ∀ w ∈ wsX40, w ∈ wsX4_isWhole := by decide +kernel
def rX4_isWhole : Room := { frames := 7, cells := 0, slots := 0, locals := 156 }
set_option maxHeartbeats 4000000 in
set_option maxRecDepth 100000 in
theorem mX4_isWhole (l : Launch) (D : va_G) (cI : ClassId) (ad : Nat × Nat) (q0 q1 : Nat) (sz : Nat) (s_length : Int32) (s_codes : (Nat → Int32)) (r : Int32) (h : fX4_isWhole s_codes s_length = some r) : Met l yX4_isWhole wsX4_isWhole rX4_isWhole (kPre D cI ad [.ref q0] (wP cI q0 q1 s_length s_codes) sz) (kQi D cI r (wP cI q0 q1 s_length s_codes) (va_A (wP cI q0 q1 s_length s_codes) sz)) 0 0 (va_A (wP cI q0 q1 s_length s_codes) sz) := by
  refine kStart (cc := cX4_isWhole) (maxL := 1) (ret := (some .boolean)) (Qc := fun A => kQi D cI r (wP cI q0 q1 s_length s_codes) A) (by decide) rfl (Nat.le_of_ble_eq_true rfl) ?_
  intro p e s m args below meth c A ls hx hb hr hts hown hlocks hin hml hN hST hA hS hP hK hD hl
  have hown : s.vm.findClass RX4 = some m.cls := hown
  have hl : lv_has ls 1 [(0, .ref q0)] := hl
  have hRet : ∀ (H : Heap) (locs : List Loc) (ls : Array Slot) (pc : Nat), narrow .boolean (.int r) = .int r → va_P D vwCl (wP cI q0 q1 s_length s_codes) H → va_D A (wP cI q0 q1 s_length s_codes) → va_S A s.heap H locs → decode cX4_isWhole pc = .ok (.ireturn, 1) → W p l e rX4_isWhole s m args below meth c H locs 0 0 (MQ below (kQi D cI r (wP cI q0 q1 s_length s_codes) A) args s 0 0 A) (F0 m pc ls [.int r]) := fun H locs ls pc hz hP hD hS hd => k_zret hx hb hr hlocks hK hz hP hD hS hd
  generalize MQ below (kQi D cI r (wP cI q0 q1 s_length s_codes) A) args s 0 0 A = Q at hRet ⊢
  unfold fX4_isWhole at h
  refine lv_aload_n hx hb dX4_isWhole_0 rfl (lv_at hl 0 rfl) ?_
  refine va_get (D := D) (ci := 4) (v := .int s_length) (C := RX4) (T := TX4) (N := 2) hx hb hts iX4_isWhole_X4 hown hK hP 0 rfl rfl 1 (by decide) (hts (.fieldLink RX4 15 "ClappedWrong$Page" "length" "I") (by decide +kernel)) (fun _ h9 => h9) rfl dX4_isWhole_1 ?_
  refine lv_iconst (v := 1) hx hb dX4_isWhole_4 (by decide) ?_
  refine lv_icmp_le (tgt := 38) hx hb dX4_isWhole_5 (by decide) (fun c0 => ?_) (fun c0 => ?_)
  · have h := (if_pos c0).symm.trans h
    refine lv_iconst (v := 0) hx hb dX4_isWhole_38 (by decide) ?_
    have h := Option.some.inj h
    subst h
    exact hRet _ _ _ _ kn_bo0 hP hD hS dX4_isWhole_39
  · have h := (if_neg c0).symm.trans h
    refine lv_aload_n hx hb dX4_isWhole_8 rfl (lv_at hl 0 rfl) ?_
    obtain ⟨u1, hu1, h⟩ := k_bs h
    refine k_ciA (r := u1) (k2 := 0) (n2 := 0) (ws := (wP cI q0 q1 s_length s_codes)) (wc' := (wP cI q0 q1 s_length s_codes)) (va_runV (C := RX4) (As := []) (rest := []) ⟨hx, hb, hml, hown, hts⟩ (mX4_firstFault l D cI ad q0 q1 _ s_length s_codes u1 hu1) (cwV 0 hts gX4_isWhole_X4_firstFault rfl rfl rfl (by decide +kernel) ⟨Nat.le_of_ble_eq_true rfl, Nat.le_of_ble_eq_true rfl⟩) (k_preA (q := (RX4, TX4, 2)) hN hST hA hK hP hD hS 0 (ci := 4) rfl rfl) rfl rfl hl.1 rfl (lv_room (Nat.le_of_ble_eq_true rfl)) dX4_isWhole_9 ⟨Nat.le_of_ble_eq_true rfl, Nat.le_of_ble_eq_true rfl⟩) hP hD hS hA rfl rfl (fun H locs hP hD hS => ?_)
    refine lv_aload_n hx hb dX4_isWhole_12 rfl (lv_at hl 0 rfl) ?_
    refine va_get (D := D) (ci := 4) (v := .int s_length) (C := RX4) (T := TX4) (N := 2) hx hb hts iX4_isWhole_X4 hown hK hP 0 rfl rfl 1 (by decide) (hts (.fieldLink RX4 15 "ClappedWrong$Page" "length" "I") (by decide +kernel)) (fun _ h9 => h9) rfl dX4_isWhole_13 ?_
    refine lv_icmp_ne (tgt := 38) hx hb dX4_isWhole_16 (by decide) (fun c0 => ?_) (fun c0 => ?_)
    · have h := (if_neg c0).symm.trans h
      refine lv_iconst (v := 0) hx hb dX4_isWhole_38 (by decide) ?_
      have h := Option.some.inj h
      subst h
      exact hRet _ _ _ _ kn_bo0 hP hD hS dX4_isWhole_39
    · have h := (if_pos c0).symm.trans h
      refine lv_aload_n hx hb dX4_isWhole_19 rfl (lv_at hl 0 rfl) ?_
      refine lv_aload_n hx hb dX4_isWhole_20 rfl (lv_at hl 0 rfl) ?_
      refine va_get (D := D) (ci := 4) (v := .int s_length) (C := RX4) (T := TX4) (N := 2) hx hb hts iX4_isWhole_X4 hown hK hP 0 rfl rfl 1 (by decide) (hts (.fieldLink RX4 15 "ClappedWrong$Page" "length" "I") (by decide +kernel)) (fun _ h9 => h9) rfl dX4_isWhole_21 ?_
      refine lv_iconst (v := 2) hx hb dX4_isWhole_24 (by decide) ?_
      refine lv_isub hx hb dX4_isWhole_25 ?_
      obtain ⟨u2, hu2, h⟩ := k_bs h
      refine k_ciA (r := u2) (k2 := 0) (n2 := 0) (ws := (wP cI q0 q1 s_length s_codes)) (wc' := (wP cI q0 q1 s_length s_codes)) (va_runV (C := RX4) (As := [.int (s_length - 2)]) (rest := []) ⟨hx, hb, hml, hown, hts⟩ (mX4_codeAt l D cI ad q0 q1 _ s_length s_codes (s_length - 2) u2 hu2) (cwV 1 hts gX4_isWhole_X4_codeAt rfl rfl rfl (by decide +kernel) ⟨Nat.le_of_ble_eq_true rfl, Nat.le_of_ble_eq_true rfl⟩) (k_preA (q := (RX4, TX4, 2)) hN hST hA hK hP hD hS 0 (ci := 4) rfl rfl) rfl rfl hl.1 rfl (lv_room (Nat.le_of_ble_eq_true rfl)) dX4_isWhole_26 ⟨Nat.le_of_ble_eq_true rfl, Nat.le_of_ble_eq_true rfl⟩) hP hD hS hA rfl rfl (fun H locs hP hD hS => ?_)
      refine lv_bipush (v := 59) hx hb dX4_isWhole_29 (by decide) ?_
      refine lv_icmp_ne (tgt := 38) hx hb dX4_isWhole_31 (by decide) (fun c0 => ?_) (fun c0 => ?_)
      · have h := (if_neg c0).symm.trans h
        refine lv_iconst (v := 0) hx hb dX4_isWhole_38 (by decide) ?_
        have h := Option.some.inj h
        subst h
        exact hRet _ _ _ _ kn_bo0 hP hD hS dX4_isWhole_39
      · have h := (if_pos c0).symm.trans h
        refine lv_iconst (v := 1) hx hb dX4_isWhole_34 (by decide) ?_
        refine lv_goto (tgt := 39) hx hb dX4_isWhole_35 (by decide) ?_
        have h := Option.some.inj h
        subst h
        exact hRet _ _ _ _ kn_bo1 hP hD hS dX4_isWhole_39
