theorem count_eq {s_page_length s_room_rows s_room_late s_night_crowd_armRows s_night_recorded s_night_barsGone s_night_beatsLeftOut s_hallsRead s_turnedDone s_beganDone t_pageMany t_many t_late t_armNow t_barNow t_skips t_hallsRead t_turnedMany t_recordMany t_beganMany : Int32} {s_page_codes s_room_kinds s_room_palms s_room_strengths s_night_crowd_sounds s_night_crowd_clapped s_night_rightBehindBar t_page t_rows t_sounds t_clapped t_records : Nat → Int32} {w hr : Nat} (t_now t_nowLong : Nat → Int32) (t_nowArm : Int32) (hPg : RPage s_page_length s_page_codes t_pageMany t_page) (hH : RHall w s_room_rows s_room_late s_room_kinds s_room_palms s_room_strengths t_many t_late t_rows) (hNt : RNight w s_night_recorded s_night_barsGone s_night_beatsLeftOut s_night_crowd_armRows s_night_crowd_sounds s_night_crowd_clapped s_night_rightBehindBar t_recordMany t_barNow t_skips t_armNow t_sounds t_clapped t_records) (hCn : s_hallsRead = nI hr ∧ t_hallsRead = nI hr) (hTu : RCnt s_turnedDone t_turnedMany) (hBe : RCnt s_beganDone t_beganMany) (p1 : Int32) :
    ∃ (r : Int32) (r' : Int32 × Int32 × (Nat → Int32) × (Nat → Int32)), fX5_count s_page_length s_room_palms s_room_rows s_room_late s_night_crowd_sounds s_night_crowd_armRows s_night_recorded s_night_barsGone s_night_beatsLeftOut s_hallsRead s_turnedDone s_beganDone p1 = some r ∧ fX6_count t_pageMany t_many t_late t_armNow t_barNow t_skips t_hallsRead t_rows t_sounds t_clapped t_now t_nowLong t_nowArm t_turnedMany t_recordMany t_beganMany p1 = some r' ∧ r = r'.1 := by
  obtain ⟨hw, rfl, rfl, rfl, ⟨t, ht, rfl⟩, hh⟩ := hH
  obtain ⟨⟨n, hn, rfl, rfl, hrs⟩, rfl, rfl, rfl, hcr⟩ := hNt
  obtain ⟨rfl, rfl⟩ := hCn
  obtain ⟨a, ha, rfl, rfl⟩ := hTu
  obtain ⟨b, hb, rfl, rfl⟩ := hBe
  obtain ⟨m, hm, rfl, rfl, hc⟩ := hPg
  have hw8 : w ≤ 8 := by omega
  by_cases c0 : p1 = 0
  · subst c0
    exact ⟨_, _, rfl, rfl, rfl⟩
  by_cases c1 : p1 = 1
  · subst c1
    exact ⟨_, _, rfl, rfl, rfl⟩
  by_cases c2 : p1 = 2
  · subst c2
    obtain ⟨v, v1, v2⟩ := all_sim hw8 hh
    refine ⟨v, (v, t_nowArm, t_now, t_nowLong), ?_, ?_, rfl⟩
    · show (fX2_allPalms s_room_palms (nI w)).bind (fun u => some u) = _
      rw [v1, kb]
    · show ((fX6_palmsAll (nI w) t_rows).bind fun u3 => some (u3, t_nowArm, t_now, t_nowLong)).bind (fun u1 => some (u1.1, u1.2.1, u1.2.2.1, u1.2.2.2)) = _
      rw [v2]; rfl
  by_cases c3 : p1 = 3
  · subst c3
    obtain ⟨v, v1, v2⟩ := right_sim hw8 hh (SR_fillR (c := t_now) (d := t_nowLong) hw8 hcr)
    refine ⟨v, (v, s_night_crowd_armRows, fill 8 t_sounds t_now, fill 8 t_clapped t_nowLong), ?_, ?_, rfl⟩
    · show (fX0_palmsRight s_night_crowd_sounds s_room_palms (nI w)).bind (fun u => some u) = _
      rw [v1, kb]
    · show ((fX6_asItIs s_night_crowd_armRows t_sounds t_clapped t_now t_nowLong).bind fun u1 => (fX6_rightNow (nI w) t_rows u1.2.1).bind fun u2 => some (u2, u1.1, u1.2.1, u1.2.2)).bind (fun u1 => some (u1.1, u1.2.1, u1.2.2.1, u1.2.2.2)) = _
      rw [asIs_M, kb, v2]; rfl
  by_cases c4 : p1 = 4
  · subst c4
    exact ⟨_, _, rfl, rfl, rfl⟩
  by_cases c5 : p1 = 5
  · subst c5
    exact ⟨_, _, rfl, rfl, rfl⟩
  by_cases c6 : p1 = 6
  · subst c6
    exact ⟨_, _, rfl, rfl, rfl⟩
  by_cases c7 : p1 = 7
  · subst c7
    exact ⟨_, _, rfl, rfl, rfl⟩
  by_cases c8 : p1 = 8
  · subst c8
    exact ⟨_, _, rfl, rfl, rfl⟩
  by_cases c9 : p1 = 9
  · subst c9
    exact ⟨_, _, rfl, rfl, rfl⟩
  by_cases c10 : p1 = 10
  · subst c10
    exact ⟨_, _, rfl, rfl, rfl⟩
  by_cases c11 : p1 = 11
  · subst c11
    exact ⟨_, _, rfl, rfl, rfl⟩
  unfold fX5_count fX6_count fX6_countOf
  simp only [c0, c1, c2, c3, c4, c5, c6, c7, c8, c9, c10, c11, if_false, kb]
  exact ⟨_, _, rfl, rfl, rfl⟩

/-! many bars -/
abbrev Tri : Type := (Nat → Int32) × (Nat → Int32) × (Nat → Int32)
def stC (kd pl st : Nat → Int32) (w : Nat) (arm : Int32) (z : Tri) : Tri := (fill w (nxS kd pl st w arm z.1 z.2.1) z.1, fill w (clS (nxS kd pl st w arm z.1 z.2.1) z.2.1) z.2.1, fill w (nxS kd pl st w arm z.1 z.2.1) z.2.2)
def stM (rw_ : Nat → Int32) (w : Nat) (arm : Int32) (z : Tri) : Tri := (fill w (nxS (fun j => rw_ (3 * j)) (fun j => rw_ (3 * j + 1)) (fun j => rw_ (3 * j + 2)) w arm z.1 z.2.1) z.1, fill w (clS (nxS (fun j => rw_ (3 * j)) (fun j => rw_ (3 * j + 1)) (fun j => rw_ (3 * j + 2)) w arm z.1 z.2.1) z.2.1) z.2.1, fill 8 z.1 z.2.2)
def SRt (w : Nat) (z z' : Tri) : Prop := SR w z.1 z.2.1 z'.1 z'.2.1
theorem stC_eq {kd pl st : Nat → Int32} {w : Nat} (hw : w ≤ 8) (arm : Int32) (z : Tri) : fX0_goOn z.1 z.2.1 z.2.2 arm kd pl st (nI w) = some (chS (nxS kd pl st w arm z.1 z.2.1) z.1 w, stC kd pl st w arm z) := go_C hw _ (fun k _ => rfl)
theorem stM_eq {rw_ : Nat → Int32} {w : Nat} (hw : w ≤ 8) (arm : Int32) (z : Tri) : fX6_pass (nI w) rw_ z.1 z.2.1 z.2.2 arm = some (stM rw_ w arm z) := pass_M hw _ (fun k _ => rfl)
theorem st_sim {kd pl st rw_ : Nat → Int32} {w : Nat} (hw : w ≤ 8) (arm : Int32) (hH : HR w kd pl st rw_) {z z' : Tri} (h : SRt w z z') : SRt w (stC kd pl st w arm z) (stM rw_ w arm z') := by
  obtain ⟨ch, sn1, cl1, nt1, now1, nl1, ah1, g1, g2, g3, -⟩ := go_pass (nt := z.2.2) (ah := z'.2.2) hw arm hH h
  rw [stC_eq hw arm z] at g1
  rw [stM_eq hw arm z'] at g2
  have e1 := Option.some.inj g1
  have e2 := Option.some.inj g2
  have e3 : stC kd pl st w arm z = (sn1, cl1, nt1) := congrArg Prod.snd e1
  rw [e3, e2]
  exact g3
def itM (rw_ : Nat → Int32) (w : Nat) (arm : Int32) (z : Tri) : Nat → Tri
  | 0 => z
  | n + 1 => stM rw_ w arm (itM rw_ w arm z n)
theorem passAll_M {rw_ : Nat → Int32} {w : Nat} (hw : w ≤ 8) (arm : Int32) (z : Tri) {n : Nat} (hn : n < 100) : fX6_passAll (nI w) rw_ z.1 z.2.1 z.2.2 arm (nI n) = some (itM rw_ w arm z n) := by
  unfold fX6_passAll
  have h1 : kIter (fX6_passAll_L1 (nI w) rw_ arm (nI n)) 300 (0, z.1, z.2.1, z.2.2) = some (nI n, itM rw_ w arm z n) := kIter_up (step := fX6_passAll_L1 (nI w) rw_ arm (nI n)) (fun k => (nI k, itM rw_ w arm z k)) n (r := (nI n, itM rw_ w arm z n)) (by omega) (fun k hk rc => by
      unfold fX6_passAll_L1
      rw [if_neg (nI_ge hk (by omega))]
      dsimp only
      rw [stM_eq hw arm, kb, nI_1]; rfl) (fun rc => by
      unfold fX6_passAll_L1
      rw [if_pos (nI_le (Nat.le_refl n) (by omega))])
  rw [h1, kb]
def lvC (kd : Nat → Int32) (w : Nat) (z : Tri) : Tri := (fill w (lvS kd z.1) z.1, z.2.1, z.2.2)
def trC (kd pl st : Nat → Int32) (w : Nat) (arm : Int32) (b : Nat) (z : Tri) : Nat → Tri
  | 0 => z
  | n + 1 => stC kd pl st w arm (if n = b then lvC kd w (trC kd pl st w arm b z n) else trC kd pl st w arm b z n)
theorem behind_C {kd pl st sn cl tsn tcl tnt : Nat → Int32} {w : Nat} (hw : w ≤ 8) (arm : Int32) {n b : Nat} (hn : n < 100) (p2 : Int32) (hb : ∀ k, k < n → (nI k = p2 ↔ k = b)) :
    fX5_rightBehind kd pl st (nI w) sn cl arm tsn tcl tnt (nI n) p2 = (fX0_palmsRight (trC kd pl st w arm b (fill 8 sn tsn, fill 8 cl tcl, tnt) n).1 pl (nI w)).bind fun u7 => some (u7, arm, trC kd pl st w arm b (fill 8 sn tsn, fill 8 cl tcl, tnt) n) := by
  unfold fX5_rightBehind
  rw [take_C, kb]
  have h1 : kIter (fX5_rightBehind_L1 kd pl st (nI w) (nI n) p2 (arm, fill 8 sn tsn, fill 8 cl tcl)) 300 (0, fill 8 sn tsn, fill 8 cl tcl, tnt) = some (nI n, trC kd pl st w arm b (fill 8 sn tsn, fill 8 cl tcl, tnt) n) := kIter_up (step := fX5_rightBehind_L1 kd pl st (nI w) (nI n) p2 (arm, fill 8 sn tsn, fill 8 cl tcl)) (fun k => (nI k, trC kd pl st w arm b (fill 8 sn tsn, fill 8 cl tcl, tnt) k)) n (r := (nI n, trC kd pl st w arm b (fill 8 sn tsn, fill 8 cl tcl, tnt) n)) (by omega) (fun k hk rc => by
      unfold fX5_rightBehind_L1
      rw [if_neg (nI_ge hk (by omega))]
      dsimp only
      generalize hz : trC kd pl st w arm b (fill 8 sn tsn, fill 8 cl tcl, tnt) k = z
      have e : trC kd pl st w arm b (fill 8 sn tsn, fill 8 cl tcl, tnt) (k + 1) = stC kd pl st w arm (if k = b then lvC kd w z else z) := by rw [← hz]; rfl
      rw [e]
      by_cases q : k = b
      · rw [if_pos ((hb k hk).mpr q), if_pos q, leave_C hw, kb]
        have g := stC_eq (kd := kd) (pl := pl) (st := st) hw arm (lvC kd w z)
        have g' : fX0_goOn (fill w (lvS kd z.1) z.1) z.2.1 z.2.2 arm kd pl st (nI w) = _ := g
        rw [g', kb, nI_1]
      · rw [if_neg (fun h => q ((hb k hk).mp h)), if_neg q, stC_eq hw arm z, kb, nI_1]) (fun rc => by
      unfold fX5_rightBehind_L1
      rw [if_pos (nI_le (Nat.le_refl n) (by omega))])
  rw [h1, kb]
theorem lv_sim {kd pl st rw_ : Nat → Int32} {w : Nat} (hH : HR w kd pl st rw_) {z z' : Tri} (h : SRt w z z') : SRt w (lvC kd w z) (fill w (lvS (fun j => rw_ (3 * j)) z'.1) z'.1, z'.2.1, z'.2.2) := fun k hk => by
  dsimp only [lvC]
  rw [fill_in hk, fill_in hk]
  unfold lvS
  rw [(hH k hk).1, (h k hk).1]
  exact ⟨rfl, (h k hk).2⟩
theorem tr_sim0 {kd pl st rw_ : Nat → Int32} {w : Nat} (hw : w ≤ 8) (arm : Int32) (hH : HR w kd pl st rw_) {z z' : Tri} (h : SRt w z z') {b : Nat} : ∀ n, n ≤ b → SRt w (trC kd pl st w arm b z n) (itM rw_ w arm z' n)
  | 0, _ => h
  | n + 1, hn => by
    show SRt w (stC kd pl st w arm (if n = b then _ else trC kd pl st w arm b z n)) (stM rw_ w arm (itM rw_ w arm z' n))
    rw [if_neg (by omega)]
    exact st_sim hw arm hH (tr_sim0 hw arm hH h n (by omega))
theorem tr_sim1 {kd pl st rw_ : Nat → Int32} {w : Nat} (hw : w ≤ 8) (arm : Int32) (hH : HR w kd pl st rw_) {z z' : Tri} (h : SRt w z z') {b : Nat} : ∀ j, SRt w (trC kd pl st w arm b z (b + 1 + j)) (itM rw_ w arm (fill w (lvS (fun j => rw_ (3 * j)) (itM rw_ w arm z' b).1) (itM rw_ w arm z' b).1, (itM rw_ w arm z' b).2.1, (itM rw_ w arm z' b).2.2) (j + 1))
  | 0 => by
    show SRt w (stC kd pl st w arm (if b = b then lvC kd w (trC kd pl st w arm b z b) else _)) (stM rw_ w arm _)
    rw [if_pos rfl]
    exact st_sim hw arm hH (lv_sim hH (tr_sim0 hw arm hH h b (Nat.le_refl b)))
  | j + 1 => by
    show SRt w (stC kd pl st w arm (if b + 1 + j = b then _ else trC kd pl st w arm b z (b + 1 + j))) (stM rw_ w arm _)
    rw [if_neg (by omega)]
    exact st_sim hw arm hH (tr_sim1 hw arm hH h j)
