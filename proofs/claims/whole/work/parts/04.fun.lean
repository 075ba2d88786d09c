/-! the pure functions, method by method (by program) -/
def fX0_takeFrom_L1 (s_other_sounds : (Nat → Int32)) (s_other_clapped : (Nat → Int32)) (rc1 : ((Int32 × (Nat → Int32) × (Nat → Int32)) → Option (Int32 × (Nat → Int32) × (Nat → Int32)))) (z1 : (Int32 × (Nat → Int32) × (Nat → Int32))) : Option (Int32 × (Nat → Int32) × (Nat → Int32)) :=
  if 8 ≤ z1.1 then
    some (z1.1, z1.2.1, z1.2.2)
  else
    (kld 8 s_other_sounds z1.1).bind fun v3 =>
      (kst 8 z1.2.1 z1.1 v3).bind fun g4 =>
      (kld 8 s_other_clapped z1.1).bind fun v5 =>
      (kst 8 z1.2.2 z1.1 v5).bind fun g6 =>
      rc1 ((z1.1 + 1), g4, g6)
def fX0_takeFrom (s_sounds : (Nat → Int32)) (s_clapped : (Nat → Int32)) (s_other_sounds : (Nat → Int32)) (s_other_clapped : (Nat → Int32)) (s_other_armRows : Int32) : Option (Int32 × (Nat → Int32) × (Nat → Int32)) :=
  (kIter (fX0_takeFrom_L1 s_other_sounds s_other_clapped) 300 (0, s_sounds, s_clapped)).bind fun u2 =>
    some (s_other_armRows, u2.2.1, u2.2.2)
def fX0_beginWith_L1  (rc1 : ((Int32 × (Nat → Int32) × (Nat → Int32)) → Option (Int32 × (Nat → Int32) × (Nat → Int32)))) (z1 : (Int32 × (Nat → Int32) × (Nat → Int32))) : Option (Int32 × (Nat → Int32) × (Nat → Int32)) :=
  if 8 ≤ z1.1 then
    some (z1.1, z1.2.1, z1.2.2)
  else
    (kst 8 z1.2.1 z1.1 3).bind fun g3 =>
      (kst 8 z1.2.2 z1.1 0).bind fun g4 =>
      rc1 ((z1.1 + 1), g3, g4)
def fX0_beginWith (s_sounds : (Nat → Int32)) (s_clapped : (Nat → Int32)) (p1 : Int32) : Option (Int32 × (Nat → Int32) × (Nat → Int32)) :=
  (kIter fX0_beginWith_L1 300 (0, s_sounds, s_clapped)).bind fun u2 =>
    some (p1, u2.2.1, u2.2.2)
def fX0_soundOf (s_sounds : (Nat → Int32)) (p1 : Int32) : Option Int32 :=
  if p1 < 0 then
    some 0
  else
    if 8 ≤ p1 then
      some 0
    else
      (kld 8 s_sounds p1).bind fun v1 =>
        some v1
def fX0_clappedOf (s_clapped : (Nat → Int32)) (p1 : Int32) : Option Int32 :=
  if p1 < 0 then
    some 0
  else
    if 8 ≤ p1 then
      some 0
    else
      (kld 8 s_clapped p1).bind fun v1 =>
        some v1
def fX0_let (s_sounds : (Nat → Int32)) (s_clapped : (Nat → Int32)) (p1 : Int32) (p2 : Int32) : Option ((Nat → Int32) × (Nat → Int32)) :=
  if p1 < 0 then
    some (s_sounds, s_clapped)
  else
    if p1 < 8 then
      (kst 8 s_sounds p1 p2).bind fun g1 =>
        if p2 = (0 : Int32) then
        (kst 8 s_clapped p1 0).bind fun g2 =>
          some (g1, g2)
      else
        some (g1, s_clapped)
    else
      some (s_sounds, s_clapped)
def fX2_strengthOf (s_strengths : (Nat → Int32)) (s_rows : Int32) (p1 : Int32) : Option Int32 :=
  if p1 < 0 then
    some 0
  else
    if s_rows ≤ p1 then
      some 0
    else
      (kld 8 s_strengths p1).bind fun v1 =>
        some v1
def fX0_isTired (s_clapped : (Nat → Int32)) (s_hall_strengths : (Nat → Int32)) (s_hall_rows : Int32) (p2 : Int32) : Option Int32 :=
  (fX2_strengthOf s_hall_strengths s_hall_rows p2).bind fun u1 =>
    if u1 ≤ 0 then
    some 0
  else
    (fX0_clappedOf s_clapped p2).bind fun u2 =>
      if u2 < u1 then
      some 0
    else
      some 1
def fX0_seesArm (s_armRows : Int32) (p1 : Int32) : Option Int32 :=
  if s_armRows ≤ p1 then
    some 0
  else
    some 1
def fX2_kindOf (s_kinds : (Nat → Int32)) (s_rows : Int32) (p1 : Int32) : Option Int32 :=
  if p1 < 0 then
    some (-1)
  else
    if s_rows ≤ p1 then
      some (-1)
    else
      (kld 8 s_kinds p1).bind fun v1 =>
        some v1
def fX2_isOf (s_kinds : (Nat → Int32)) (s_rows : Int32) (p1 : Int32) (p2 : Int32) : Option Int32 :=
  (fX2_kindOf s_kinds s_rows p1).bind fun u1 =>
    if p2 = (0 : Int32) then
    some 1
  else
    if p2 = u1 then
      some 1
    else
      if p2 = (1 : Int32) then
        if u1 = (4 : Int32) then
          some 1
        else
          some 0
      else
        some 0
def fX0_palmsThatSound (s_sounds : (Nat → Int32)) (s_hall_palms : (Nat → Int32)) (s_hall_rows : Int32) (p2 : Int32) (p3 : Int32) : Option Int32 :=
  if p2 < 0 then
    some 0
  else
    if p2 < s_hall_rows then
      (kld 8 s_sounds p2).bind fun v1 =>
        if (v1 &&& p3) = (0 : Int32) then
        some 0
      else
        (kld 8 s_hall_palms p2).bind fun v2 =>
          some v2
    else
      some 0
def fX0_soundOfMore_L1 (s_sounds : (Nat → Int32)) (s_hall_palms : (Nat → Int32)) (s_hall_rows : Int32) (p2 : Int32) (rc1 : ((Int32 × Int32 × Int32) → Option (Int32 × Int32 × Int32))) (z1 : (Int32 × Int32 × Int32)) : Option (Int32 × Int32 × Int32) :=
  if (p2 + 1) < z1.2.2 then
    some (z1.1, z1.2.1, z1.2.2)
  else
    (fX0_palmsThatSound s_sounds s_hall_palms s_hall_rows z1.2.2 1).bind fun u3 =>
      (fX0_palmsThatSound s_sounds s_hall_palms s_hall_rows z1.2.2 2).bind fun u4 =>
      rc1 ((z1.1 + u3), (z1.2.1 + u4), (z1.2.2 + 1))
def fX0_soundOfMore (s_sounds : (Nat → Int32)) (s_hall_kinds : (Nat → Int32)) (s_hall_palms : (Nat → Int32)) (s_hall_rows : Int32) (p2 : Int32) : Option Int32 :=
  (kIter (fX0_soundOfMore_L1 s_sounds s_hall_palms s_hall_rows p2) 300 (0, 0, (p2 - 1))).bind fun u2 =>
    if u2.1 = u2.2.1 then
    (fX2_kindOf s_hall_kinds s_hall_rows p2).bind fun u5 =>
      if u5 = (3 : Int32) then
      some 3
    else
      (fX0_soundOf s_sounds p2).bind fun u6 =>
        some u6
  else
    if u2.1 ≤ u2.2.1 then
      some 2
    else
      some 1
def fX0_soundNext (s_sounds : (Nat → Int32)) (s_clapped : (Nat → Int32)) (s_armRows : Int32) (s_hall_kinds : (Nat → Int32)) (s_hall_palms : (Nat → Int32)) (s_hall_strengths : (Nat → Int32)) (s_hall_rows : Int32) (p2 : Int32) : Option Int32 :=
  (fX0_isTired s_clapped s_hall_strengths s_hall_rows p2).bind fun u1 =>
    if u1 = (0 : Int32) then
    (fX0_soundOf s_sounds p2).bind fun u2 =>
      if u2 = (0 : Int32) then
      some 3
    else
      (fX2_isOf s_hall_kinds s_hall_rows p2 1).bind fun u3 =>
        if u3 = (0 : Int32) then
        (fX2_kindOf s_hall_kinds s_hall_rows p2).bind fun u4 =>
          if u4 = (2 : Int32) then
          (fX0_seesArm s_armRows p2).bind fun u6 =>
            if u6 = (0 : Int32) then
            (fX0_soundOfMore s_sounds s_hall_kinds s_hall_palms s_hall_rows p2).bind fun u7 =>
              some u7
          else
            some 2
        else
          (fX0_soundOfMore s_sounds s_hall_kinds s_hall_palms s_hall_rows p2).bind fun u5 =>
            some u5
      else
        some u2
  else
    some 0
def fX5_oneIf (p0 : Int32) : Option Int32 :=
  if p0 = (0 : Int32) then
    some 0
  else
    some 1
def fX0_goOn_L1 (s_sounds : (Nat → Int32)) (s_clapped : (Nat → Int32)) (s_armRows : Int32) (s_hall_kinds : (Nat → Int32)) (s_hall_palms : (Nat → Int32)) (s_hall_strengths : (Nat → Int32)) (s_hall_rows : Int32) (rc1 : ((Int32 × (Nat → Int32)) → Option (Int32 × (Nat → Int32)))) (z1 : (Int32 × (Nat → Int32))) : Option (Int32 × (Nat → Int32)) :=
  if s_hall_rows ≤ z1.1 then
    some (z1.1, z1.2)
  else
    (fX0_soundNext s_sounds s_clapped s_armRows s_hall_kinds s_hall_palms s_hall_strengths s_hall_rows z1.1).bind fun u3 =>
      (kst 8 z1.2 z1.1 u3).bind fun g4 =>
      rc1 ((z1.1 + 1), g4)
def fX0_goOn_L2 (s_hall_rows : Int32) (u2 : (Int32 × (Nat → Int32))) (rc5 : ((Int32 × Int32 × (Nat → Int32) × (Nat → Int32)) → Option (Int32 × Int32 × (Nat → Int32) × (Nat → Int32)))) (z5 : (Int32 × Int32 × (Nat → Int32) × (Nat → Int32))) : Option (Int32 × Int32 × (Nat → Int32) × (Nat → Int32)) :=
  if s_hall_rows ≤ z5.2.1 then
    some (z5.1, z5.2.1, z5.2.2.1, z5.2.2.2)
  else
    (if z5.1 = (0 : Int32) then
      (kld 8 u2.2 z5.2.1).bind fun v8 =>
        (kld 8 z5.2.2.1 z5.2.1).bind fun v9 =>
        if v8 = v9 then
        some 0
      else
        some 1
    else
      some 1).bind fun u7 =>
      (kld 8 u2.2 z5.2.1).bind fun v10 =>
      (fX0_let z5.2.2.1 z5.2.2.2 z5.2.1 v10).bind fun u11 =>
      (kld 8 u11.2 z5.2.1).bind fun v12 =>
      (kld 8 u2.2 z5.2.1).bind fun v13 =>
      if v13 = (0 : Int32) then
      (fX5_oneIf 0).bind fun u14 =>
        (kst 8 u11.2 z5.2.1 (v12 + u14)).bind fun g15 =>
        rc5 (u7, (z5.2.1 + 1), u11.1, g15)
    else
      (fX5_oneIf 1).bind fun u16 =>
        (kst 8 u11.2 z5.2.1 (v12 + u16)).bind fun g17 =>
        rc5 (u7, (z5.2.1 + 1), u11.1, g17)
def fX0_goOn (s_sounds : (Nat → Int32)) (s_clapped : (Nat → Int32)) (s_next : (Nat → Int32)) (s_armRows : Int32) (s_hall_kinds : (Nat → Int32)) (s_hall_palms : (Nat → Int32)) (s_hall_strengths : (Nat → Int32)) (s_hall_rows : Int32) : Option (Int32 × (Nat → Int32) × (Nat → Int32) × (Nat → Int32)) :=
  (kIter (fX0_goOn_L1 s_sounds s_clapped s_armRows s_hall_kinds s_hall_palms s_hall_strengths s_hall_rows) 300 (0, s_next)).bind fun u2 =>
    (kIter (fX0_goOn_L2 s_hall_rows u2) 300 (0, 0, s_sounds, s_clapped)).bind fun u6 =>
    (kz u6.1).bind fun b18 =>
    some (b18, u6.2.2.1, u6.2.2.2, u2.2)
def fX5_swapped (p0 : Int32) : Option Int32 :=
  if p0 = (1 : Int32) then
    some 2
  else
    if p0 = (2 : Int32) then
      some 1
    else
      some p0
def fX0_leaveBeatOut_L1 (s_hall_kinds : (Nat → Int32)) (s_hall_rows : Int32) (rc1 : ((Int32 × (Nat → Int32)) → Option (Int32 × (Nat → Int32)))) (z1 : (Int32 × (Nat → Int32))) : Option (Int32 × (Nat → Int32)) :=
  if s_hall_rows ≤ z1.1 then
    some (z1.1, z1.2)
  else
    (fX2_kindOf s_hall_kinds s_hall_rows z1.1).bind fun u3 =>
      if u3 = (1 : Int32) then
      rc1 ((z1.1 + 1), z1.2)
    else
      (kld 8 z1.2 z1.1).bind fun v4 =>
        (fX5_swapped v4).bind fun u5 =>
        (kst 8 z1.2 z1.1 u5).bind fun g6 =>
        rc1 ((z1.1 + 1), g6)
def fX0_leaveBeatOut (s_sounds : (Nat → Int32)) (s_hall_kinds : (Nat → Int32)) (s_hall_rows : Int32) : Option (Nat → Int32) :=
  (kIter (fX0_leaveBeatOut_L1 s_hall_kinds s_hall_rows) 300 (0, s_sounds)).bind fun u2 =>
    some u2.2
def fX2_palmsOf (s_palms : (Nat → Int32)) (s_rows : Int32) (p1 : Int32) : Option Int32 :=
  if p1 < 0 then
    some 0
  else
    if s_rows ≤ p1 then
      some 0
    else
      (kld 8 s_palms p1).bind fun v1 =>
        some v1
def fX0_palmsRight_L1 (s_sounds : (Nat → Int32)) (s_hall_palms : (Nat → Int32)) (s_hall_rows : Int32) (rc1 : ((Int32 × Int32) → Option (Int32 × Int32))) (z1 : (Int32 × Int32)) : Option (Int32 × Int32) :=
  if s_hall_rows ≤ z1.2 then
    some (z1.1, z1.2)
  else
    (kld 8 s_sounds z1.2).bind fun v3 =>
      if v3 = (2 : Int32) then
      (fX2_palmsOf s_hall_palms s_hall_rows z1.2).bind fun u4 =>
        rc1 ((z1.1 + u4), (z1.2 + 1))
    else
      rc1 (z1.1, (z1.2 + 1))
def fX0_palmsRight (s_sounds : (Nat → Int32)) (s_hall_palms : (Nat → Int32)) (s_hall_rows : Int32) : Option Int32 :=
  (kIter (fX0_palmsRight_L1 s_sounds s_hall_palms s_hall_rows) 300 (0, 0)).bind fun u2 =>
    some u2.1
def fX0_areWillingRight_L1 (s_sounds : (Nat → Int32)) (s_hall_kinds : (Nat → Int32)) (s_hall_rows : Int32) (rc1 : (Int32 → Option Int32)) (z1 : Int32) : Option Int32 :=
  if s_hall_rows ≤ z1 then
    some 1
  else
    (kld 8 s_sounds z1).bind fun v2 =>
      if v2 = (2 : Int32) then
      rc1 (z1 + 1)
    else
      (fX2_isOf s_hall_kinds s_hall_rows z1 1).bind fun u3 =>
        if u3 = (0 : Int32) then
        some 0
      else
        rc1 (z1 + 1)
def fX0_areWillingRight (s_sounds : (Nat → Int32)) (s_hall_kinds : (Nat → Int32)) (s_hall_rows : Int32) : Option Int32 :=
  kIter (fX0_areWillingRight_L1 s_sounds s_hall_kinds s_hall_rows) 300 0
def fX0_loudness_L1 (s_sounds : (Nat → Int32)) (s_hall_palms : (Nat → Int32)) (s_hall_rows : Int32) (p2 : Int32) (u1 : Int32) (rc2 : ((Int32 × Int32) → Option (Int32 × Int32))) (z2 : (Int32 × Int32)) : Option (Int32 × Int32) :=
  if (p2 + 1) < z2.2 then
    some (z2.1, z2.2)
  else
    (fX0_palmsThatSound s_sounds s_hall_palms s_hall_rows z2.2 u1).bind fun u4 =>
      rc2 ((z2.1 + u4), (z2.2 + 1))
def fX0_loudness (s_sounds : (Nat → Int32)) (s_hall_palms : (Nat → Int32)) (s_hall_rows : Int32) (p2 : Int32) (p3 : Int32) : Option Int32 :=
  (if (p3 - p3 / 2 * 2) = (0 : Int32) then
    some 1
  else
    some 2).bind fun u1 =>
    (kIter (fX0_loudness_L1 s_sounds s_hall_palms s_hall_rows p2 u1) 300 (0, (p2 - 1))).bind fun u3 =>
    (fX0_palmsThatSound s_sounds s_hall_palms s_hall_rows (p2 - 2) u1).bind fun u5 =>
    (fX0_palmsThatSound s_sounds s_hall_palms s_hall_rows (p2 + 2) u1).bind fun u6 =>
    some ((u3.1 + (u5 / 2)) + (u6 / 2))
def fX1_init (p1 : Int32) : Option Int32 :=
  some p1
def fX1_next (s_seed : Int32) (p1 : Int32) : Option (Int32 × Int32) :=
  if p1 ≤ 0 then
    some (0, (Int64.toInt32 ((((1103515245 : Int64) * (Int32.toInt64 s_seed)) + (12345 : Int64)) - (((1103515245 : Int64) * (Int32.toInt64 s_seed)) + (12345 : Int64)) / (2147483648 : Int64) * (2147483648 : Int64))))
  else
    (krem ((Int64.toInt32 ((((1103515245 : Int64) * (Int32.toInt64 s_seed)) + (12345 : Int64)) - (((1103515245 : Int64) * (Int32.toInt64 s_seed)) + (12345 : Int64)) / (2147483648 : Int64) * (2147483648 : Int64))) / 65536) p1).bind fun v1 =>
      some (v1, (Int64.toInt32 ((((1103515245 : Int64) * (Int32.toInt64 s_seed)) + (12345 : Int64)) - (((1103515245 : Int64) * (Int32.toInt64 s_seed)) + (12345 : Int64)) / (2147483648 : Int64) * (2147483648 : Int64))))
def fX5_within (p0 : Int32) (p1 : Int32) (p2 : Int32) : Option Int32 :=
  if p0 < p1 then
    some 0
  else
    if p2 < p0 then
      some 0
    else
      some 1
def fX4_codeAt (s_codes : (Nat → Int32)) (p1 : Int32) : Option Int32 :=
  (fX5_within p1 0 (36 - 1)).bind fun u1 =>
    if u1 = (0 : Int32) then
    some 0
  else
    (kld 36 s_codes p1).bind fun v2 =>
      some v2
def fJ0_isLatin1_aae02  : Option Int32 :=
  some 1
def fJ0_coder_7d493  : Option Int32 :=
  some 0
def fJ0_length_8abf5  : Option Int32 :=
  some ((5 : Int32) >>> ((0 : Int32) &&& 31))
def fJ1_canEncode_9a6ad (p0 : Int32) : Option Int32 :=
  if p0 < 0 then
    some 0
  else
    if 255 < p0 then
      some 0
    else
      some 1
def fJ1_indexOfChar_4cfef_L1 (p1 : Int32) (p3 : Int32) (rc1 : (Int32 → Option Int32)) (z1 : Int32) : Option Int32 :=
  if p3 ≤ z1 then
    some (-1)
  else
    (kld 5 kByt z1).bind fun v2 =>
      if v2 = (Int32.toInt8 p1).toInt32 then
      some z1
    else
      rc1 (z1 + 1)
def fJ1_indexOfChar_4cfef (p1 : Int32) (p2 : Int32) (p3 : Int32) : Option Int32 :=
  kIter (fJ1_indexOfChar_4cfef_L1 p1 p3) 300 p2
def fJ1_indexOf_4cfef (p1 : Int32) (p2 : Int32) (p3 : Int32) : Option Int32 :=
  (fJ1_canEncode_9a6ad p1).bind fun u1 =>
    if u1 = (0 : Int32) then
    some (-1)
  else
    if (if p2 < 0 then 0 else p2) < (if 5 < p3 then 5 else p3) then
      (fJ1_indexOfChar_4cfef p1 (if p2 < 0 then 0 else p2) (if 5 < p3 then 5 else p3)).bind fun u2 =>
        some u2
    else
      some (-1)
def fJ0_indexOf_7cf53 (p1 : Int32) (p2 : Int32) : Option Int32 :=
  (fJ1_indexOf_4cfef p1 p2 ((5 : Int32) >>> ((0 : Int32) &&& 31))).bind fun u3 =>
    some u3
def fJ0_indexOf_0f7a4 (p1 : Int32) : Option Int32 :=
  (fJ0_indexOf_7cf53 p1 0).bind fun u1 =>
    some u1
def fX4_kindBy (p0 : Int32) : Option Int32 :=
  (fJ0_indexOf_0f7a4 ((Int32.toUInt32 p0 % 65536).toInt32)).bind fun u1 =>
    some u1
def fX2_read_L1 (s_page_codes : (Nat → Int32)) (s_page_length : Int32) (rc1 : ((Int32 × (Nat → Int32) × (Nat → Int32) × (Nat → Int32)) → Option (Int32 × (Nat → Int32) × (Nat → Int32) × (Nat → Int32)))) (z1 : (Int32 × (Nat → Int32) × (Nat → Int32) × (Nat → Int32))) : Option (Int32 × (Nat → Int32) × (Nat → Int32) × (Nat → Int32)) :=
  if (if 8 < (s_page_length / 4) then 8 else (s_page_length / 4)) ≤ z1.1 then
    some (z1.1, z1.2.1, z1.2.2.1, z1.2.2.2)
  else
    (fX4_codeAt s_page_codes (4 * z1.1)).bind fun u3 =>
      (fX4_kindBy u3).bind fun u4 =>
      (kst 8 z1.2.1 z1.1 u4).bind fun g5 =>
      (fX4_codeAt s_page_codes ((4 * z1.1) + 1)).bind fun u6 =>
      (kst 8 z1.2.2.1 z1.1 (u6 - 48)).bind fun g7 =>
      (fX4_codeAt s_page_codes ((4 * z1.1) + 2)).bind fun u8 =>
      (kst 8 z1.2.2.2 z1.1 (u8 - 48)).bind fun g9 =>
      rc1 ((z1.1 + 1), g5, g7, g9)
def fX2_read (s_kinds : (Nat → Int32)) (s_palms : (Nat → Int32)) (s_strengths : (Nat → Int32)) (s_page_codes : (Nat → Int32)) (s_page_length : Int32) : Option (Int32 × Int32 × (Nat → Int32) × (Nat → Int32) × (Nat → Int32)) :=
  (kIter (fX2_read_L1 s_page_codes s_page_length) 300 (0, s_kinds, s_palms, s_strengths)).bind fun u2 =>
    (fX4_codeAt s_page_codes (4 * (if 8 < (s_page_length / 4) then 8 else (s_page_length / 4)))).bind fun u10 =>
    some ((if 8 < (s_page_length / 4) then 8 else (s_page_length / 4)), (u10 - 48), u2.2.1, u2.2.2.1, u2.2.2.2)
def fX2_isThere (s_rows : Int32) : Option Int32 :=
  if s_rows ≤ 0 then
    some 0
  else
    some 1
def fX2_has (s_rows : Int32) (p1 : Int32) : Option Int32 :=
  if p1 < 0 then
    some 0
  else
    if s_rows ≤ p1 then
      some 0
    else
      some 1
def fX2_lag (s_late : Int32) (p1 : Int32) : Option Int32 :=
  if s_late ≤ 0 then
    some 0
  else
    (kdiv p1 s_late).bind fun v1 =>
      some v1
def fX2_allPalms_L1 (s_palms : (Nat → Int32)) (s_rows : Int32) (rc1 : ((Int32 × Int32) → Option (Int32 × Int32))) (z1 : (Int32 × Int32)) : Option (Int32 × Int32) :=
  if s_rows ≤ z1.2 then
    some (z1.1, z1.2)
  else
    (kld 8 s_palms z1.2).bind fun v3 =>
      rc1 ((z1.1 + v3), (z1.2 + 1))
def fX2_allPalms (s_palms : (Nat → Int32)) (s_rows : Int32) : Option Int32 :=
  (kIter (fX2_allPalms_L1 s_palms s_rows) 300 (0, 0)).bind fun u2 =>
    some u2.1
def fX3_startAnew (s_crowd_sounds : (Nat → Int32)) (s_crowd_clapped : (Nat → Int32)) : Option (Int32 × Int32 × Int32 × Int32 × (Nat → Int32) × (Nat → Int32)) :=
  (fX0_beginWith s_crowd_sounds s_crowd_clapped 0).bind fun u1 =>
    some (0, 0, 0, u1.1, u1.2.1, u1.2.2)
def fX3_takeFrom_L1 (s_other_rightBehindBar : (Nat → Int32)) (rc2 : ((Int32 × (Nat → Int32)) → Option (Int32 × (Nat → Int32)))) (z2 : (Int32 × (Nat → Int32))) : Option (Int32 × (Nat → Int32)) :=
  if 8 ≤ z2.1 then
    some (z2.1, z2.2)
  else
    (kld 8 s_other_rightBehindBar z2.1).bind fun v4 =>
      (kst 8 z2.2 z2.1 v4).bind fun g5 =>
      rc2 ((z2.1 + 1), g5)
def fX3_takeFrom (s_crowd_sounds : (Nat → Int32)) (s_crowd_clapped : (Nat → Int32)) (s_rightBehindBar : (Nat → Int32)) (s_other_crowd_sounds : (Nat → Int32)) (s_other_crowd_clapped : (Nat → Int32)) (s_other_crowd_armRows : Int32) (s_other_rightBehindBar : (Nat → Int32)) (s_other_recorded : Int32) (s_other_barsGone : Int32) (s_other_beatsLeftOut : Int32) : Option (Int32 × Int32 × Int32 × Int32 × (Nat → Int32) × (Nat → Int32) × (Nat → Int32)) :=
  (fX0_takeFrom s_crowd_sounds s_crowd_clapped s_other_crowd_sounds s_other_crowd_clapped s_other_crowd_armRows).bind fun u1 =>
    (kIter (fX3_takeFrom_L1 s_other_rightBehindBar) 300 (0, s_rightBehindBar)).bind fun u3 =>
    some (s_other_recorded, s_other_barsGone, s_other_beatsLeftOut, u1.1, u1.2.1, u1.2.2, u3.2)
def fX3_noteDown (s_rightBehindBar : (Nat → Int32)) (s_recorded : Int32) (p1 : Int32) : Option (Int32 × Int32 × (Nat → Int32)) :=
  (fX5_within s_recorded 0 7).bind fun u1 =>
    if u1 = (0 : Int32) then
    some (0, s_recorded, s_rightBehindBar)
  else
    (kst 8 s_rightBehindBar s_recorded p1).bind fun g2 =>
      some (1, (s_recorded + 1), g2)
def fX3_recordedAt (s_rightBehindBar : (Nat → Int32)) (p1 : Int32) : Option Int32 :=
  (fX5_within p1 0 7).bind fun u1 =>
    if u1 = (0 : Int32) then
    some 0
  else
    (kld 8 s_rightBehindBar p1).bind fun v2 =>
      some v2
def fX4_write (s_codes : (Nat → Int32)) (s_length : Int32) (p1 : Int32) : Option (Int32 × Int32 × (Nat → Int32)) :=
  if s_length < 0 then
    some (0, s_length, s_codes)
  else
    if s_length < 36 then
      (kst 36 s_codes s_length p1).bind fun g1 =>
        some (1, (s_length + 1), g1)
    else
      some (0, s_length, s_codes)
def fX4_wipe  : Option Int32 :=
  some 0
def fX4_followsRow (p0 : Int32) (p1 : Int32) : Option Int32 :=
  if p0 = (44 : Int32) then
    if 8 ≤ p1 then
      some 0
    else
      some 1
  else
    if p0 = (59 : Int32) then
      if p1 < 3 then
        some 0
      else
        some 1
    else
      some 0
def fX4_fits (s_codes : (Nat → Int32)) (p1 : Int32) (p2 : Int32) : Option Int32 :=
  (fX4_codeAt s_codes p1).bind fun u1 =>
    if p2 = ((-1) : Int32) then
    if (p1 - p1 / 4 * 4) = (0 : Int32) then
      (fX4_kindBy u1).bind fun u8 =>
        if u8 = ((-1) : Int32) then
        some 0
      else
        some 1
    else if (p1 - p1 / 4 * 4) = (1 : Int32) then
      (fX5_within u1 49 57).bind fun u6 =>
        (kz u6).bind fun b7 =>
        some b7
    else if (p1 - p1 / 4 * 4) = (2 : Int32) then
      (fX5_within u1 48 57).bind fun u4 =>
        (kz u4).bind fun b5 =>
        some b5
    else (fX4_followsRow u1 ((p1 / 4) + 1)).bind fun u2 =>
      (kz u2).bind fun b3 =>
      some b3
  else
    if p1 = (p2 + 1) then
      (fX5_within u1 48 51).bind fun u9 =>
        if u9 = (0 : Int32) then
        some 0
      else
        some 1
    else
      some 0
def fX4_firstFault_L1 (s_codes : (Nat → Int32)) (s_length : Int32) (rc1 : ((Int32 × Int32) → Option Int32)) (z1 : (Int32 × Int32)) : Option Int32 :=
  if s_length ≤ z1.2 then
    some s_length
  else
    (fX4_fits s_codes z1.2 z1.1).bind fun u2 =>
      if u2 = (0 : Int32) then
      some z1.2
    else
      (fX4_codeAt s_codes z1.2).bind fun u3 =>
        if u3 = (59 : Int32) then
        rc1 (z1.2, (z1.2 + 1))
      else
        rc1 (z1.1, (z1.2 + 1))
def fX4_firstFault (s_codes : (Nat → Int32)) (s_length : Int32) : Option Int32 :=
  kIter (fX4_firstFault_L1 s_codes s_length) 300 ((-1), 0)
def fX4_isWhole (s_codes : (Nat → Int32)) (s_length : Int32) : Option Int32 :=
  if s_length ≤ 1 then
    some 0
  else
    (fX4_firstFault s_codes s_length).bind fun u1 =>
      if u1 = s_length then
      (fX4_codeAt s_codes (s_length - 2)).bind fun u2 =>
        if u2 = (59 : Int32) then
        some 1
      else
        some 0
    else
      some 0
def fX5_letter (s_page_codes : (Nat → Int32)) (s_page_length : Int32) (p1 : Int32) : Option (Int32 × Int32 × (Nat → Int32)) :=
  (fX5_within p1 1 126).bind fun u1 =>
    if u1 = (0 : Int32) then
    some ((-102), s_page_length, s_page_codes)
  else
    (fX4_write s_page_codes s_page_length p1).bind fun u2 =>
      if u2.1 = (0 : Int32) then
      some ((-104), u2.2.1, u2.2.2)
    else
      some (u2.2.1, u2.2.1, u2.2.2)
def fX5_blank (s_page_length : Int32) : Option (Int32 × Int32) :=
  (fX4_wipe).bind fun u1 =>
    some (s_page_length, u1)
def fX5_fault (s_page_codes : (Nat → Int32)) (s_page_length : Int32) : Option Int32 :=
  (fX4_firstFault s_page_codes s_page_length).bind fun u1 =>
    some u1
def fX5_hall (s_page_codes : (Nat → Int32)) (s_page_length : Int32) (s_room_kinds : (Nat → Int32)) (s_room_palms : (Nat → Int32)) (s_room_strengths : (Nat → Int32)) (s_room_rows : Int32) (s_room_late : Int32) (s_night_crowd_sounds : (Nat → Int32)) (s_night_crowd_clapped : (Nat → Int32)) (s_night_crowd_armRows : Int32) (s_night_recorded : Int32) (s_night_barsGone : Int32) (s_night_beatsLeftOut : Int32) (s_isKept : Int32) (s_hallsRead : Int32) : Option (Int32 × Int32 × Int32 × Int32 × Int32 × Int32 × (Nat → Int32) × (Nat → Int32) × (Nat → Int32) × Int32 × Int32 × Int32 × Int32 × (Nat → Int32) × (Nat → Int32)) :=
  (fX4_isWhole s_page_codes s_page_length).bind fun u1 =>
    if u1 = (0 : Int32) then
    some ((-103), s_isKept, s_hallsRead, s_page_length, s_room_rows, s_room_late, s_room_kinds, s_room_palms, s_room_strengths, s_night_recorded, s_night_barsGone, s_night_beatsLeftOut, s_night_crowd_armRows, s_night_crowd_sounds, s_night_crowd_clapped)
  else
    (fX2_read s_room_kinds s_room_palms s_room_strengths s_page_codes s_page_length).bind fun u2 =>
      (fX4_wipe).bind fun u3 =>
      (fX3_startAnew s_night_crowd_sounds s_night_crowd_clapped).bind fun u4 =>
      some (u2.1, 0, (s_hallsRead + 1), u3, u2.1, u2.2.1, u2.2.2.1, u2.2.2.2.1, u2.2.2.2.2, u4.1, u4.2.1, u4.2.2.1, u4.2.2.2.1, u4.2.2.2.2.1, u4.2.2.2.2.2)
def fX5_heard (s_room_late : Int32) (p1 : Int32) (p2 : Int32) : Option Int32 :=
  (fX2_lag s_room_late p1).bind fun u1 =>
    if (u1 - u1 / 2 * 2) = (1 : Int32) then
    (fX5_swapped p2).bind fun u2 =>
      some u2
  else
    some p2
def fX5_aboutRow (s_room_kinds : (Nat → Int32)) (s_room_palms : (Nat → Int32)) (s_room_strengths : (Nat → Int32)) (s_room_rows : Int32) (s_room_late : Int32) (s_night_crowd_sounds : (Nat → Int32)) (s_night_crowd_clapped : (Nat → Int32)) (s_night_crowd_armRows : Int32) (p1 : Int32) (p2 : Int32) : Option Int32 :=
  if p2 = (0 : Int32) then
    (fX2_kindOf s_room_kinds s_room_rows p1).bind fun u12 =>
      some u12
  else if p2 = (1 : Int32) then
    (fX2_palmsOf s_room_palms s_room_rows p1).bind fun u11 =>
      some u11
  else if p2 = (2 : Int32) then
    (fX2_strengthOf s_room_strengths s_room_rows p1).bind fun u10 =>
      some u10
  else if p2 = (3 : Int32) then
    (fX2_lag s_room_late p1).bind fun u9 =>
      some u9
  else if p2 = (4 : Int32) then
    (fX0_soundOf s_night_crowd_sounds p1).bind fun u8 =>
      some u8
  else if p2 = (5 : Int32) then
    (fX0_soundOf s_night_crowd_sounds p1).bind fun u6 =>
      (fX5_heard s_room_late p1 u6).bind fun u7 =>
      some u7
  else if p2 = (6 : Int32) then
    (fX0_clappedOf s_night_crowd_clapped p1).bind fun u5 =>
      some u5
  else if p2 = (7 : Int32) then
    (fX0_isTired s_night_crowd_clapped s_room_strengths s_room_rows p1).bind fun u3 =>
      (fX5_oneIf u3).bind fun u4 =>
      some u4
  else (fX0_seesArm s_night_crowd_armRows p1).bind fun u1 =>
    (fX5_oneIf u1).bind fun u2 =>
    some u2
def fX5_about (s_room_kinds : (Nat → Int32)) (s_room_palms : (Nat → Int32)) (s_room_strengths : (Nat → Int32)) (s_room_rows : Int32) (s_room_late : Int32) (s_night_crowd_sounds : (Nat → Int32)) (s_night_crowd_clapped : (Nat → Int32)) (s_night_crowd_armRows : Int32) (p1 : Int32) (p2 : Int32) : Option Int32 :=
  (fX2_has s_room_rows p1).bind fun u1 =>
    if u1 = (0 : Int32) then
    some (-101)
  else
    (fX5_within p2 0 8).bind fun u2 =>
      if u2 = (0 : Int32) then
      some (-102)
    else
      (fX5_aboutRow s_room_kinds s_room_palms s_room_strengths s_room_rows s_room_late s_night_crowd_sounds s_night_crowd_clapped s_night_crowd_armRows p1 p2).bind fun u3 =>
        some u3
def fX5_as (s_room_kinds : (Nat → Int32)) (s_room_rows : Int32) (p1 : Int32) (p2 : Int32) : Option Int32 :=
  (fX2_has s_room_rows p1).bind fun u1 =>
    if u1 = (0 : Int32) then
    some (-101)
  else
    (fX5_within p2 0 4).bind fun u2 =>
      if u2 = (0 : Int32) then
      some (-102)
    else
      (fX2_isOf s_room_kinds s_room_rows p1 p2).bind fun u3 =>
        if u3 = (0 : Int32) then
        some (-1)
      else
        some p1
def fX5_clap (s_room_rows : Int32) (s_room_late : Int32) (s_night_crowd_sounds : (Nat → Int32)) (s_night_crowd_clapped : (Nat → Int32)) (p1 : Int32) (p2 : Int32) : Option (Int32 × (Nat → Int32) × (Nat → Int32)) :=
  (fX2_has s_room_rows p1).bind fun u1 =>
    if u1 = (0 : Int32) then
    some ((-101), s_night_crowd_sounds, s_night_crowd_clapped)
  else
    (fX5_within p2 0 3).bind fun u2 =>
      if u2 = (0 : Int32) then
      some ((-102), s_night_crowd_sounds, s_night_crowd_clapped)
    else
      (fX0_soundOf s_night_crowd_sounds p1).bind fun u3 =>
        (fX5_heard s_room_late p1 u3).bind fun u4 =>
        (fX5_heard s_room_late p1 p2).bind fun u5 =>
        (fX0_let s_night_crowd_sounds s_night_crowd_clapped p1 u5).bind fun u6 =>
        some (u4, u6.1, u6.2)
def fX5_arm (s_room_rows : Int32) (s_night_crowd_armRows : Int32) (p1 : Int32) : Option (Int32 × Int32) :=
  (fX5_within p1 0 8).bind fun u1 =>
    if u1 = (0 : Int32) then
    some ((-102), s_night_crowd_armRows)
  else
    (fX2_isThere s_room_rows).bind fun u2 =>
      if u2 = (0 : Int32) then
      some ((-103), s_night_crowd_armRows)
    else
      some (s_night_crowd_armRows, p1)
def fX5_bar (s_room_kinds : (Nat → Int32)) (s_room_palms : (Nat → Int32)) (s_room_strengths : (Nat → Int32)) (s_room_rows : Int32) (s_night_crowd_sounds : (Nat → Int32)) (s_night_crowd_clapped : (Nat → Int32)) (s_night_crowd_next : (Nat → Int32)) (s_night_crowd_armRows : Int32) (s_night_barsGone : Int32) : Option (Int32 × Int32 × (Nat → Int32) × (Nat → Int32) × (Nat → Int32)) :=
  (fX2_isThere s_room_rows).bind fun u1 =>
    if u1 = (0 : Int32) then
    some ((-103), s_night_barsGone, s_night_crowd_sounds, s_night_crowd_clapped, s_night_crowd_next)
  else
    (fX0_goOn s_night_crowd_sounds s_night_crowd_clapped s_night_crowd_next s_night_crowd_armRows s_room_kinds s_room_palms s_room_strengths s_room_rows).bind fun u2 =>
      (fX0_palmsRight u2.2.1 s_room_palms s_room_rows).bind fun u3 =>
      some (u3, (s_night_barsGone + 1), u2.2.1, u2.2.2.1, u2.2.2.2)
def fX5_skip (s_room_kinds : (Nat → Int32)) (s_room_palms : (Nat → Int32)) (s_room_rows : Int32) (s_night_crowd_sounds : (Nat → Int32)) (s_night_beatsLeftOut : Int32) : Option (Int32 × Int32 × (Nat → Int32)) :=
  (fX2_isThere s_room_rows).bind fun u1 =>
    if u1 = (0 : Int32) then
    some ((-103), s_night_beatsLeftOut, s_night_crowd_sounds)
  else
    (fX0_leaveBeatOut s_night_crowd_sounds s_room_kinds s_room_rows).bind fun u2 =>
      (fX0_palmsRight u2 s_room_palms s_room_rows).bind fun u3 =>
      some (u3, (s_night_beatsLeftOut + 1), u2)
def fX5_loud (s_room_palms : (Nat → Int32)) (s_room_rows : Int32) (s_night_crowd_sounds : (Nat → Int32)) (p1 : Int32) (p2 : Int32) : Option Int32 :=
  (fX2_has s_room_rows p1).bind fun u1 =>
    if u1 = (0 : Int32) then
    some (-101)
  else
    (fX5_within p2 0 3).bind fun u2 =>
      if u2 = (0 : Int32) then
      some (-102)
    else
      (fX0_loudness s_night_crowd_sounds s_room_palms s_room_rows p1 p2).bind fun u3 =>
        some u3
def fX5_barsToRest_L1 (s_room_kinds : (Nat → Int32)) (s_room_palms : (Nat → Int32)) (s_room_strengths : (Nat → Int32)) (s_room_rows : Int32) (u1 : (Int32 × (Nat → Int32) × (Nat → Int32))) (rc2 : ((Int32 × (Nat → Int32) × (Nat → Int32) × (Nat → Int32)) → Option (Int32 × Int32 × (Nat → Int32) × (Nat → Int32) × (Nat → Int32)))) (z2 : (Int32 × (Nat → Int32) × (Nat → Int32) × (Nat → Int32))) : Option (Int32 × Int32 × (Nat → Int32) × (Nat → Int32) × (Nat → Int32)) :=
  if 30 < z2.1 then
    some ((-1), u1.1, z2.2.1, z2.2.2.1, z2.2.2.2)
  else
    (fX0_goOn z2.2.1 z2.2.2.1 z2.2.2.2 u1.1 s_room_kinds s_room_palms s_room_strengths s_room_rows).bind fun u3 =>
      if u3.1 = (0 : Int32) then
      some (z2.1, u1.1, u3.2.1, u3.2.2.1, u3.2.2.2)
    else
      rc2 ((z2.1 + 1), u3.2.1, u3.2.2.1, u3.2.2.2)
def fX5_barsToRest (s_room_kinds : (Nat → Int32)) (s_room_palms : (Nat → Int32)) (s_room_strengths : (Nat → Int32)) (s_room_rows : Int32) (s_night_crowd_sounds : (Nat → Int32)) (s_night_crowd_clapped : (Nat → Int32)) (s_night_crowd_armRows : Int32) (s_trial_sounds : (Nat → Int32)) (s_trial_clapped : (Nat → Int32)) (s_trial_next : (Nat → Int32)) : Option (Int32 × Int32 × (Nat → Int32) × (Nat → Int32) × (Nat → Int32)) :=
  (fX0_takeFrom s_trial_sounds s_trial_clapped s_night_crowd_sounds s_night_crowd_clapped s_night_crowd_armRows).bind fun u1 =>
    kIter (fX5_barsToRest_L1 s_room_kinds s_room_palms s_room_strengths s_room_rows u1) 300 (0, u1.2.1, u1.2.2, s_trial_next)
def fX5_rest (s_room_kinds : (Nat → Int32)) (s_room_palms : (Nat → Int32)) (s_room_strengths : (Nat → Int32)) (s_room_rows : Int32) (s_night_crowd_sounds : (Nat → Int32)) (s_night_crowd_clapped : (Nat → Int32)) (s_night_crowd_armRows : Int32) (s_trial_sounds : (Nat → Int32)) (s_trial_clapped : (Nat → Int32)) (s_trial_next : (Nat → Int32)) (s_trial_armRows : Int32) : Option (Int32 × Int32 × (Nat → Int32) × (Nat → Int32) × (Nat → Int32)) :=
  (fX2_isThere s_room_rows).bind fun u1 =>
    if u1 = (0 : Int32) then
    some ((-103), s_trial_armRows, s_trial_sounds, s_trial_clapped, s_trial_next)
  else
    (fX5_barsToRest s_room_kinds s_room_palms s_room_strengths s_room_rows s_night_crowd_sounds s_night_crowd_clapped s_night_crowd_armRows s_trial_sounds s_trial_clapped s_trial_next).bind fun u2 =>
      some (u2.1, u2.2.1, u2.2.2.1, u2.2.2.2.1, u2.2.2.2.2)
def fX5_rightBehind_L1 (s_room_kinds : (Nat → Int32)) (s_room_palms : (Nat → Int32)) (s_room_strengths : (Nat → Int32)) (s_room_rows : Int32) (p1 : Int32) (p2 : Int32) (u1 : (Int32 × (Nat → Int32) × (Nat → Int32))) (rc2 : ((Int32 × (Nat → Int32) × (Nat → Int32) × (Nat → Int32)) → Option (Int32 × (Nat → Int32) × (Nat → Int32) × (Nat → Int32)))) (z2 : (Int32 × (Nat → Int32) × (Nat → Int32) × (Nat → Int32))) : Option (Int32 × (Nat → Int32) × (Nat → Int32) × (Nat → Int32)) :=
  if p1 ≤ z2.1 then
    some (z2.1, z2.2.1, z2.2.2.1, z2.2.2.2)
  else
    if z2.1 = p2 then
      (fX0_leaveBeatOut z2.2.1 s_room_kinds s_room_rows).bind fun u5 =>
        (fX0_goOn u5 z2.2.2.1 z2.2.2.2 u1.1 s_room_kinds s_room_palms s_room_strengths s_room_rows).bind fun u6 =>
        rc2 ((z2.1 + 1), u6.2.1, u6.2.2.1, u6.2.2.2)
    else
      (fX0_goOn z2.2.1 z2.2.2.1 z2.2.2.2 u1.1 s_room_kinds s_room_palms s_room_strengths s_room_rows).bind fun u4 =>
        rc2 ((z2.1 + 1), u4.2.1, u4.2.2.1, u4.2.2.2)
def fX5_rightBehind (s_room_kinds : (Nat → Int32)) (s_room_palms : (Nat → Int32)) (s_room_strengths : (Nat → Int32)) (s_room_rows : Int32) (s_night_crowd_sounds : (Nat → Int32)) (s_night_crowd_clapped : (Nat → Int32)) (s_night_crowd_armRows : Int32) (s_trial_sounds : (Nat → Int32)) (s_trial_clapped : (Nat → Int32)) (s_trial_next : (Nat → Int32)) (p1 : Int32) (p2 : Int32) : Option (Int32 × Int32 × (Nat → Int32) × (Nat → Int32) × (Nat → Int32)) :=
  (fX0_takeFrom s_trial_sounds s_trial_clapped s_night_crowd_sounds s_night_crowd_clapped s_night_crowd_armRows).bind fun u1 =>
    (kIter (fX5_rightBehind_L1 s_room_kinds s_room_palms s_room_strengths s_room_rows p1 p2 u1) 300 (0, u1.2.1, u1.2.2, s_trial_next)).bind fun u3 =>
    (fX0_palmsRight u3.2.1 s_room_palms s_room_rows).bind fun u7 =>
    some (u7, u1.1, u3.2.1, u3.2.2.1, u3.2.2.2)
def fX5_outcome (s_room_kinds : (Nat → Int32)) (s_room_palms : (Nat → Int32)) (s_room_strengths : (Nat → Int32)) (s_room_rows : Int32) (s_night_crowd_sounds : (Nat → Int32)) (s_night_crowd_clapped : (Nat → Int32)) (s_night_crowd_armRows : Int32) (s_trial_sounds : (Nat → Int32)) (s_trial_clapped : (Nat → Int32)) (s_trial_next : (Nat → Int32)) (s_trial_armRows : Int32) (p1 : Int32) : Option (Int32 × Int32 × (Nat → Int32) × (Nat → Int32) × (Nat → Int32)) :=
  (fX5_within p1 0 30).bind fun u1 =>
    if u1 = (0 : Int32) then
    some ((-102), s_trial_armRows, s_trial_sounds, s_trial_clapped, s_trial_next)
  else
    (fX2_isThere s_room_rows).bind fun u2 =>
      if u2 = (0 : Int32) then
      some ((-103), s_trial_armRows, s_trial_sounds, s_trial_clapped, s_trial_next)
    else
      (fX5_rightBehind s_room_kinds s_room_palms s_room_strengths s_room_rows s_night_crowd_sounds s_night_crowd_clapped s_night_crowd_armRows s_trial_sounds s_trial_clapped s_trial_next p1 (-1)).bind fun u3 =>
        some (u3.1, u3.2.1, u3.2.2.1, u3.2.2.2.1, u3.2.2.2.2)
def fX5_trickTold_L1 (s_room_kinds : (Nat → Int32)) (s_room_palms : (Nat → Int32)) (s_room_strengths : (Nat → Int32)) (s_room_rows : Int32) (s_night_crowd_sounds : (Nat → Int32)) (s_night_crowd_clapped : (Nat → Int32)) (s_night_crowd_armRows : Int32) (p1 : Int32) (rc2 : ((Int32 × Int32 × Int32 × Int32 × (Nat → Int32) × (Nat → Int32) × (Nat → Int32)) → Option (Int32 × Int32 × Int32 × Int32 × (Nat → Int32) × (Nat → Int32) × (Nat → Int32)))) (z2 : (Int32 × Int32 × Int32 × Int32 × (Nat → Int32) × (Nat → Int32) × (Nat → Int32))) : Option (Int32 × Int32 × Int32 × Int32 × (Nat → Int32) × (Nat → Int32) × (Nat → Int32)) :=
  if p1 ≤ z2.2.2.1 then
    some (z2.1, z2.2.1, z2.2.2.1, z2.2.2.2.1, z2.2.2.2.2.1, z2.2.2.2.2.2.1, z2.2.2.2.2.2.2)
  else
    (fX5_rightBehind s_room_kinds s_room_palms s_room_strengths s_room_rows s_night_crowd_sounds s_night_crowd_clapped s_night_crowd_armRows z2.2.2.2.2.1 z2.2.2.2.2.2.1 z2.2.2.2.2.2.2 p1 z2.2.2.1).bind fun u4 =>
      if u4.1 ≤ z2.2.1 then
      rc2 (z2.1, z2.2.1, (z2.2.2.1 + 1), u4.2.1, u4.2.2.1, u4.2.2.2.1, u4.2.2.2.2)
    else
      rc2 (z2.2.2.1, u4.1, (z2.2.2.1 + 1), u4.2.1, u4.2.2.1, u4.2.2.2.1, u4.2.2.2.2)
def fX5_trickTold (s_room_kinds : (Nat → Int32)) (s_room_palms : (Nat → Int32)) (s_room_strengths : (Nat → Int32)) (s_room_rows : Int32) (s_night_crowd_sounds : (Nat → Int32)) (s_night_crowd_clapped : (Nat → Int32)) (s_night_crowd_armRows : Int32) (s_trial_sounds : (Nat → Int32)) (s_trial_clapped : (Nat → Int32)) (s_trial_next : (Nat → Int32)) (p1 : Int32) (p2 : Int32) : Option (Int32 × Int32 × (Nat → Int32) × (Nat → Int32) × (Nat → Int32)) :=
  (fX5_rightBehind s_room_kinds s_room_palms s_room_strengths s_room_rows s_night_crowd_sounds s_night_crowd_clapped s_night_crowd_armRows s_trial_sounds s_trial_clapped s_trial_next p1 (-1)).bind fun u1 =>
    (kIter (fX5_trickTold_L1 s_room_kinds s_room_palms s_room_strengths s_room_rows s_night_crowd_sounds s_night_crowd_clapped s_night_crowd_armRows p1) 300 ((-1), u1.1, 0, u1.2.1, u1.2.2.1, u1.2.2.2.1, u1.2.2.2.2)).bind fun u3 =>
    if p2 = (0 : Int32) then
    some (u3.1, u3.2.2.2.1, u3.2.2.2.2.1, u3.2.2.2.2.2.1, u3.2.2.2.2.2.2)
  else
    some (u3.2.1, u3.2.2.2.1, u3.2.2.2.2.1, u3.2.2.2.2.2.1, u3.2.2.2.2.2.2)
def fX5_trick (s_room_kinds : (Nat → Int32)) (s_room_palms : (Nat → Int32)) (s_room_strengths : (Nat → Int32)) (s_room_rows : Int32) (s_night_crowd_sounds : (Nat → Int32)) (s_night_crowd_clapped : (Nat → Int32)) (s_night_crowd_armRows : Int32) (s_trial_sounds : (Nat → Int32)) (s_trial_clapped : (Nat → Int32)) (s_trial_next : (Nat → Int32)) (s_trial_armRows : Int32) (p1 : Int32) (p2 : Int32) : Option (Int32 × Int32 × (Nat → Int32) × (Nat → Int32) × (Nat → Int32)) :=
  (fX5_within p1 1 12).bind fun u1 =>
    if u1 = (0 : Int32) then
    some ((-102), s_trial_armRows, s_trial_sounds, s_trial_clapped, s_trial_next)
  else
    (fX5_within p2 0 1).bind fun u2 =>
      if u2 = (0 : Int32) then
      some ((-102), s_trial_armRows, s_trial_sounds, s_trial_clapped, s_trial_next)
    else
      (fX2_isThere s_room_rows).bind fun u3 =>
        if u3 = (0 : Int32) then
        some ((-103), s_trial_armRows, s_trial_sounds, s_trial_clapped, s_trial_next)
      else
        (fX5_trickTold s_room_kinds s_room_palms s_room_strengths s_room_rows s_night_crowd_sounds s_night_crowd_clapped s_night_crowd_armRows s_trial_sounds s_trial_clapped s_trial_next p1 p2).bind fun u4 =>
          some (u4.1, u4.2.1, u4.2.2.1, u4.2.2.2.1, u4.2.2.2.2)
def fJ6_bitCount_0f7a4 (p0 : Int32) : Option Int32 :=
  some ((((((((p0 - ((Int32.toUInt32 p0 >>> (Int32.toUInt32 1 &&& Int32.toUInt32 31)).toInt32 &&& 1431655765)) &&& 858993459) + ((Int32.toUInt32 (p0 - ((Int32.toUInt32 p0 >>> (Int32.toUInt32 1 &&& Int32.toUInt32 31)).toInt32 &&& 1431655765)) >>> (Int32.toUInt32 2 &&& Int32.toUInt32 31)).toInt32 &&& 858993459)) + (Int32.toUInt32 (((p0 - ((Int32.toUInt32 p0 >>> (Int32.toUInt32 1 &&& Int32.toUInt32 31)).toInt32 &&& 1431655765)) &&& 858993459) + ((Int32.toUInt32 (p0 - ((Int32.toUInt32 p0 >>> (Int32.toUInt32 1 &&& Int32.toUInt32 31)).toInt32 &&& 1431655765)) >>> (Int32.toUInt32 2 &&& Int32.toUInt32 31)).toInt32 &&& 858993459)) >>> (Int32.toUInt32 4 &&& Int32.toUInt32 31)).toInt32) &&& 252645135) + (Int32.toUInt32 (((((p0 - ((Int32.toUInt32 p0 >>> (Int32.toUInt32 1 &&& Int32.toUInt32 31)).toInt32 &&& 1431655765)) &&& 858993459) + ((Int32.toUInt32 (p0 - ((Int32.toUInt32 p0 >>> (Int32.toUInt32 1 &&& Int32.toUInt32 31)).toInt32 &&& 1431655765)) >>> (Int32.toUInt32 2 &&& Int32.toUInt32 31)).toInt32 &&& 858993459)) + (Int32.toUInt32 (((p0 - ((Int32.toUInt32 p0 >>> (Int32.toUInt32 1 &&& Int32.toUInt32 31)).toInt32 &&& 1431655765)) &&& 858993459) + ((Int32.toUInt32 (p0 - ((Int32.toUInt32 p0 >>> (Int32.toUInt32 1 &&& Int32.toUInt32 31)).toInt32 &&& 1431655765)) >>> (Int32.toUInt32 2 &&& Int32.toUInt32 31)).toInt32 &&& 858993459)) >>> (Int32.toUInt32 4 &&& Int32.toUInt32 31)).toInt32) &&& 252645135) >>> (Int32.toUInt32 8 &&& Int32.toUInt32 31)).toInt32) + (Int32.toUInt32 ((((((p0 - ((Int32.toUInt32 p0 >>> (Int32.toUInt32 1 &&& Int32.toUInt32 31)).toInt32 &&& 1431655765)) &&& 858993459) + ((Int32.toUInt32 (p0 - ((Int32.toUInt32 p0 >>> (Int32.toUInt32 1 &&& Int32.toUInt32 31)).toInt32 &&& 1431655765)) >>> (Int32.toUInt32 2 &&& Int32.toUInt32 31)).toInt32 &&& 858993459)) + (Int32.toUInt32 (((p0 - ((Int32.toUInt32 p0 >>> (Int32.toUInt32 1 &&& Int32.toUInt32 31)).toInt32 &&& 1431655765)) &&& 858993459) + ((Int32.toUInt32 (p0 - ((Int32.toUInt32 p0 >>> (Int32.toUInt32 1 &&& Int32.toUInt32 31)).toInt32 &&& 1431655765)) >>> (Int32.toUInt32 2 &&& Int32.toUInt32 31)).toInt32 &&& 858993459)) >>> (Int32.toUInt32 4 &&& Int32.toUInt32 31)).toInt32) &&& 252645135) + (Int32.toUInt32 (((((p0 - ((Int32.toUInt32 p0 >>> (Int32.toUInt32 1 &&& Int32.toUInt32 31)).toInt32 &&& 1431655765)) &&& 858993459) + ((Int32.toUInt32 (p0 - ((Int32.toUInt32 p0 >>> (Int32.toUInt32 1 &&& Int32.toUInt32 31)).toInt32 &&& 1431655765)) >>> (Int32.toUInt32 2 &&& Int32.toUInt32 31)).toInt32 &&& 858993459)) + (Int32.toUInt32 (((p0 - ((Int32.toUInt32 p0 >>> (Int32.toUInt32 1 &&& Int32.toUInt32 31)).toInt32 &&& 1431655765)) &&& 858993459) + ((Int32.toUInt32 (p0 - ((Int32.toUInt32 p0 >>> (Int32.toUInt32 1 &&& Int32.toUInt32 31)).toInt32 &&& 1431655765)) >>> (Int32.toUInt32 2 &&& Int32.toUInt32 31)).toInt32 &&& 858993459)) >>> (Int32.toUInt32 4 &&& Int32.toUInt32 31)).toInt32) &&& 252645135) >>> (Int32.toUInt32 8 &&& Int32.toUInt32 31)).toInt32) >>> (Int32.toUInt32 16 &&& Int32.toUInt32 31)).toInt32) &&& 63)
def fX5_winsAll_L1 (s_room_rows : Int32) (p1 : Int32) (rc2 : ((Int32 × (Nat → Int32) × (Nat → Int32)) → Option (Int32 × (Nat → Int32) × (Nat → Int32)))) (z2 : (Int32 × (Nat → Int32) × (Nat → Int32))) : Option (Int32 × (Nat → Int32) × (Nat → Int32)) :=
  if s_room_rows ≤ z2.1 then
    some (z2.1, z2.2.1, z2.2.2)
  else
    if ((p1 >>> (z2.1 &&& 31)) &&& 1) = (1 : Int32) then
      (fX0_let z2.2.1 z2.2.2 z2.1 2).bind fun u4 =>
        rc2 ((z2.1 + 1), u4.1, u4.2)
    else
      rc2 ((z2.1 + 1), z2.2.1, z2.2.2)
def fX5_winsAll_L2 (s_room_kinds : (Nat → Int32)) (s_room_palms : (Nat → Int32)) (s_room_strengths : (Nat → Int32)) (s_room_rows : Int32) (p2 : Int32) (u1 : (Int32 × (Nat → Int32) × (Nat → Int32))) (rc5 : ((Int32 × (Nat → Int32) × (Nat → Int32) × (Nat → Int32)) → Option (Int32 × (Nat → Int32) × (Nat → Int32) × (Nat → Int32)))) (z5 : (Int32 × (Nat → Int32) × (Nat → Int32) × (Nat → Int32))) : Option (Int32 × (Nat → Int32) × (Nat → Int32) × (Nat → Int32)) :=
  if p2 ≤ z5.1 then
    some (z5.1, z5.2.1, z5.2.2.1, z5.2.2.2)
  else
    (fX0_goOn z5.2.1 z5.2.2.1 z5.2.2.2 u1.1 s_room_kinds s_room_palms s_room_strengths s_room_rows).bind fun u7 =>
      rc5 ((z5.1 + 1), u7.2.1, u7.2.2.1, u7.2.2.2)
def fX5_winsAll (s_room_kinds : (Nat → Int32)) (s_room_palms : (Nat → Int32)) (s_room_strengths : (Nat → Int32)) (s_room_rows : Int32) (s_night_crowd_sounds : (Nat → Int32)) (s_night_crowd_clapped : (Nat → Int32)) (s_night_crowd_armRows : Int32) (s_trial_sounds : (Nat → Int32)) (s_trial_clapped : (Nat → Int32)) (s_trial_next : (Nat → Int32)) (p1 : Int32) (p2 : Int32) : Option (Int32 × Int32 × (Nat → Int32) × (Nat → Int32) × (Nat → Int32)) :=
  (fX0_takeFrom s_trial_sounds s_trial_clapped s_night_crowd_sounds s_night_crowd_clapped s_night_crowd_armRows).bind fun u1 =>
    (kIter (fX5_winsAll_L1 s_room_rows p1) 300 (0, u1.2.1, u1.2.2)).bind fun u3 =>
    (kIter (fX5_winsAll_L2 s_room_kinds s_room_palms s_room_strengths s_room_rows p2 u1) 300 (0, u3.2.1, u3.2.2, s_trial_next)).bind fun u6 =>
    (fX0_areWillingRight u6.2.1 s_room_kinds s_room_rows).bind fun u8 =>
    (kz u8).bind fun b9 =>
    some (b9, u1.1, u6.2.1, u6.2.2.1, u6.2.2.2)
def fX5_fewestTurned_L1 (s_room_kinds : (Nat → Int32)) (s_room_palms : (Nat → Int32)) (s_room_strengths : (Nat → Int32)) (s_room_rows : Int32) (s_night_crowd_sounds : (Nat → Int32)) (s_night_crowd_clapped : (Nat → Int32)) (s_night_crowd_armRows : Int32) (p1 : Int32) (rc1 : ((Int32 × Int32 × Int32 × Int32 × (Nat → Int32) × (Nat → Int32) × (Nat → Int32)) → Option (Int32 × Int32 × Int32 × Int32 × (Nat → Int32) × (Nat → Int32) × (Nat → Int32)))) (z1 : (Int32 × Int32 × Int32 × Int32 × (Nat → Int32) × (Nat → Int32) × (Nat → Int32))) : Option (Int32 × Int32 × Int32 × Int32 × (Nat → Int32) × (Nat → Int32) × (Nat → Int32)) :=
  if ((1 : Int32) <<< (s_room_rows &&& 31)) ≤ z1.2.2.1 then
    some (z1.1, z1.2.1, z1.2.2.1, z1.2.2.2.1, z1.2.2.2.2.1, z1.2.2.2.2.2.1, z1.2.2.2.2.2.2)
  else
    (fJ6_bitCount_0f7a4 z1.2.2.1).bind fun u3 =>
      if z1.2.1 ≤ u3 then
      rc1 (z1.1, z1.2.1, (z1.2.2.1 + 1), z1.2.2.2.1, z1.2.2.2.2.1, z1.2.2.2.2.2.1, z1.2.2.2.2.2.2)
    else
      (fX5_winsAll s_room_kinds s_room_palms s_room_strengths s_room_rows s_night_crowd_sounds s_night_crowd_clapped s_night_crowd_armRows z1.2.2.2.2.1 z1.2.2.2.2.2.1 z1.2.2.2.2.2.2 z1.2.2.1 p1).bind fun u4 =>
        if u4.1 = (0 : Int32) then
        rc1 (z1.1, z1.2.1, (z1.2.2.1 + 1), u4.2.1, u4.2.2.1, u4.2.2.2.1, u4.2.2.2.2)
      else
        rc1 (z1.2.2.1, u3, (z1.2.2.1 + 1), u4.2.1, u4.2.2.1, u4.2.2.2.1, u4.2.2.2.2)
def fX5_fewestTurned (s_room_kinds : (Nat → Int32)) (s_room_palms : (Nat → Int32)) (s_room_strengths : (Nat → Int32)) (s_room_rows : Int32) (s_night_crowd_sounds : (Nat → Int32)) (s_night_crowd_clapped : (Nat → Int32)) (s_night_crowd_armRows : Int32) (s_trial_sounds : (Nat → Int32)) (s_trial_clapped : (Nat → Int32)) (s_trial_next : (Nat → Int32)) (s_trial_armRows : Int32) (p1 : Int32) : Option (Int32 × Int32 × (Nat → Int32) × (Nat → Int32) × (Nat → Int32)) :=
  (kIter (fX5_fewestTurned_L1 s_room_kinds s_room_palms s_room_strengths s_room_rows s_night_crowd_sounds s_night_crowd_clapped s_night_crowd_armRows p1) 300 ((-1), (s_room_rows + 1), 0, s_trial_armRows, s_trial_sounds, s_trial_clapped, s_trial_next)).bind fun u2 =>
    some (u2.1, u2.2.2.2.1, u2.2.2.2.2.1, u2.2.2.2.2.2.1, u2.2.2.2.2.2.2)
def fX5_turned (s_room_kinds : (Nat → Int32)) (s_room_palms : (Nat → Int32)) (s_room_strengths : (Nat → Int32)) (s_room_rows : Int32) (s_night_crowd_sounds : (Nat → Int32)) (s_night_crowd_clapped : (Nat → Int32)) (s_night_crowd_armRows : Int32) (s_trial_sounds : (Nat → Int32)) (s_trial_clapped : (Nat → Int32)) (s_trial_next : (Nat → Int32)) (s_trial_armRows : Int32) (s_turnedDone : Int32) (p1 : Int32) (p2 : Int32) : Option (Int32 × Int32 × Int32 × (Nat → Int32) × (Nat → Int32) × (Nat → Int32)) :=
  (fX5_within p1 0 12).bind fun u1 =>
    if u1 = (0 : Int32) then
    some ((-102), s_turnedDone, s_trial_armRows, s_trial_sounds, s_trial_clapped, s_trial_next)
  else
    (fX5_within p2 0 1).bind fun u2 =>
      if u2 = (0 : Int32) then
      some ((-102), s_turnedDone, s_trial_armRows, s_trial_sounds, s_trial_clapped, s_trial_next)
    else
      (fX2_isThere s_room_rows).bind fun u3 =>
        if u3 = (0 : Int32) then
        some ((-103), s_turnedDone, s_trial_armRows, s_trial_sounds, s_trial_clapped, s_trial_next)
      else
        if s_turnedDone < 30 then
          (fX5_fewestTurned s_room_kinds s_room_palms s_room_strengths s_room_rows s_night_crowd_sounds s_night_crowd_clapped s_night_crowd_armRows s_trial_sounds s_trial_clapped s_trial_next s_trial_armRows p1).bind fun u4 =>
            if u4.1 = ((-1) : Int32) then
            some ((-1), (s_turnedDone + 1), u4.2.1, u4.2.2.1, u4.2.2.2.1, u4.2.2.2.2)
          else
            if p2 = (0 : Int32) then
              (fJ6_bitCount_0f7a4 u4.1).bind fun u5 =>
                some (u5, (s_turnedDone + 1), u4.2.1, u4.2.2.1, u4.2.2.2.1, u4.2.2.2.2)
            else
              some (u4.1, (s_turnedDone + 1), u4.2.1, u4.2.2.1, u4.2.2.2.1, u4.2.2.2.2)
        else
          some ((-103), s_turnedDone, s_trial_armRows, s_trial_sounds, s_trial_clapped, s_trial_next)
def fX5_record (s_night_rightBehindBar : (Nat → Int32)) (s_night_recorded : Int32) (p1 : Int32) : Option (Int32 × Int32 × (Nat → Int32)) :=
  (fX5_within p1 0 72).bind fun u1 =>
    if u1 = (0 : Int32) then
    some ((-102), s_night_recorded, s_night_rightBehindBar)
  else
    (fX3_noteDown s_night_rightBehindBar s_night_recorded p1).bind fun u2 =>
      if u2.1 = (0 : Int32) then
      some ((-104), u2.2.1, u2.2.2)
    else
      some (u2.2.1, u2.2.1, u2.2.2)
def fX5_forget (s_night_recorded : Int32) : Option (Int32 × Int32) :=
  some (s_night_recorded, 0)
def fX5_beganSo_L1 (s_room_kinds : (Nat → Int32)) (s_room_palms : (Nat → Int32)) (s_room_strengths : (Nat → Int32)) (s_room_rows : Int32) (s_night_rightBehindBar : (Nat → Int32)) (s_night_recorded : Int32) (u2 : (Int32 × (Nat → Int32) × (Nat → Int32))) (rc7 : ((Int32 × (Nat → Int32) × (Nat → Int32) × (Nat → Int32)) → Option (Int32 × Int32 × (Nat → Int32) × (Nat → Int32) × (Nat → Int32)))) (z7 : (Int32 × (Nat → Int32) × (Nat → Int32) × (Nat → Int32))) : Option (Int32 × Int32 × (Nat → Int32) × (Nat → Int32) × (Nat → Int32)) :=
  if s_night_recorded ≤ z7.1 then
    some (1, u2.1, z7.2.1, z7.2.2.1, z7.2.2.2)
  else
    (fX0_goOn z7.2.1 z7.2.2.1 z7.2.2.2 u2.1 s_room_kinds s_room_palms s_room_strengths s_room_rows).bind fun u8 =>
      (fX0_palmsRight u8.2.1 s_room_palms s_room_rows).bind fun u9 =>
      (fX3_recordedAt s_night_rightBehindBar z7.1).bind fun u10 =>
      if u9 = u10 then
      rc7 ((z7.1 + 1), u8.2.1, u8.2.2.1, u8.2.2.2)
    else
      some (0, u2.1, u8.2.1, u8.2.2.1, u8.2.2.2)
def fX5_beganSo (s_room_kinds : (Nat → Int32)) (s_room_palms : (Nat → Int32)) (s_room_strengths : (Nat → Int32)) (s_room_rows : Int32) (s_night_crowd_armRows : Int32) (s_night_rightBehindBar : (Nat → Int32)) (s_night_recorded : Int32) (s_trial_sounds : (Nat → Int32)) (s_trial_clapped : (Nat → Int32)) (s_trial_next : (Nat → Int32)) (s_trial_armRows : Int32) (p1 : Int32) : Option (Int32 × Int32 × (Nat → Int32) × (Nat → Int32) × (Nat → Int32)) :=
  if ((p1 / 4) - (p1 / 4) / 8 * 8) ≤ (p1 / 32) then
    some (0, s_trial_armRows, s_trial_sounds, s_trial_clapped, s_trial_next)
  else
    (fX2_has s_room_rows ((p1 / 4) - (p1 / 4) / 8 * 8)).bind fun u1 =>
      if u1 = (0 : Int32) then
      some (0, s_trial_armRows, s_trial_sounds, s_trial_clapped, s_trial_next)
    else
      (fX0_beginWith s_trial_sounds s_trial_clapped s_night_crowd_armRows).bind fun u2 =>
        (if ((p1 / 2) - (p1 / 2) / 2 * 2) = (1 : Int32) then
        some 2
      else
        some 1).bind fun u3 =>
        (fX0_let u2.2.1 u2.2.2 (p1 / 32) u3).bind fun u4 =>
        (if (p1 - p1 / 2 * 2) = (1 : Int32) then
        some 2
      else
        some 1).bind fun u5 =>
        (fX0_let u4.1 u4.2 ((p1 / 4) - (p1 / 4) / 8 * 8) u5).bind fun u6 =>
        kIter (fX5_beganSo_L1 s_room_kinds s_room_palms s_room_strengths s_room_rows s_night_rightBehindBar s_night_recorded u2) 300 (0, u6.1, u6.2, s_trial_next)
def fX5_leastBegun_L1 (s_room_kinds : (Nat → Int32)) (s_room_palms : (Nat → Int32)) (s_room_strengths : (Nat → Int32)) (s_room_rows : Int32) (s_night_crowd_armRows : Int32) (s_night_rightBehindBar : (Nat → Int32)) (s_night_recorded : Int32) (rc1 : ((Int32 × Int32 × (Nat → Int32) × (Nat → Int32) × (Nat → Int32)) → Option (Int32 × Int32 × (Nat → Int32) × (Nat → Int32) × (Nat → Int32)))) (z1 : (Int32 × Int32 × (Nat → Int32) × (Nat → Int32) × (Nat → Int32))) : Option (Int32 × Int32 × (Nat → Int32) × (Nat → Int32) × (Nat → Int32)) :=
  if 256 ≤ z1.1 then
    some ((-1), z1.2.1, z1.2.2.1, z1.2.2.2.1, z1.2.2.2.2)
  else
    (fX5_beganSo s_room_kinds s_room_palms s_room_strengths s_room_rows s_night_crowd_armRows s_night_rightBehindBar s_night_recorded z1.2.2.1 z1.2.2.2.1 z1.2.2.2.2 z1.2.1 z1.1).bind fun u2 =>
      if u2.1 = (0 : Int32) then
      rc1 ((z1.1 + 1), u2.2.1, u2.2.2.1, u2.2.2.2.1, u2.2.2.2.2)
    else
      some (z1.1, u2.2.1, u2.2.2.1, u2.2.2.2.1, u2.2.2.2.2)
def fX5_leastBegun (s_room_kinds : (Nat → Int32)) (s_room_palms : (Nat → Int32)) (s_room_strengths : (Nat → Int32)) (s_room_rows : Int32) (s_night_crowd_armRows : Int32) (s_night_rightBehindBar : (Nat → Int32)) (s_night_recorded : Int32) (s_trial_sounds : (Nat → Int32)) (s_trial_clapped : (Nat → Int32)) (s_trial_next : (Nat → Int32)) (s_trial_armRows : Int32) : Option (Int32 × Int32 × (Nat → Int32) × (Nat → Int32) × (Nat → Int32)) :=
  kIter (fX5_leastBegun_L1 s_room_kinds s_room_palms s_room_strengths s_room_rows s_night_crowd_armRows s_night_rightBehindBar s_night_recorded) 300 (0, s_trial_armRows, s_trial_sounds, s_trial_clapped, s_trial_next)
def fX5_waysBegun_L1 (s_room_kinds : (Nat → Int32)) (s_room_palms : (Nat → Int32)) (s_room_strengths : (Nat → Int32)) (s_room_rows : Int32) (s_night_crowd_armRows : Int32) (s_night_rightBehindBar : (Nat → Int32)) (s_night_recorded : Int32) (rc1 : ((Int32 × Int32 × Int32 × (Nat → Int32) × (Nat → Int32) × (Nat → Int32)) → Option (Int32 × Int32 × Int32 × (Nat → Int32) × (Nat → Int32) × (Nat → Int32)))) (z1 : (Int32 × Int32 × Int32 × (Nat → Int32) × (Nat → Int32) × (Nat → Int32))) : Option (Int32 × Int32 × Int32 × (Nat → Int32) × (Nat → Int32) × (Nat → Int32)) :=
  if 256 ≤ z1.2.1 then
    some (z1.1, z1.2.1, z1.2.2.1, z1.2.2.2.1, z1.2.2.2.2.1, z1.2.2.2.2.2)
  else
    (fX5_beganSo s_room_kinds s_room_palms s_room_strengths s_room_rows s_night_crowd_armRows s_night_rightBehindBar s_night_recorded z1.2.2.2.1 z1.2.2.2.2.1 z1.2.2.2.2.2 z1.2.2.1 z1.2.1).bind fun u3 =>
      (fX5_oneIf u3.1).bind fun u4 =>
      rc1 ((z1.1 + u4), (z1.2.1 + 1), u3.2.1, u3.2.2.1, u3.2.2.2.1, u3.2.2.2.2)
def fX5_waysBegun (s_room_kinds : (Nat → Int32)) (s_room_palms : (Nat → Int32)) (s_room_strengths : (Nat → Int32)) (s_room_rows : Int32) (s_night_crowd_armRows : Int32) (s_night_rightBehindBar : (Nat → Int32)) (s_night_recorded : Int32) (s_trial_sounds : (Nat → Int32)) (s_trial_clapped : (Nat → Int32)) (s_trial_next : (Nat → Int32)) (s_trial_armRows : Int32) : Option (Int32 × Int32 × (Nat → Int32) × (Nat → Int32) × (Nat → Int32)) :=
  (kIter (fX5_waysBegun_L1 s_room_kinds s_room_palms s_room_strengths s_room_rows s_night_crowd_armRows s_night_rightBehindBar s_night_recorded) 300 (0, 0, s_trial_armRows, s_trial_sounds, s_trial_clapped, s_trial_next)).bind fun u2 =>
    some (u2.1, u2.2.2.1, u2.2.2.2.1, u2.2.2.2.2.1, u2.2.2.2.2.2)
def fX5_began (s_room_kinds : (Nat → Int32)) (s_room_palms : (Nat → Int32)) (s_room_strengths : (Nat → Int32)) (s_room_rows : Int32) (s_night_crowd_armRows : Int32) (s_night_rightBehindBar : (Nat → Int32)) (s_night_recorded : Int32) (s_trial_sounds : (Nat → Int32)) (s_trial_clapped : (Nat → Int32)) (s_trial_next : (Nat → Int32)) (s_trial_armRows : Int32) (s_beganDone : Int32) (p1 : Int32) : Option (Int32 × Int32 × Int32 × (Nat → Int32) × (Nat → Int32) × (Nat → Int32)) :=
  (fX5_within p1 0 1).bind fun u1 =>
    if u1 = (0 : Int32) then
    some ((-102), s_beganDone, s_trial_armRows, s_trial_sounds, s_trial_clapped, s_trial_next)
  else
    (fX2_isThere s_room_rows).bind fun u2 =>
      if u2 = (0 : Int32) then
      some ((-103), s_beganDone, s_trial_armRows, s_trial_sounds, s_trial_clapped, s_trial_next)
    else
      if s_beganDone < 30 then
        if p1 = (0 : Int32) then
          (fX5_waysBegun s_room_kinds s_room_palms s_room_strengths s_room_rows s_night_crowd_armRows s_night_rightBehindBar s_night_recorded s_trial_sounds s_trial_clapped s_trial_next s_trial_armRows).bind fun u4 =>
            some (u4.1, (s_beganDone + 1), u4.2.1, u4.2.2.1, u4.2.2.2.1, u4.2.2.2.2)
        else
          (fX5_leastBegun s_room_kinds s_room_palms s_room_strengths s_room_rows s_night_crowd_armRows s_night_rightBehindBar s_night_recorded s_trial_sounds s_trial_clapped s_trial_next s_trial_armRows).bind fun u3 =>
            some (u3.1, (s_beganDone + 1), u3.2.1, u3.2.2.1, u3.2.2.2.1, u3.2.2.2.2)
      else
        some ((-103), s_beganDone, s_trial_armRows, s_trial_sounds, s_trial_clapped, s_trial_next)
def fX5_happen (s_room_kinds : (Nat → Int32)) (s_room_rows : Int32) (s_trial_sounds : (Nat → Int32)) (s_trial_clapped : (Nat → Int32)) (s_trial_armRows : Int32) (s_draws_seed : Int32) : Option (Int32 × (Nat → Int32) × (Nat → Int32) × Int32) :=
  (fX1_next s_draws_seed 6).bind fun u1 =>
    if u1.1 = (0 : Int32) then
    (fX0_leaveBeatOut s_trial_sounds s_room_kinds s_room_rows).bind fun u5 =>
      some (s_trial_armRows, u5, s_trial_clapped, u1.2)
  else if u1.1 = (1 : Int32) then
    (fX1_next u1.2 s_room_rows).bind fun u3 =>
      (fX0_let s_trial_sounds s_trial_clapped u3.1 2).bind fun u4 =>
      some (s_trial_armRows, u4.1, u4.2, u3.2)
  else if u1.1 = (2 : Int32) then
    (fX1_next u1.2 9).bind fun u2 =>
      some (u2.1, s_trial_sounds, s_trial_clapped, u2.2)
  else some (s_trial_armRows, s_trial_sounds, s_trial_clapped, u1.2)
def fX5_nightsTold_L1 (s_room_kinds : (Nat → Int32)) (s_room_palms : (Nat → Int32)) (s_room_strengths : (Nat → Int32)) (s_room_rows : Int32) (p1 : Int32) (rc3 : ((Int32 × Int32 × Int32 × (Nat → Int32) × (Nat → Int32) × (Nat → Int32) × Int32) → Option (Int32 × Int32 × Int32 × (Nat → Int32) × (Nat → Int32) × (Nat → Int32) × Int32))) (z3 : (Int32 × Int32 × Int32 × (Nat → Int32) × (Nat → Int32) × (Nat → Int32) × Int32)) : Option (Int32 × Int32 × Int32 × (Nat → Int32) × (Nat → Int32) × (Nat → Int32) × Int32) :=
  if p1 ≤ z3.2.1 then
    some (z3.1, z3.2.1, z3.2.2.1, z3.2.2.2.1, z3.2.2.2.2.1, z3.2.2.2.2.2.1, z3.2.2.2.2.2.2)
  else
    (fX5_happen s_room_kinds s_room_rows z3.2.2.2.1 z3.2.2.2.2.1 z3.2.2.1 z3.2.2.2.2.2.2).bind fun u5 =>
      (fX0_goOn u5.2.1 u5.2.2.1 z3.2.2.2.2.2.1 u5.1 s_room_kinds s_room_palms s_room_strengths s_room_rows).bind fun u6 =>
      (fX0_palmsRight u6.2.1 s_room_palms s_room_rows).bind fun u7 =>
      (fX2_allPalms s_room_palms s_room_rows).bind fun u8 =>
      if (2 * u7) ≤ u8 then
      (fX5_oneIf 0).bind fun u9 =>
        rc3 ((z3.1 + u9), (z3.2.1 + 1), u5.1, u6.2.1, u6.2.2.1, u6.2.2.2, u5.2.2.2)
    else
      (fX5_oneIf 1).bind fun u10 =>
        rc3 ((z3.1 + u10), (z3.2.1 + 1), u5.1, u6.2.1, u6.2.2.1, u6.2.2.2, u5.2.2.2)
def fX5_nightsTold (s_room_kinds : (Nat → Int32)) (s_room_palms : (Nat → Int32)) (s_room_strengths : (Nat → Int32)) (s_room_rows : Int32) (s_night_crowd_sounds : (Nat → Int32)) (s_night_crowd_clapped : (Nat → Int32)) (s_night_crowd_armRows : Int32) (s_trial_sounds : (Nat → Int32)) (s_trial_clapped : (Nat → Int32)) (s_trial_next : (Nat → Int32)) (p1 : Int32) (p2 : Int32) (p3 : Int32) : Option (Int32 × Int32 × (Nat → Int32) × (Nat → Int32) × (Nat → Int32)) :=
  (fX1_init p2).bind fun u1 =>
    (fX0_takeFrom s_trial_sounds s_trial_clapped s_night_crowd_sounds s_night_crowd_clapped s_night_crowd_armRows).bind fun u2 =>
    (kIter (fX5_nightsTold_L1 s_room_kinds s_room_palms s_room_strengths s_room_rows p1) 300 (0, 0, u2.1, u2.2.1, u2.2.2, s_trial_next, u1)).bind fun u4 =>
    if p3 = (0 : Int32) then
    (fX0_palmsRight u4.2.2.2.1 s_room_palms s_room_rows).bind fun u11 =>
      some (u11, u4.2.2.1, u4.2.2.2.1, u4.2.2.2.2.1, u4.2.2.2.2.2.1)
  else
    if p3 = (1 : Int32) then
      some (u4.1, u4.2.2.1, u4.2.2.2.1, u4.2.2.2.2.1, u4.2.2.2.2.2.1)
    else
      some (u4.2.2.2.2.2.2, u4.2.2.1, u4.2.2.2.1, u4.2.2.2.2.1, u4.2.2.2.2.2.1)
def fX5_nights (s_room_kinds : (Nat → Int32)) (s_room_palms : (Nat → Int32)) (s_room_strengths : (Nat → Int32)) (s_room_rows : Int32) (s_night_crowd_sounds : (Nat → Int32)) (s_night_crowd_clapped : (Nat → Int32)) (s_night_crowd_armRows : Int32) (s_trial_sounds : (Nat → Int32)) (s_trial_clapped : (Nat → Int32)) (s_trial_next : (Nat → Int32)) (s_trial_armRows : Int32) (p1 : Int32) (p2 : Int32) (p3 : Int32) : Option (Int32 × Int32 × (Nat → Int32) × (Nat → Int32) × (Nat → Int32)) :=
  (fX5_within p1 1 60).bind fun u1 =>
    if u1 = (0 : Int32) then
    some ((-102), s_trial_armRows, s_trial_sounds, s_trial_clapped, s_trial_next)
  else
    if p2 < 0 then
      some ((-102), s_trial_armRows, s_trial_sounds, s_trial_clapped, s_trial_next)
    else
      (fX5_within p3 0 2).bind fun u2 =>
        if u2 = (0 : Int32) then
        some ((-102), s_trial_armRows, s_trial_sounds, s_trial_clapped, s_trial_next)
      else
        (fX2_isThere s_room_rows).bind fun u3 =>
          if u3 = (0 : Int32) then
          some ((-103), s_trial_armRows, s_trial_sounds, s_trial_clapped, s_trial_next)
        else
          (fX5_nightsTold s_room_kinds s_room_palms s_room_strengths s_room_rows s_night_crowd_sounds s_night_crowd_clapped s_night_crowd_armRows s_trial_sounds s_trial_clapped s_trial_next p1 p2 p3).bind fun u4 =>
            some (u4.1, u4.2.1, u4.2.2.1, u4.2.2.2.1, u4.2.2.2.2)
def fX5_image (s_room_rows : Int32) (s_night_crowd_sounds : (Nat → Int32)) (s_night_crowd_clapped : (Nat → Int32)) (s_night_crowd_armRows : Int32) (s_night_rightBehindBar : (Nat → Int32)) (s_night_recorded : Int32) (s_night_barsGone : Int32) (s_night_beatsLeftOut : Int32) (s_kept_crowd_sounds : (Nat → Int32)) (s_kept_crowd_clapped : (Nat → Int32)) (s_kept_crowd_armRows : Int32) (s_kept_rightBehindBar : (Nat → Int32)) (s_kept_recorded : Int32) (s_kept_barsGone : Int32) (s_kept_beatsLeftOut : Int32) (s_isKept : Int32) : Option (Int32 × Int32 × Int32 × Int32 × Int32 × Int32 × (Nat → Int32) × (Nat → Int32) × (Nat → Int32)) :=
  (fX2_isThere s_room_rows).bind fun u1 =>
    if u1 = (0 : Int32) then
    some ((-103), s_isKept, s_kept_recorded, s_kept_barsGone, s_kept_beatsLeftOut, s_kept_crowd_armRows, s_kept_crowd_sounds, s_kept_crowd_clapped, s_kept_rightBehindBar)
  else
    (fX3_takeFrom s_kept_crowd_sounds s_kept_crowd_clapped s_kept_rightBehindBar s_night_crowd_sounds s_night_crowd_clapped s_night_crowd_armRows s_night_rightBehindBar s_night_recorded s_night_barsGone s_night_beatsLeftOut).bind fun u2 =>
      some (u2.2.1, 1, u2.1, u2.2.1, u2.2.2.1, u2.2.2.2.1, u2.2.2.2.2.1, u2.2.2.2.2.2.1, u2.2.2.2.2.2.2)
def fX5_restore (s_night_crowd_sounds : (Nat → Int32)) (s_night_crowd_clapped : (Nat → Int32)) (s_night_crowd_armRows : Int32) (s_night_rightBehindBar : (Nat → Int32)) (s_night_recorded : Int32) (s_night_barsGone : Int32) (s_night_beatsLeftOut : Int32) (s_kept_crowd_sounds : (Nat → Int32)) (s_kept_crowd_clapped : (Nat → Int32)) (s_kept_crowd_armRows : Int32) (s_kept_rightBehindBar : (Nat → Int32)) (s_kept_recorded : Int32) (s_kept_barsGone : Int32) (s_kept_beatsLeftOut : Int32) (s_isKept : Int32) : Option (Int32 × Int32 × Int32 × Int32 × Int32 × (Nat → Int32) × (Nat → Int32) × (Nat → Int32)) :=
  if s_isKept = (0 : Int32) then
    some ((-103), s_night_recorded, s_night_barsGone, s_night_beatsLeftOut, s_night_crowd_armRows, s_night_crowd_sounds, s_night_crowd_clapped, s_night_rightBehindBar)
  else
    (fX3_takeFrom s_night_crowd_sounds s_night_crowd_clapped s_night_rightBehindBar s_kept_crowd_sounds s_kept_crowd_clapped s_kept_crowd_armRows s_kept_rightBehindBar s_kept_recorded s_kept_barsGone s_kept_beatsLeftOut).bind fun u1 =>
      some (u1.2.1, u1.1, u1.2.1, u1.2.2.1, u1.2.2.2.1, u1.2.2.2.2.1, u1.2.2.2.2.2.1, u1.2.2.2.2.2.2)
def fX5_count (s_page_length : Int32) (s_room_palms : (Nat → Int32)) (s_room_rows : Int32) (s_room_late : Int32) (s_night_crowd_sounds : (Nat → Int32)) (s_night_crowd_armRows : Int32) (s_night_recorded : Int32) (s_night_barsGone : Int32) (s_night_beatsLeftOut : Int32) (s_hallsRead : Int32) (s_turnedDone : Int32) (s_beganDone : Int32) (p1 : Int32) : Option Int32 :=
  if p1 = (0 : Int32) then
    some s_room_rows
  else if p1 = (1 : Int32) then
    some s_room_late
  else if p1 = (2 : Int32) then
    (fX2_allPalms s_room_palms s_room_rows).bind fun u2 =>
      some u2
  else if p1 = (3 : Int32) then
    (fX0_palmsRight s_night_crowd_sounds s_room_palms s_room_rows).bind fun u1 =>
      some u1
  else if p1 = (4 : Int32) then
    some s_night_crowd_armRows
  else if p1 = (5 : Int32) then
    some s_night_barsGone
  else if p1 = (6 : Int32) then
    some s_night_beatsLeftOut
  else if p1 = (7 : Int32) then
    some s_night_recorded
  else if p1 = (8 : Int32) then
    some s_page_length
  else if p1 = (9 : Int32) then
    some s_hallsRead
  else if p1 = (10 : Int32) then
    some s_turnedDone
  else if p1 = (11 : Int32) then
    some s_beganDone
  else some (-102)
def fX5_mixed (p0 : Int64) (p2 : Int32) : Option Int64 :=
  some (((31 : Int64) * p0) + (Int32.toInt64 p2))
def fX5_digest_L2 (s_room_kinds : (Nat → Int32)) (s_room_palms : (Nat → Int32)) (s_room_strengths : (Nat → Int32)) (s_room_rows : Int32) (s_room_late : Int32) (s_night_crowd_sounds : (Nat → Int32)) (s_night_crowd_clapped : (Nat → Int32)) (s_night_crowd_armRows : Int32) (z1 : (Int64 × Int32)) (rc3 : ((Int64 × Int32) → Option (Int64 × Int32))) (z3 : (Int64 × Int32)) : Option (Int64 × Int32) :=
  if 8 < z3.2 then
    some (z3.1, z3.2)
  else
    (fX5_aboutRow s_room_kinds s_room_palms s_room_strengths s_room_rows s_room_late s_night_crowd_sounds s_night_crowd_clapped s_night_crowd_armRows z1.2 z3.2).bind fun u5 =>
      (fX5_mixed z3.1 u5).bind fun u6 =>
      rc3 (u6, (z3.2 + 1))
def fX5_digest_L3 (s_room_palms : (Nat → Int32)) (s_room_rows : Int32) (s_night_crowd_sounds : (Nat → Int32)) (z1 : (Int64 × Int32)) (rc7 : ((Int64 × Int32) → Option (Int64 × Int32))) (z7 : (Int64 × Int32)) : Option (Int64 × Int32) :=
  if 3 < z7.2 then
    some (z7.1, z7.2)
  else
    (fX0_loudness s_night_crowd_sounds s_room_palms s_room_rows z1.2 z7.2).bind fun u9 =>
      (fX5_mixed z7.1 u9).bind fun u10 =>
      rc7 (u10, (z7.2 + 1))
def fX5_digest_L1 (s_room_kinds : (Nat → Int32)) (s_room_palms : (Nat → Int32)) (s_room_strengths : (Nat → Int32)) (s_room_rows : Int32) (s_room_late : Int32) (s_night_crowd_sounds : (Nat → Int32)) (s_night_crowd_clapped : (Nat → Int32)) (s_night_crowd_armRows : Int32) (rc1 : ((Int64 × Int32) → Option (Int64 × Int32))) (z1 : (Int64 × Int32)) : Option (Int64 × Int32) :=
  if s_room_rows ≤ z1.2 then
    some (z1.1, z1.2)
  else
    (kIter (fX5_digest_L2 s_room_kinds s_room_palms s_room_strengths s_room_rows s_room_late s_night_crowd_sounds s_night_crowd_clapped s_night_crowd_armRows z1) 300 (z1.1, 0)).bind fun u4 =>
      (kIter (fX5_digest_L3 s_room_palms s_room_rows s_night_crowd_sounds z1) 300 (u4.1, 0)).bind fun u8 =>
      rc1 (u8.1, (z1.2 + 1))
def fX5_digest_L4 (s_page_codes : (Nat → Int32)) (s_page_length : Int32) (rc21 : ((Int64 × Int32) → Option (Int64 × Int32))) (z21 : (Int64 × Int32)) : Option (Int64 × Int32) :=
  if s_page_length ≤ z21.2 then
    some (z21.1, z21.2)
  else
    (fX4_codeAt s_page_codes z21.2).bind fun u23 =>
      (fX5_mixed z21.1 u23).bind fun u24 =>
      rc21 (u24, (z21.2 + 1))
def fX5_digest_L5 (s_page_length : Int32) (s_room_palms : (Nat → Int32)) (s_room_rows : Int32) (s_room_late : Int32) (s_night_crowd_sounds : (Nat → Int32)) (s_night_crowd_armRows : Int32) (s_night_recorded : Int32) (s_night_barsGone : Int32) (s_night_beatsLeftOut : Int32) (s_hallsRead : Int32) (s_turnedDone : Int32) (s_beganDone : Int32) (rc25 : ((Int64 × Int32) → Option (Int64 × Int32))) (z25 : (Int64 × Int32)) : Option (Int64 × Int32) :=
  if 11 < z25.2 then
    some (z25.1, z25.2)
  else
    (fX5_count s_page_length s_room_palms s_room_rows s_room_late s_night_crowd_sounds s_night_crowd_armRows s_night_recorded s_night_barsGone s_night_beatsLeftOut s_hallsRead s_turnedDone s_beganDone z25.2).bind fun u27 =>
      (fX5_mixed z25.1 u27).bind fun u28 =>
      rc25 (u28, (z25.2 + 1))
def fX5_digest (s_page_codes : (Nat → Int32)) (s_page_length : Int32) (s_room_kinds : (Nat → Int32)) (s_room_palms : (Nat → Int32)) (s_room_strengths : (Nat → Int32)) (s_room_rows : Int32) (s_room_late : Int32) (s_night_crowd_sounds : (Nat → Int32)) (s_night_crowd_clapped : (Nat → Int32)) (s_night_crowd_armRows : Int32) (s_night_recorded : Int32) (s_night_barsGone : Int32) (s_night_beatsLeftOut : Int32) (s_trial_sounds : (Nat → Int32)) (s_trial_clapped : (Nat → Int32)) (s_trial_next : (Nat → Int32)) (s_trial_armRows : Int32) (s_hallsRead : Int32) (s_turnedDone : Int32) (s_beganDone : Int32) : Option (Int64 × Int32 × (Nat → Int32) × (Nat → Int32) × (Nat → Int32)) :=
  (kIter (fX5_digest_L1 s_room_kinds s_room_palms s_room_strengths s_room_rows s_room_late s_night_crowd_sounds s_night_crowd_clapped s_night_crowd_armRows) 300 ((773 : Int64), 0)).bind fun u2 =>
    (fX2_isThere s_room_rows).bind fun u11 =>
    (if u11 = (0 : Int32) then
    some (u2.1, s_trial_armRows, s_trial_sounds, s_trial_clapped, s_trial_next)
  else
    (fX5_barsToRest s_room_kinds s_room_palms s_room_strengths s_room_rows s_night_crowd_sounds s_night_crowd_clapped s_night_crowd_armRows s_trial_sounds s_trial_clapped s_trial_next).bind fun u13 =>
      (fX5_mixed u2.1 u13.1).bind fun u14 =>
      (fX5_rightBehind s_room_kinds s_room_palms s_room_strengths s_room_rows s_night_crowd_sounds s_night_crowd_clapped s_night_crowd_armRows u13.2.2.1 u13.2.2.2.1 u13.2.2.2.2 4 (-1)).bind fun u15 =>
      (fX5_mixed u14 u15.1).bind fun u16 =>
      (fX5_trickTold s_room_kinds s_room_palms s_room_strengths s_room_rows s_night_crowd_sounds s_night_crowd_clapped s_night_crowd_armRows u15.2.2.1 u15.2.2.2.1 u15.2.2.2.2 4 0).bind fun u17 =>
      (fX5_mixed u16 u17.1).bind fun u18 =>
      (fX5_trickTold s_room_kinds s_room_palms s_room_strengths s_room_rows s_night_crowd_sounds s_night_crowd_clapped s_night_crowd_armRows u17.2.2.1 u17.2.2.2.1 u17.2.2.2.2 4 1).bind fun u19 =>
      (fX5_mixed u18 u19.1).bind fun u20 =>
      some (u20, u19.2.1, u19.2.2.1, u19.2.2.2.1, u19.2.2.2.2)).bind fun u12 =>
    (kIter (fX5_digest_L4 s_page_codes s_page_length) 300 (u12.1, 0)).bind fun u22 =>
    (kIter (fX5_digest_L5 s_page_length s_room_palms s_room_rows s_room_late s_night_crowd_sounds s_night_crowd_armRows s_night_recorded s_night_barsGone s_night_beatsLeftOut s_hallsRead s_turnedDone s_beganDone) 300 (u22.1, 0)).bind fun u26 =>
    some (u26.1, u12.2.1, u12.2.2.1, u12.2.2.2.1, u12.2.2.2.2)
def fX6_in (p0 : Int64) (p2 : Int64) (p4 : Int64) : Option Int32 :=
  if (lg_cmp p0 p2) < 0 then
    some 0
  else
    if 0 < (lg_cmp p0 p4) then
      some 0
    else
      some 1
def fX6_letter (s_page : (Nat → Int32)) (s_pageMany : Int32) (p1 : Int32) : Option (Int32 × Int32 × (Nat → Int32)) :=
  (fX6_in (Int32.toInt64 p1) (1 : Int64) (126 : Int64)).bind fun u1 =>
    if u1 = (0 : Int32) then
    some ((-102), s_pageMany, s_page)
  else
    if s_pageMany = (36 : Int32) then
      some ((-104), s_pageMany, s_page)
    else
      (kst 36 s_page s_pageMany p1).bind fun g2 =>
        some ((s_pageMany + 1), (s_pageMany + 1), g2)
def fX6_blank (s_pageMany : Int32) : Option (Int32 × Int32) :=
  some (s_pageMany, 0)
def fX6_kindBy (p0 : Int32) : Option Int32 :=
  if p0 = (99 : Int32) then
    some 0
  else
    if p0 = (115 : Int32) then
      some 1
    else
      if p0 = (102 : Int32) then
        some 2
      else
        if p0 = (101 : Int32) then
          some 3
        else
          if p0 = (100 : Int32) then
            some 4
          else
            some (-1)
def fX6_go (s_read : (Nat → Int32)) (s_readMany : Int32) (s_readLate : Int32) (s_state : Int32) (p1 : Int32) : Option (Int32 × Int32 × Int32 × Int32 × (Nat → Int32)) :=
  if s_state = (0 : Int32) then
    (fX6_kindBy p1).bind fun u9 =>
      (kst 24 s_read (3 * s_readMany) u9).bind fun g10 =>
      (fX6_kindBy p1).bind fun u11 =>
      if u11 = ((-1) : Int32) then
      some (0, s_readMany, s_readLate, (s_state + 1), g10)
    else
      some (1, s_readMany, s_readLate, (s_state + 1), g10)
  else
    if s_state = (1 : Int32) then
      (kst 24 s_read ((3 * s_readMany) + 1) (p1 - 48)).bind fun g6 =>
        (fX6_in (Int32.toInt64 (p1 - 48)) (1 : Int64) (9 : Int64)).bind fun u7 =>
        (kz u7).bind fun b8 =>
        some (b8, s_readMany, s_readLate, (s_state + 1), g6)
    else
      if s_state = (2 : Int32) then
        (kst 24 s_read ((3 * s_readMany) + 2) (p1 - 48)).bind fun g3 =>
          (fX6_in (Int32.toInt64 (p1 - 48)) (0 : Int64) (9 : Int64)).bind fun u4 =>
          (kz u4).bind fun b5 =>
          some (b5, (s_readMany + 1), s_readLate, (s_state + 1), g3)
      else
        if s_state = (3 : Int32) then
          (if p1 = (44 : Int32) then
            some 0
          else
            some 4).bind fun u2 =>
            if p1 = (44 : Int32) then
            if 8 ≤ s_readMany then
              some (0, s_readMany, s_readLate, u2, s_read)
            else
              some (1, s_readMany, s_readLate, u2, s_read)
          else
            if p1 = (59 : Int32) then
              if s_readMany ≤ 2 then
                some (0, s_readMany, s_readLate, u2, s_read)
              else
                some (1, s_readMany, s_readLate, u2, s_read)
            else
              some (0, s_readMany, s_readLate, u2, s_read)
        else
          if s_state = (4 : Int32) then
            (fX6_in (Int32.toInt64 (p1 - 48)) (0 : Int64) (3 : Int64)).bind fun u1 =>
              if u1 = (0 : Int32) then
              some (0, s_readMany, (p1 - 48), (s_state + 1), s_read)
            else
              some (1, s_readMany, (p1 - 48), (s_state + 1), s_read)
          else
            some (0, s_readMany, (p1 - 48), (s_state + 1), s_read)
def fX6_faultOf_L1 (s_page : (Nat → Int32)) (s_pageMany : Int32) (rc1 : ((Int32 × Int32 × Int32 × Int32 × (Nat → Int32)) → Option (Int32 × Int32 × Int32 × Int32 × (Nat → Int32)))) (z1 : (Int32 × Int32 × Int32 × Int32 × (Nat → Int32))) : Option (Int32 × Int32 × Int32 × Int32 × (Nat → Int32)) :=
  if s_pageMany ≤ z1.1 then
    some (z1.1, z1.2.1, z1.2.2.1, z1.2.2.2.1, z1.2.2.2.2)
  else
    (kld 36 s_page z1.1).bind fun v3 =>
      (fX6_go z1.2.2.2.2 z1.2.1 z1.2.2.1 z1.2.2.2.1 v3).bind fun u4 =>
      if u4.1 = (0 : Int32) then
      some (z1.1, u4.2.1, u4.2.2.1, u4.2.2.2.1, u4.2.2.2.2)
    else
      rc1 ((z1.1 + 1), u4.2.1, u4.2.2.1, u4.2.2.2.1, u4.2.2.2.2)
def fX6_faultOf (s_page : (Nat → Int32)) (s_pageMany : Int32) (s_read : (Nat → Int32)) (s_readLate : Int32) : Option (Int32 × Int32 × Int32 × Int32 × (Nat → Int32)) :=
  (kIter (fX6_faultOf_L1 s_page s_pageMany) 300 (0, 0, s_readLate, 0, s_read)).bind fun u2 =>
    some (u2.1, u2.2.1, u2.2.2.1, u2.2.2.2.1, u2.2.2.2.2)
def fX6_fault (s_page : (Nat → Int32)) (s_pageMany : Int32) (s_read : (Nat → Int32)) (s_readLate : Int32) : Option (Int32 × Int32 × Int32 × Int32 × (Nat → Int32)) :=
  (fX6_faultOf s_page s_pageMany s_read s_readLate).bind fun u1 =>
    some (u1.1, u1.2.1, u1.2.2.1, u1.2.2.2.1, u1.2.2.2.2)
def fX6_hall_L1 (u1 : (Int32 × Int32 × Int32 × Int32 × (Nat → Int32))) (rc2 : ((Int32 × (Nat → Int32)) → Option (Int32 × (Nat → Int32)))) (z2 : (Int32 × (Nat → Int32))) : Option (Int32 × (Nat → Int32)) :=
  if 24 ≤ z2.1 then
    some (z2.1, z2.2)
  else
    (kld 24 u1.2.2.2.2 z2.1).bind fun v4 =>
      (kst 24 z2.2 z2.1 v4).bind fun g5 =>
      rc2 ((z2.1 + 1), g5)
def fX6_hall_L2  (rc6 : ((Int32 × (Nat → Int32) × (Nat → Int32)) → Option (Int32 × (Nat → Int32) × (Nat → Int32)))) (z6 : (Int32 × (Nat → Int32) × (Nat → Int32))) : Option (Int32 × (Nat → Int32) × (Nat → Int32)) :=
  if 8 ≤ z6.1 then
    some (z6.1, z6.2.1, z6.2.2)
  else
    (kst 8 z6.2.1 z6.1 3).bind fun g8 =>
      (kst 8 z6.2.2 z6.1 0).bind fun g9 =>
      rc6 ((z6.1 + 1), g8, g9)
def fX6_hall (s_page : (Nat → Int32)) (s_pageMany : Int32) (s_read : (Nat → Int32)) (s_readLate : Int32) (s_many : Int32) (s_late : Int32) (s_armNow : Int32) (s_barNow : Int32) (s_skips : Int32) (s_hallsRead : Int32) (s_rows : (Nat → Int32)) (s_sounds : (Nat → Int32)) (s_clapped : (Nat → Int32)) (s_recordMany : Int32) : Option (Int32 × Int32 × Int32 × Int32 × Int32 × Int32 × Int32 × Int32 × Int32 × Int32 × Int32 × Int32 × (Nat → Int32) × (Nat → Int32) × (Nat → Int32) × (Nat → Int32)) :=
  (fX6_faultOf s_page s_pageMany s_read s_readLate).bind fun u1 =>
    if u1.1 < s_pageMany then
    some ((-103), s_pageMany, u1.2.1, u1.2.2.1, u1.2.2.2.1, s_many, s_late, s_armNow, s_barNow, s_skips, s_hallsRead, s_recordMany, u1.2.2.2.2, s_rows, s_sounds, s_clapped)
  else
    if u1.2.2.2.1 = (5 : Int32) then
      (kIter (fX6_hall_L1 u1) 300 (0, s_rows)).bind fun u3 =>
        (kIter fX6_hall_L2 300 (0, s_sounds, s_clapped)).bind fun u7 =>
        some (u1.2.1, 0, u1.2.1, u1.2.2.1, u1.2.2.2.1, u1.2.1, u1.2.2.1, 0, 0, 0, (s_hallsRead + 1), 0, u1.2.2.2.2, u3.2, u7.2.1, u7.2.2)
    else
      some ((-103), s_pageMany, u1.2.1, u1.2.2.1, u1.2.2.2.1, s_many, s_late, s_armNow, s_barNow, s_skips, s_hallsRead, s_recordMany, u1.2.2.2.2, s_rows, s_sounds, s_clapped)
def fX6_lacks (s_many : Int32) : Option Int32 :=
  if s_many = (0 : Int32) then
    some 1
  else
    some 0
def fX6_isRow (s_many : Int32) (p1 : Int32) : Option Int32 :=
  (fX6_in (Int32.toInt64 p1) (0 : Int64) (Int32.toInt64 (s_many - 1))).bind fun u1 =>
    (kz u1).bind fun b2 =>
    some b2
def fX6_lagOf (s_late : Int32) (p1 : Int32) : Option Int32 :=
  if s_late = (0 : Int32) then
    some 0
  else
    (kdiv p1 s_late).bind fun v1 =>
      some v1
def fX6_byLag (s_late : Int32) (p1 : Int32) (p2 : Int32) : Option Int32 :=
  (fX6_lagOf s_late p1).bind fun u1 =>
    (if (u1 - u1 / 2 * 2) = (1 : Int32) then
    some 1
  else
    some 0).bind fun u2 =>
    if u2 = (0 : Int32) then
    if u2 = (0 : Int32) then
      some p2
    else
      if p2 = (2 : Int32) then
        some 1
      else
        some p2
  else
    if p2 = (1 : Int32) then
      some 2
    else
      if u2 = (0 : Int32) then
        some p2
      else
        if p2 = (2 : Int32) then
          some 1
        else
          some p2
def fX6_isTired_clapped (s_rows : (Nat → Int32)) (s_clapped : (Nat → Int32)) (p2 : Int32) : Option Int32 :=
  (kld 24 s_rows ((3 * p2) + 2)).bind fun v1 =>
    if v1 ≤ 0 then
    some 0
  else
    (kld 8 s_clapped p2).bind fun v2 =>
      (kld 24 s_rows ((3 * p2) + 2)).bind fun v3 =>
      if v2 < v3 then
      some 0
    else
      some 1
def fX6_isTired_nowLong (s_rows : (Nat → Int32)) (s_nowLong : (Nat → Int32)) (p2 : Int32) : Option Int32 :=
  (kld 24 s_rows ((3 * p2) + 2)).bind fun v1 =>
    if v1 ≤ 0 then
    some 0
  else
    (kld 8 s_nowLong p2).bind fun v2 =>
      (kld 24 s_rows ((3 * p2) + 2)).bind fun v3 =>
      if v2 < v3 then
      some 0
    else
      some 1
def fX6_tell (s_late : Int32) (s_armNow : Int32) (s_rows : (Nat → Int32)) (s_sounds : (Nat → Int32)) (s_clapped : (Nat → Int32)) (p1 : Int32) (p2 : Int32) : Option Int32 :=
  if p2 = (0 : Int32) then
    (kld 24 s_rows ((3 * p1) + p2)).bind fun v9 =>
      some v9
  else if p2 = (1 : Int32) then
    (kld 24 s_rows ((3 * p1) + p2)).bind fun v8 =>
      some v8
  else if p2 = (2 : Int32) then
    (kld 24 s_rows ((3 * p1) + p2)).bind fun v7 =>
      some v7
  else if p2 = (3 : Int32) then
    (fX6_lagOf s_late p1).bind fun u6 =>
      some u6
  else if p2 = (4 : Int32) then
    (kld 8 s_sounds p1).bind fun v5 =>
      some v5
  else if p2 = (5 : Int32) then
    (kld 8 s_sounds p1).bind fun v3 =>
      (fX6_byLag s_late p1 v3).bind fun u4 =>
      some u4
  else if p2 = (6 : Int32) then
    (kld 8 s_clapped p1).bind fun v2 =>
      some v2
  else if p2 = (7 : Int32) then
    (fX6_isTired_clapped s_rows s_clapped p1).bind fun u1 =>
      if u1 = (0 : Int32) then
      some 0
    else
      some 1
  else if p2 = (8 : Int32) then
    if s_armNow ≤ p1 then
      some 0
    else
      some 1
  else some (-102)
def fX6_about (s_many : Int32) (s_late : Int32) (s_armNow : Int32) (s_rows : (Nat → Int32)) (s_sounds : (Nat → Int32)) (s_clapped : (Nat → Int32)) (p1 : Int32) (p2 : Int32) : Option Int32 :=
  (fX6_isRow s_many p1).bind fun u1 =>
    if u1 = (0 : Int32) then
    some (-101)
  else
    (fX6_tell s_late s_armNow s_rows s_sounds s_clapped p1 p2).bind fun u2 =>
      some u2
def fX6_as (s_many : Int32) (s_rows : (Nat → Int32)) (p1 : Int32) (p2 : Int32) : Option Int32 :=
  (fX6_isRow s_many p1).bind fun u1 =>
    if u1 = (0 : Int32) then
    some (-101)
  else
    (fX6_in (Int32.toInt64 p2) (0 : Int64) (4 : Int64)).bind fun u2 =>
      if u2 = (0 : Int32) then
      some (-102)
    else
      (kld 24 s_rows (3 * p1)).bind fun v3 =>
        if p2 = (0 : Int32) then
        some p1
      else
        if p2 = v3 then
          some p1
        else
          if p2 = (1 : Int32) then
            if v3 = (4 : Int32) then
              some p1
            else
              some (-1)
          else
            some (-1)
def fX6_asItIs_L1 (s_sounds : (Nat → Int32)) (s_clapped : (Nat → Int32)) (rc1 : ((Int32 × (Nat → Int32) × (Nat → Int32)) → Option (Int32 × (Nat → Int32) × (Nat → Int32)))) (z1 : (Int32 × (Nat → Int32) × (Nat → Int32))) : Option (Int32 × (Nat → Int32) × (Nat → Int32)) :=
  if 8 ≤ z1.1 then
    some (z1.1, z1.2.1, z1.2.2)
  else
    (kld 8 s_sounds z1.1).bind fun v3 =>
      (kst 8 z1.2.1 z1.1 v3).bind fun g4 =>
      (kld 8 s_clapped z1.1).bind fun v5 =>
      (kst 8 z1.2.2 z1.1 v5).bind fun g6 =>
      rc1 ((z1.1 + 1), g4, g6)
def fX6_asItIs (s_armNow : Int32) (s_sounds : (Nat → Int32)) (s_clapped : (Nat → Int32)) (s_now : (Nat → Int32)) (s_nowLong : (Nat → Int32)) : Option (Int32 × (Nat → Int32) × (Nat → Int32)) :=
  (kIter (fX6_asItIs_L1 s_sounds s_clapped) 300 (0, s_now, s_nowLong)).bind fun u2 =>
    some (s_armNow, u2.2.1, u2.2.2)
def fX6_isStubborn (s_rows : (Nat → Int32)) (p1 : Int32) : Option Int32 :=
  (kld 24 s_rows (3 * p1)).bind fun v1 =>
    if v1 = (1 : Int32) then
    some 1
  else
    (kld 24 s_rows (3 * p1)).bind fun v2 =>
      if v2 = (4 : Int32) then
      some 1
    else
      some 0
def fX6_palmsBy_L1 (s_many : Int32) (s_rows : (Nat → Int32)) (s_ahead : (Nat → Int32)) (p1 : Int32) (p2 : Int32) (rc1 : ((Int32 × Int32) → Option (Int32 × Int32))) (z1 : (Int32 × Int32)) : Option (Int32 × Int32) :=
  if (p1 + 1) < z1.2 then
    some (z1.1, z1.2)
  else
    (fX6_isRow s_many z1.2).bind fun u3 =>
      if u3 = (0 : Int32) then
      rc1 ((z1.1 + 0), (z1.2 + 1))
    else
      (kld 8 s_ahead z1.2).bind fun v4 =>
        if ((v4 >>> (p2 &&& 31)) &&& 1) = (1 : Int32) then
        (kld 24 s_rows ((3 * z1.2) + 1)).bind fun v5 =>
          rc1 ((z1.1 + v5), (z1.2 + 1))
      else
        rc1 ((z1.1 + 0), (z1.2 + 1))
def fX6_palmsBy (s_many : Int32) (s_rows : (Nat → Int32)) (s_ahead : (Nat → Int32)) (p1 : Int32) (p2 : Int32) : Option Int32 :=
  (kIter (fX6_palmsBy_L1 s_many s_rows s_ahead p1 p2) 300 (0, (p1 - 1))).bind fun u2 =>
    some u2.1
def fX6_nextOf (s_many : Int32) (s_rows : (Nat → Int32)) (s_nowLong : (Nat → Int32)) (s_ahead : (Nat → Int32)) (s_nowArm : Int32) (p1 : Int32) : Option Int32 :=
  (fX6_isTired_nowLong s_rows s_nowLong p1).bind fun u1 =>
    if u1 = (0 : Int32) then
    (kld 8 s_ahead p1).bind fun v2 =>
      if v2 = (0 : Int32) then
      some 3
    else
      (fX6_isStubborn s_rows p1).bind fun u3 =>
        if u3 = (0 : Int32) then
        (kld 24 s_rows (3 * p1)).bind fun v4 =>
          if v4 = (2 : Int32) then
          if s_nowArm ≤ p1 then
            (fX6_palmsBy s_many s_rows s_ahead p1 0).bind fun u9 =>
              (fX6_palmsBy s_many s_rows s_ahead p1 1).bind fun u10 =>
              if u9 ≤ u10 then
              if u10 ≤ u9 then
                (kld 24 s_rows (3 * p1)).bind fun v11 =>
                  if v11 = (3 : Int32) then
                  some 3
                else
                  (kld 8 s_ahead p1).bind fun v12 =>
                    some v12
              else
                some 2
            else
              some 1
          else
            some 2
        else
          (fX6_palmsBy s_many s_rows s_ahead p1 0).bind fun u5 =>
            (fX6_palmsBy s_many s_rows s_ahead p1 1).bind fun u6 =>
            if u5 ≤ u6 then
            if u6 ≤ u5 then
              (kld 24 s_rows (3 * p1)).bind fun v7 =>
                if v7 = (3 : Int32) then
                some 3
              else
                (kld 8 s_ahead p1).bind fun v8 =>
                  some v8
            else
              some 2
          else
            some 1
      else
        (kld 8 s_ahead p1).bind fun v13 =>
          some v13
  else
    some 0
def fX6_pass_L1 (s_now : (Nat → Int32)) (rc1 : ((Int32 × (Nat → Int32)) → Option (Int32 × (Nat → Int32)))) (z1 : (Int32 × (Nat → Int32))) : Option (Int32 × (Nat → Int32)) :=
  if 8 ≤ z1.1 then
    some (z1.1, z1.2)
  else
    (kld 8 s_now z1.1).bind fun v3 =>
      (kst 8 z1.2 z1.1 v3).bind fun g4 =>
      rc1 ((z1.1 + 1), g4)
def fX6_pass_L2 (s_many : Int32) (s_rows : (Nat → Int32)) (s_nowLong : (Nat → Int32)) (s_nowArm : Int32) (u2 : (Int32 × (Nat → Int32))) (rc5 : ((Int32 × (Nat → Int32)) → Option (Int32 × (Nat → Int32)))) (z5 : (Int32 × (Nat → Int32))) : Option (Int32 × (Nat → Int32)) :=
  if s_many ≤ z5.1 then
    some (z5.1, z5.2)
  else
    (fX6_nextOf s_many s_rows s_nowLong u2.2 s_nowArm z5.1).bind fun u7 =>
      (kst 8 z5.2 z5.1 u7).bind fun g8 =>
      rc5 ((z5.1 + 1), g8)
def fX6_pass_L3 (s_many : Int32) (u6 : (Int32 × (Nat → Int32))) (rc9 : ((Int32 × (Nat → Int32)) → Option (Int32 × (Nat → Int32)))) (z9 : (Int32 × (Nat → Int32))) : Option (Int32 × (Nat → Int32)) :=
  if s_many ≤ z9.1 then
    some (z9.1, z9.2)
  else
    (kld 8 u6.2 z9.1).bind fun v11 =>
      if v11 = (0 : Int32) then
      (kst 8 z9.2 z9.1 0).bind fun g14 =>
        rc9 ((z9.1 + 1), g14)
    else
      (kld 8 z9.2 z9.1).bind fun v12 =>
        (kst 8 z9.2 z9.1 (v12 + 1)).bind fun g13 =>
        rc9 ((z9.1 + 1), g13)
def fX6_pass (s_many : Int32) (s_rows : (Nat → Int32)) (s_now : (Nat → Int32)) (s_nowLong : (Nat → Int32)) (s_ahead : (Nat → Int32)) (s_nowArm : Int32) : Option ((Nat → Int32) × (Nat → Int32) × (Nat → Int32)) :=
  (kIter (fX6_pass_L1 s_now) 300 (0, s_ahead)).bind fun u2 =>
    (kIter (fX6_pass_L2 s_many s_rows s_nowLong s_nowArm u2) 300 (0, s_now)).bind fun u6 =>
    (kIter (fX6_pass_L3 s_many u6) 300 (0, s_nowLong)).bind fun u10 =>
    some (u6.2, u10.2, u2.2)
def fX6_passAll_L1 (s_many : Int32) (s_rows : (Nat → Int32)) (s_nowArm : Int32) (p1 : Int32) (rc1 : ((Int32 × (Nat → Int32) × (Nat → Int32) × (Nat → Int32)) → Option (Int32 × (Nat → Int32) × (Nat → Int32) × (Nat → Int32)))) (z1 : (Int32 × (Nat → Int32) × (Nat → Int32) × (Nat → Int32))) : Option (Int32 × (Nat → Int32) × (Nat → Int32) × (Nat → Int32)) :=
  if p1 ≤ z1.1 then
    some (z1.1, z1.2.1, z1.2.2.1, z1.2.2.2)
  else
    (fX6_pass s_many s_rows z1.2.1 z1.2.2.1 z1.2.2.2 s_nowArm).bind fun u3 =>
      rc1 ((z1.1 + 1), u3.1, u3.2.1, u3.2.2)
def fX6_passAll (s_many : Int32) (s_rows : (Nat → Int32)) (s_now : (Nat → Int32)) (s_nowLong : (Nat → Int32)) (s_ahead : (Nat → Int32)) (s_nowArm : Int32) (p1 : Int32) : Option ((Nat → Int32) × (Nat → Int32) × (Nat → Int32)) :=
  (kIter (fX6_passAll_L1 s_many s_rows s_nowArm p1) 300 (0, s_now, s_nowLong, s_ahead)).bind fun u2 =>
    some (u2.2.1, u2.2.2.1, u2.2.2.2)
def fX6_leaveOut_L1 (s_many : Int32) (s_rows : (Nat → Int32)) (rc1 : ((Int32 × (Nat → Int32)) → Option (Int32 × (Nat → Int32)))) (z1 : (Int32 × (Nat → Int32))) : Option (Int32 × (Nat → Int32)) :=
  if s_many ≤ z1.1 then
    some (z1.1, z1.2)
  else
    (kld 24 s_rows (3 * z1.1)).bind fun v3 =>
      if v3 = (1 : Int32) then
      rc1 ((z1.1 + 1), z1.2)
    else
      (kld 8 z1.2 z1.1).bind fun v4 =>
        if v4 = (1 : Int32) then
        (kst 8 z1.2 z1.1 2).bind fun g9 =>
          rc1 ((z1.1 + 1), g9)
      else
        (kld 8 z1.2 z1.1).bind fun v5 =>
          if v5 = (2 : Int32) then
          (kst 8 z1.2 z1.1 1).bind fun g8 =>
            rc1 ((z1.1 + 1), g8)
        else
          (kld 8 z1.2 z1.1).bind fun v6 =>
            (kst 8 z1.2 z1.1 v6).bind fun g7 =>
            rc1 ((z1.1 + 1), g7)
def fX6_leaveOut (s_many : Int32) (s_rows : (Nat → Int32)) (s_now : (Nat → Int32)) : Option (Nat → Int32) :=
  (kIter (fX6_leaveOut_L1 s_many s_rows) 300 (0, s_now)).bind fun u2 =>
    some u2.2
def fX6_makes (s_now : (Nat → Int32)) (s_nowLong : (Nat → Int32)) (p1 : Int32) (p2 : Int32) : Option ((Nat → Int32) × (Nat → Int32)) :=
  (kst 8 s_now p1 p2).bind fun g1 =>
    if p2 = (0 : Int32) then
    (kst 8 s_nowLong p1 0).bind fun g4 =>
      some (g1, g4)
  else
    (kld 8 s_nowLong p1).bind fun v2 =>
      (kst 8 s_nowLong p1 v2).bind fun g3 =>
      some (g1, g3)
def fX6_rightNow_L1 (s_many : Int32) (s_rows : (Nat → Int32)) (s_now : (Nat → Int32)) (rc1 : ((Int32 × Int32) → Option (Int32 × Int32))) (z1 : (Int32 × Int32)) : Option (Int32 × Int32) :=
  if s_many ≤ z1.2 then
    some (z1.1, z1.2)
  else
    (kld 8 s_now z1.2).bind fun v3 =>
      if v3 = (2 : Int32) then
      (kld 24 s_rows ((3 * z1.2) + 1)).bind fun v4 =>
        rc1 ((z1.1 + v4), (z1.2 + 1))
    else
      rc1 ((z1.1 + 0), (z1.2 + 1))
def fX6_rightNow (s_many : Int32) (s_rows : (Nat → Int32)) (s_now : (Nat → Int32)) : Option Int32 :=
  (kIter (fX6_rightNow_L1 s_many s_rows s_now) 300 (0, 0)).bind fun u2 =>
    some u2.1
def fX6_layNow_L1 (s_now : (Nat → Int32)) (s_nowLong : (Nat → Int32)) (rc1 : ((Int32 × (Nat → Int32) × (Nat → Int32)) → Option (Int32 × (Nat → Int32) × (Nat → Int32)))) (z1 : (Int32 × (Nat → Int32) × (Nat → Int32))) : Option (Int32 × (Nat → Int32) × (Nat → Int32)) :=
  if 8 ≤ z1.1 then
    some (z1.1, z1.2.1, z1.2.2)
  else
    (kld 8 s_now z1.1).bind fun v3 =>
      (kst 8 z1.2.1 z1.1 v3).bind fun g4 =>
      (kld 8 s_nowLong z1.1).bind fun v5 =>
      (kst 8 z1.2.2 z1.1 v5).bind fun g6 =>
      rc1 ((z1.1 + 1), g4, g6)
def fX6_layNow (s_sounds : (Nat → Int32)) (s_clapped : (Nat → Int32)) (s_now : (Nat → Int32)) (s_nowLong : (Nat → Int32)) : Option ((Nat → Int32) × (Nat → Int32)) :=
  (kIter (fX6_layNow_L1 s_now s_nowLong) 300 (0, s_sounds, s_clapped)).bind fun u2 =>
    some (u2.2.1, u2.2.2)
def fX6_clap (s_many : Int32) (s_late : Int32) (s_armNow : Int32) (s_sounds : (Nat → Int32)) (s_clapped : (Nat → Int32)) (s_now : (Nat → Int32)) (s_nowLong : (Nat → Int32)) (s_nowArm : Int32) (p1 : Int32) (p2 : Int32) : Option (Int32 × Int32 × (Nat → Int32) × (Nat → Int32) × (Nat → Int32) × (Nat → Int32)) :=
  (fX6_isRow s_many p1).bind fun u1 =>
    if u1 = (0 : Int32) then
    some ((-101), s_nowArm, s_sounds, s_clapped, s_now, s_nowLong)
  else
    (fX6_in (Int32.toInt64 p2) (0 : Int64) (3 : Int64)).bind fun u2 =>
      if u2 = (0 : Int32) then
      some ((-102), s_nowArm, s_sounds, s_clapped, s_now, s_nowLong)
    else
      (kld 8 s_sounds p1).bind fun v3 =>
        (fX6_byLag s_late p1 v3).bind fun u4 =>
        (fX6_asItIs s_armNow s_sounds s_clapped s_now s_nowLong).bind fun u5 =>
        (fX6_byLag s_late p1 p2).bind fun u6 =>
        (fX6_makes u5.2.1 u5.2.2 p1 u6).bind fun u7 =>
        (fX6_layNow s_sounds s_clapped u7.1 u7.2).bind fun u8 =>
        some (u4, u5.1, u8.1, u8.2, u7.1, u7.2)
def fX6_arm (s_many : Int32) (s_armNow : Int32) (p1 : Int32) : Option (Int32 × Int32) :=
  (fX6_in (Int32.toInt64 p1) (0 : Int64) (8 : Int64)).bind fun u1 =>
    if u1 = (0 : Int32) then
    some ((-102), s_armNow)
  else
    (fX6_lacks s_many).bind fun u2 =>
      if u2 = (0 : Int32) then
      some (s_armNow, p1)
    else
      some ((-103), s_armNow)
def fX6_bar (s_many : Int32) (s_armNow : Int32) (s_barNow : Int32) (s_rows : (Nat → Int32)) (s_sounds : (Nat → Int32)) (s_clapped : (Nat → Int32)) (s_now : (Nat → Int32)) (s_nowLong : (Nat → Int32)) (s_ahead : (Nat → Int32)) (s_nowArm : Int32) : Option (Int32 × Int32 × Int32 × (Nat → Int32) × (Nat → Int32) × (Nat → Int32) × (Nat → Int32) × (Nat → Int32)) :=
  (fX6_lacks s_many).bind fun u1 =>
    if u1 = (0 : Int32) then
    (fX6_asItIs s_armNow s_sounds s_clapped s_now s_nowLong).bind fun u2 =>
      (fX6_pass s_many s_rows u2.2.1 u2.2.2 s_ahead u2.1).bind fun u3 =>
      (fX6_layNow s_sounds s_clapped u3.1 u3.2.1).bind fun u4 =>
      (fX6_rightNow s_many s_rows u3.1).bind fun u5 =>
      some (u5, (s_barNow + 1), u2.1, u4.1, u4.2, u3.1, u3.2.1, u3.2.2)
  else
    some ((-103), s_barNow, s_nowArm, s_sounds, s_clapped, s_now, s_nowLong, s_ahead)
def fX6_skip (s_many : Int32) (s_armNow : Int32) (s_skips : Int32) (s_rows : (Nat → Int32)) (s_sounds : (Nat → Int32)) (s_clapped : (Nat → Int32)) (s_now : (Nat → Int32)) (s_nowLong : (Nat → Int32)) (s_nowArm : Int32) : Option (Int32 × Int32 × Int32 × (Nat → Int32) × (Nat → Int32) × (Nat → Int32) × (Nat → Int32)) :=
  (fX6_lacks s_many).bind fun u1 =>
    if u1 = (0 : Int32) then
    (fX6_asItIs s_armNow s_sounds s_clapped s_now s_nowLong).bind fun u2 =>
      (fX6_leaveOut s_many s_rows u2.2.1).bind fun u3 =>
      (fX6_layNow s_sounds s_clapped u3 u2.2.2).bind fun u4 =>
      (fX6_rightNow s_many s_rows u3).bind fun u5 =>
      some (u5, (s_skips + 1), u2.1, u4.1, u4.2, u3, u2.2.2)
  else
    some ((-103), s_skips, s_nowArm, s_sounds, s_clapped, s_now, s_nowLong)
def fX6_loudOf_L1 (s_many : Int32) (s_rows : (Nat → Int32)) (s_sounds : (Nat → Int32)) (p1 : Int32) (p2 : Int32) (rc1 : ((Int32 × Int32) → Option (Int32 × Int32))) (z1 : (Int32 × Int32)) : Option (Int32 × Int32) :=
  if (p1 + 2) < z1.2 then
    some (z1.1, z1.2)
  else
    (fX6_isRow s_many z1.2).bind fun u3 =>
      (if u3 = (0 : Int32) then
      some 0
    else
      (kld 8 s_sounds z1.2).bind fun v5 =>
        if ((v5 >>> ((p2 - p2 / 2 * 2) &&& 31)) &&& 1) = (1 : Int32) then
        (kld 24 s_rows ((3 * z1.2) + 1)).bind fun v6 =>
          some v6
      else
        some 0).bind fun u4 =>
      if z1.2 = (p1 - 2) then
      rc1 ((z1.1 + (u4 / 2)), (z1.2 + 1))
    else
      if z1.2 = (p1 + 2) then
        rc1 ((z1.1 + (u4 / 2)), (z1.2 + 1))
      else
        rc1 ((z1.1 + u4), (z1.2 + 1))
def fX6_loudOf (s_many : Int32) (s_rows : (Nat → Int32)) (s_sounds : (Nat → Int32)) (p1 : Int32) (p2 : Int32) : Option Int32 :=
  (kIter (fX6_loudOf_L1 s_many s_rows s_sounds p1 p2) 300 (0, (p1 - 2))).bind fun u2 =>
    some u2.1
def fX6_loud (s_many : Int32) (s_rows : (Nat → Int32)) (s_sounds : (Nat → Int32)) (p1 : Int32) (p2 : Int32) : Option Int32 :=
  (fX6_isRow s_many p1).bind fun u1 =>
    if u1 = (0 : Int32) then
    some (-101)
  else
    (fX6_in (Int32.toInt64 p2) (0 : Int64) (3 : Int64)).bind fun u2 =>
      if u2 = (0 : Int32) then
      some (-102)
    else
      (fX6_loudOf s_many s_rows s_sounds p1 p2).bind fun u3 =>
        some u3
def fX6_restOf_L2 (s_many : Int32) (u3 : ((Nat → Int32) × (Nat → Int32) × (Nat → Int32))) (rc4 : ((Int32 × Int32) → Option (Int32 × Int32))) (z4 : (Int32 × Int32)) : Option (Int32 × Int32) :=
  if s_many ≤ z4.2 then
    some (z4.1, z4.2)
  else
    if z4.1 = (0 : Int32) then
      rc4 (0, (z4.2 + 1))
    else
      (kld 8 u3.1 z4.2).bind fun v6 =>
        (kld 8 u3.2.2 z4.2).bind fun v7 =>
        if v6 = v7 then
        rc4 (1, (z4.2 + 1))
      else
        rc4 (0, (z4.2 + 1))
def fX6_restOf_L1 (s_many : Int32) (s_rows : (Nat → Int32)) (u1 : (Int32 × (Nat → Int32) × (Nat → Int32))) (rc2 : ((Int32 × (Nat → Int32) × (Nat → Int32) × (Nat → Int32)) → Option (Int32 × Int32 × (Nat → Int32) × (Nat → Int32) × (Nat → Int32)))) (z2 : (Int32 × (Nat → Int32) × (Nat → Int32) × (Nat → Int32))) : Option (Int32 × Int32 × (Nat → Int32) × (Nat → Int32) × (Nat → Int32)) :=
  if 31 ≤ z2.1 then
    some ((-1), u1.1, z2.2.1, z2.2.2.1, z2.2.2.2)
  else
    (fX6_pass s_many s_rows z2.2.1 z2.2.2.1 z2.2.2.2 u1.1).bind fun u3 =>
      (kIter (fX6_restOf_L2 s_many u3) 300 (1, 0)).bind fun u5 =>
      if u5.1 = (0 : Int32) then
      rc2 ((z2.1 + 1), u3.1, u3.2.1, u3.2.2)
    else
      some (z2.1, u1.1, u3.1, u3.2.1, u3.2.2)
def fX6_restOf (s_many : Int32) (s_armNow : Int32) (s_rows : (Nat → Int32)) (s_sounds : (Nat → Int32)) (s_clapped : (Nat → Int32)) (s_now : (Nat → Int32)) (s_nowLong : (Nat → Int32)) (s_ahead : (Nat → Int32)) : Option (Int32 × Int32 × (Nat → Int32) × (Nat → Int32) × (Nat → Int32)) :=
  (fX6_asItIs s_armNow s_sounds s_clapped s_now s_nowLong).bind fun u1 =>
    kIter (fX6_restOf_L1 s_many s_rows u1) 300 (0, u1.2.1, u1.2.2, s_ahead)
def fX6_rest (s_many : Int32) (s_armNow : Int32) (s_rows : (Nat → Int32)) (s_sounds : (Nat → Int32)) (s_clapped : (Nat → Int32)) (s_now : (Nat → Int32)) (s_nowLong : (Nat → Int32)) (s_ahead : (Nat → Int32)) (s_nowArm : Int32) : Option (Int32 × Int32 × (Nat → Int32) × (Nat → Int32) × (Nat → Int32)) :=
  (fX6_lacks s_many).bind fun u1 =>
    if u1 = (0 : Int32) then
    (fX6_restOf s_many s_armNow s_rows s_sounds s_clapped s_now s_nowLong s_ahead).bind fun u2 =>
      some (u2.1, u2.2.1, u2.2.2.1, u2.2.2.2.1, u2.2.2.2.2)
  else
    some ((-103), s_nowArm, s_now, s_nowLong, s_ahead)
def fX6_outcomeOf (s_many : Int32) (s_armNow : Int32) (s_rows : (Nat → Int32)) (s_sounds : (Nat → Int32)) (s_clapped : (Nat → Int32)) (s_now : (Nat → Int32)) (s_nowLong : (Nat → Int32)) (s_ahead : (Nat → Int32)) (p1 : Int32) : Option (Int32 × Int32 × (Nat → Int32) × (Nat → Int32) × (Nat → Int32)) :=
  (fX6_asItIs s_armNow s_sounds s_clapped s_now s_nowLong).bind fun u1 =>
    (fX6_passAll s_many s_rows u1.2.1 u1.2.2 s_ahead u1.1 p1).bind fun u2 =>
    (fX6_rightNow s_many s_rows u2.1).bind fun u3 =>
    some (u3, u1.1, u2.1, u2.2.1, u2.2.2)
def fX6_outcome (s_many : Int32) (s_armNow : Int32) (s_rows : (Nat → Int32)) (s_sounds : (Nat → Int32)) (s_clapped : (Nat → Int32)) (s_now : (Nat → Int32)) (s_nowLong : (Nat → Int32)) (s_ahead : (Nat → Int32)) (s_nowArm : Int32) (p1 : Int32) : Option (Int32 × Int32 × (Nat → Int32) × (Nat → Int32) × (Nat → Int32)) :=
  (fX6_in (Int32.toInt64 p1) (0 : Int64) (30 : Int64)).bind fun u1 =>
    if u1 = (0 : Int32) then
    some ((-102), s_nowArm, s_now, s_nowLong, s_ahead)
  else
    (fX6_lacks s_many).bind fun u2 =>
      if u2 = (0 : Int32) then
      (fX6_outcomeOf s_many s_armNow s_rows s_sounds s_clapped s_now s_nowLong s_ahead p1).bind fun u3 =>
        some (u3.1, u3.2.1, u3.2.2.1, u3.2.2.2.1, u3.2.2.2.2)
    else
      some ((-103), s_nowArm, s_now, s_nowLong, s_ahead)
def fX6_trickOf_L1 (s_many : Int32) (s_armNow : Int32) (s_rows : (Nat → Int32)) (s_sounds : (Nat → Int32)) (s_clapped : (Nat → Int32)) (p1 : Int32) (rc2 : ((Int32 × Int32 × Int32 × Int32 × (Nat → Int32) × (Nat → Int32) × (Nat → Int32)) → Option (Int32 × Int32 × Int32 × Int32 × (Nat → Int32) × (Nat → Int32) × (Nat → Int32)))) (z2 : (Int32 × Int32 × Int32 × Int32 × (Nat → Int32) × (Nat → Int32) × (Nat → Int32))) : Option (Int32 × Int32 × Int32 × Int32 × (Nat → Int32) × (Nat → Int32) × (Nat → Int32)) :=
  if p1 ≤ z2.2.2.1 then
    some (z2.1, z2.2.1, z2.2.2.1, z2.2.2.2.1, z2.2.2.2.2.1, z2.2.2.2.2.2.1, z2.2.2.2.2.2.2)
  else
    (fX6_asItIs s_armNow s_sounds s_clapped z2.2.2.2.2.1 z2.2.2.2.2.2.1).bind fun u4 =>
      (fX6_passAll s_many s_rows u4.2.1 u4.2.2 z2.2.2.2.2.2.2 u4.1 z2.2.2.1).bind fun u5 =>
      (fX6_leaveOut s_many s_rows u5.1).bind fun u6 =>
      (fX6_passAll s_many s_rows u6 u5.2.1 u5.2.2 u4.1 (p1 - z2.2.2.1)).bind fun u7 =>
      (fX6_rightNow s_many s_rows u7.1).bind fun u8 =>
      if u8 ≤ z2.1 then
      if u8 ≤ z2.1 then
        rc2 (z2.1, z2.2.1, (z2.2.2.1 + 1), u4.1, u7.1, u7.2.1, u7.2.2)
      else
        rc2 (u8, z2.2.1, (z2.2.2.1 + 1), u4.1, u7.1, u7.2.1, u7.2.2)
    else
      if u8 ≤ z2.1 then
        rc2 (z2.1, z2.2.2.1, (z2.2.2.1 + 1), u4.1, u7.1, u7.2.1, u7.2.2)
      else
        rc2 (u8, z2.2.2.1, (z2.2.2.1 + 1), u4.1, u7.1, u7.2.1, u7.2.2)
def fX6_trickOf (s_many : Int32) (s_armNow : Int32) (s_rows : (Nat → Int32)) (s_sounds : (Nat → Int32)) (s_clapped : (Nat → Int32)) (s_now : (Nat → Int32)) (s_nowLong : (Nat → Int32)) (s_ahead : (Nat → Int32)) (p1 : Int32) (p2 : Int32) : Option (Int32 × Int32 × (Nat → Int32) × (Nat → Int32) × (Nat → Int32)) :=
  (fX6_outcomeOf s_many s_armNow s_rows s_sounds s_clapped s_now s_nowLong s_ahead p1).bind fun u1 =>
    (kIter (fX6_trickOf_L1 s_many s_armNow s_rows s_sounds s_clapped p1) 300 (u1.1, (-1), 0, u1.2.1, u1.2.2.1, u1.2.2.2.1, u1.2.2.2.2)).bind fun u3 =>
    if p2 = (0 : Int32) then
    some (u3.2.1, u3.2.2.2.1, u3.2.2.2.2.1, u3.2.2.2.2.2.1, u3.2.2.2.2.2.2)
  else
    some (u3.1, u3.2.2.2.1, u3.2.2.2.2.1, u3.2.2.2.2.2.1, u3.2.2.2.2.2.2)
def fX6_trick (s_many : Int32) (s_armNow : Int32) (s_rows : (Nat → Int32)) (s_sounds : (Nat → Int32)) (s_clapped : (Nat → Int32)) (s_now : (Nat → Int32)) (s_nowLong : (Nat → Int32)) (s_ahead : (Nat → Int32)) (s_nowArm : Int32) (p1 : Int32) (p2 : Int32) : Option (Int32 × Int32 × (Nat → Int32) × (Nat → Int32) × (Nat → Int32)) :=
  (fX6_in (Int32.toInt64 p1) (1 : Int64) (12 : Int64)).bind fun u1 =>
    if u1 = (0 : Int32) then
    some ((-102), s_nowArm, s_now, s_nowLong, s_ahead)
  else
    (fX6_in (Int32.toInt64 p2) (0 : Int64) (1 : Int64)).bind fun u2 =>
      if u2 = (0 : Int32) then
      some ((-102), s_nowArm, s_now, s_nowLong, s_ahead)
    else
      (fX6_lacks s_many).bind fun u3 =>
        if u3 = (0 : Int32) then
        (fX6_trickOf s_many s_armNow s_rows s_sounds s_clapped s_now s_nowLong s_ahead p1 p2).bind fun u4 =>
          some (u4.1, u4.2.1, u4.2.2.1, u4.2.2.2.1, u4.2.2.2.2)
      else
        some ((-103), s_nowArm, s_now, s_nowLong, s_ahead)
def fX6_isWonBy_L1 (s_many : Int32) (p1 : Int32) (rc2 : ((Int32 × (Nat → Int32) × (Nat → Int32)) → Option (Int32 × (Nat → Int32) × (Nat → Int32)))) (z2 : (Int32 × (Nat → Int32) × (Nat → Int32))) : Option (Int32 × (Nat → Int32) × (Nat → Int32)) :=
  if s_many ≤ z2.1 then
    some (z2.1, z2.2.1, z2.2.2)
  else
    if ((p1 >>> (z2.1 &&& 31)) &&& 1) = (1 : Int32) then
      (fX6_makes z2.2.1 z2.2.2 z2.1 2).bind fun u4 =>
        rc2 ((z2.1 + 1), u4.1, u4.2)
    else
      rc2 ((z2.1 + 1), z2.2.1, z2.2.2)
def fX6_isWonBy_L2 (s_many : Int32) (s_rows : (Nat → Int32)) (u5 : ((Nat → Int32) × (Nat → Int32) × (Nat → Int32))) (rc6 : ((Int32 × Int32) → Option (Int32 × Int32))) (z6 : (Int32 × Int32)) : Option (Int32 × Int32) :=
  if s_many ≤ z6.2 then
    some (z6.1, z6.2)
  else
    if z6.1 = (0 : Int32) then
      rc6 (0, (z6.2 + 1))
    else
      (fX6_isStubborn s_rows z6.2).bind fun u8 =>
        if u8 = (0 : Int32) then
        (kld 8 u5.1 z6.2).bind fun v9 =>
          if v9 = (2 : Int32) then
          rc6 (1, (z6.2 + 1))
        else
          rc6 (0, (z6.2 + 1))
      else
        rc6 (1, (z6.2 + 1))
def fX6_isWonBy (s_many : Int32) (s_armNow : Int32) (s_rows : (Nat → Int32)) (s_sounds : (Nat → Int32)) (s_clapped : (Nat → Int32)) (s_now : (Nat → Int32)) (s_nowLong : (Nat → Int32)) (s_ahead : (Nat → Int32)) (p1 : Int32) (p2 : Int32) : Option (Int32 × Int32 × (Nat → Int32) × (Nat → Int32) × (Nat → Int32)) :=
  (fX6_asItIs s_armNow s_sounds s_clapped s_now s_nowLong).bind fun u1 =>
    (kIter (fX6_isWonBy_L1 s_many p1) 300 (0, u1.2.1, u1.2.2)).bind fun u3 =>
    (fX6_passAll s_many s_rows u3.2.1 u3.2.2 s_ahead u1.1 p2).bind fun u5 =>
    (kIter (fX6_isWonBy_L2 s_many s_rows u5) 300 (1, 0)).bind fun u7 =>
    (kz u7.1).bind fun b10 =>
    some (b10, u1.1, u5.1, u5.2.1, u5.2.2)
def fX6_ones_L1 (p0 : Int32) (rc1 : ((Int32 × Int32) → Option (Int32 × Int32))) (z1 : (Int32 × Int32)) : Option (Int32 × Int32) :=
  if 8 ≤ z1.2 then
    some (z1.1, z1.2)
  else
    rc1 ((z1.1 + ((p0 >>> (z1.2 &&& 31)) &&& 1)), (z1.2 + 1))
def fX6_ones (p0 : Int32) : Option Int32 :=
  (kIter (fX6_ones_L1 p0) 300 (0, 0)).bind fun u2 =>
    some u2.1
def fX6_turned_L1 (s_many : Int32) (s_armNow : Int32) (s_rows : (Nat → Int32)) (s_sounds : (Nat → Int32)) (s_clapped : (Nat → Int32)) (p1 : Int32) (rc4 : ((Int32 × Int32 × Int32 × (Nat → Int32) × (Nat → Int32) × (Nat → Int32)) → Option (Int32 × Int32 × Int32 × (Nat → Int32) × (Nat → Int32) × (Nat → Int32)))) (z4 : (Int32 × Int32 × Int32 × (Nat → Int32) × (Nat → Int32) × (Nat → Int32))) : Option (Int32 × Int32 × Int32 × (Nat → Int32) × (Nat → Int32) × (Nat → Int32)) :=
  if ((1 : Int32) <<< (s_many &&& 31)) ≤ z4.2.1 then
    some (z4.1, z4.2.1, z4.2.2.1, z4.2.2.2.1, z4.2.2.2.2.1, z4.2.2.2.2.2)
  else
    if z4.1 = ((-1) : Int32) then
      (fX6_isWonBy s_many s_armNow s_rows s_sounds s_clapped z4.2.2.2.1 z4.2.2.2.2.1 z4.2.2.2.2.2 z4.2.1 p1).bind fun u6 =>
        if u6.1 = (0 : Int32) then
        rc4 (z4.1, (z4.2.1 + 1), u6.2.1, u6.2.2.1, u6.2.2.2.1, u6.2.2.2.2)
      else
        rc4 (z4.2.1, (z4.2.1 + 1), u6.2.1, u6.2.2.1, u6.2.2.2.1, u6.2.2.2.2)
    else
      (fX6_ones z4.2.1).bind fun u7 =>
        (fX6_ones z4.1).bind fun u8 =>
        if u8 ≤ u7 then
        rc4 (z4.1, (z4.2.1 + 1), z4.2.2.1, z4.2.2.2.1, z4.2.2.2.2.1, z4.2.2.2.2.2)
      else
        (fX6_isWonBy s_many s_armNow s_rows s_sounds s_clapped z4.2.2.2.1 z4.2.2.2.2.1 z4.2.2.2.2.2 z4.2.1 p1).bind fun u9 =>
          if u9.1 = (0 : Int32) then
          rc4 (z4.1, (z4.2.1 + 1), u9.2.1, u9.2.2.1, u9.2.2.2.1, u9.2.2.2.2)
        else
          rc4 (z4.2.1, (z4.2.1 + 1), u9.2.1, u9.2.2.1, u9.2.2.2.1, u9.2.2.2.2)
def fX6_turned (s_many : Int32) (s_armNow : Int32) (s_rows : (Nat → Int32)) (s_sounds : (Nat → Int32)) (s_clapped : (Nat → Int32)) (s_now : (Nat → Int32)) (s_nowLong : (Nat → Int32)) (s_ahead : (Nat → Int32)) (s_nowArm : Int32) (s_turnedMany : Int32) (p1 : Int32) (p2 : Int32) : Option (Int32 × Int32 × Int32 × (Nat → Int32) × (Nat → Int32) × (Nat → Int32)) :=
  (fX6_in (Int32.toInt64 p1) (0 : Int64) (12 : Int64)).bind fun u1 =>
    if u1 = (0 : Int32) then
    some ((-102), s_nowArm, s_turnedMany, s_now, s_nowLong, s_ahead)
  else
    (fX6_in (Int32.toInt64 p2) (0 : Int64) (1 : Int64)).bind fun u2 =>
      if u2 = (0 : Int32) then
      some ((-102), s_nowArm, s_turnedMany, s_now, s_nowLong, s_ahead)
    else
      (fX6_lacks s_many).bind fun u3 =>
        if u3 = (0 : Int32) then
        if s_turnedMany = (30 : Int32) then
          some ((-103), s_nowArm, s_turnedMany, s_now, s_nowLong, s_ahead)
        else
          (kIter (fX6_turned_L1 s_many s_armNow s_rows s_sounds s_clapped p1) 300 ((-1), 0, s_nowArm, s_now, s_nowLong, s_ahead)).bind fun u5 =>
            if u5.1 = ((-1) : Int32) then
            some (u5.1, u5.2.2.1, (s_turnedMany + 1), u5.2.2.2.1, u5.2.2.2.2.1, u5.2.2.2.2.2)
          else
            if p2 = (1 : Int32) then
              some (u5.1, u5.2.2.1, (s_turnedMany + 1), u5.2.2.2.1, u5.2.2.2.2.1, u5.2.2.2.2.2)
            else
              (fX6_ones u5.1).bind fun u10 =>
                some (u10, u5.2.2.1, (s_turnedMany + 1), u5.2.2.2.1, u5.2.2.2.2.1, u5.2.2.2.2.2)
      else
        some ((-103), s_nowArm, s_turnedMany, s_now, s_nowLong, s_ahead)
def fX6_record (s_recordMany : Int32) (s_records : (Nat → Int32)) (p1 : Int32) : Option (Int32 × Int32 × (Nat → Int32)) :=
  (fX6_in (Int32.toInt64 p1) (0 : Int64) (72 : Int64)).bind fun u1 =>
    if u1 = (0 : Int32) then
    some ((-102), s_recordMany, s_records)
  else
    if s_recordMany = (8 : Int32) then
      some ((-104), s_recordMany, s_records)
    else
      (kst 8 s_records s_recordMany p1).bind fun g2 =>
        some ((s_recordMany + 1), (s_recordMany + 1), g2)
def fX6_forget (s_recordMany : Int32) : Option (Int32 × Int32) :=
  some (s_recordMany, 0)
def fX6_isRecordedBy_L1  (rc1 : ((Int32 × (Nat → Int32) × (Nat → Int32)) → Option (Int32 × (Nat → Int32) × (Nat → Int32)))) (z1 : (Int32 × (Nat → Int32) × (Nat → Int32))) : Option (Int32 × (Nat → Int32) × (Nat → Int32)) :=
  if 8 ≤ z1.1 then
    some (z1.1, z1.2.1, z1.2.2)
  else
    (kst 8 z1.2.1 z1.1 3).bind fun g3 =>
      (kst 8 z1.2.2 z1.1 0).bind fun g4 =>
      rc1 ((z1.1 + 1), g3, g4)
def fX6_isRecordedBy_L2 (s_many : Int32) (s_armNow : Int32) (s_rows : (Nat → Int32)) (s_recordMany : Int32) (s_records : (Nat → Int32)) (rc7 : ((Int32 × Int32 × (Nat → Int32) × (Nat → Int32) × (Nat → Int32)) → Option (Int32 × Int32 × (Nat → Int32) × (Nat → Int32) × (Nat → Int32)))) (z7 : (Int32 × Int32 × (Nat → Int32) × (Nat → Int32) × (Nat → Int32))) : Option (Int32 × Int32 × (Nat → Int32) × (Nat → Int32) × (Nat → Int32)) :=
  if s_recordMany ≤ z7.2.1 then
    some (z7.1, z7.2.1, z7.2.2.1, z7.2.2.2.1, z7.2.2.2.2)
  else
    if z7.1 = (0 : Int32) then
      some (z7.1, z7.2.1, z7.2.2.1, z7.2.2.2.1, z7.2.2.2.2)
    else
      (fX6_pass s_many s_rows z7.2.2.1 z7.2.2.2.1 z7.2.2.2.2 s_armNow).bind fun u9 =>
        (fX6_rightNow s_many s_rows u9.1).bind fun u10 =>
        (kld 8 s_records z7.2.1).bind fun v11 =>
        if u10 = v11 then
        rc7 (1, (z7.2.1 + 1), u9.1, u9.2.1, u9.2.2)
      else
        rc7 (0, (z7.2.1 + 1), u9.1, u9.2.1, u9.2.2)
def fX6_isRecordedBy (s_many : Int32) (s_armNow : Int32) (s_rows : (Nat → Int32)) (s_now : (Nat → Int32)) (s_nowLong : (Nat → Int32)) (s_ahead : (Nat → Int32)) (s_recordMany : Int32) (s_records : (Nat → Int32)) (p1 : Int32) (p2 : Int32) (p3 : Int32) : Option (Int32 × Int32 × (Nat → Int32) × (Nat → Int32) × (Nat → Int32)) :=
  (kIter fX6_isRecordedBy_L1 300 (0, s_now, s_nowLong)).bind fun u2 =>
    (kst 8 u2.2.1 p1 ((p3 / 2) + 1)).bind fun g5 =>
    (kst 8 g5 p2 ((p3 - p3 / 2 * 2) + 1)).bind fun g6 =>
    (kIter (fX6_isRecordedBy_L2 s_many s_armNow s_rows s_recordMany s_records) 300 (1, 0, g6, u2.2.2, s_ahead)).bind fun u8 =>
    (kz u8.1).bind fun b12 =>
    some (b12, s_armNow, u8.2.2.1, u8.2.2.2.1, u8.2.2.2.2)
def fX6_began_L1 (s_many : Int32) (s_armNow : Int32) (s_rows : (Nat → Int32)) (s_recordMany : Int32) (s_records : (Nat → Int32)) (rc3 : ((Int32 × Int32 × Int32 × Int32 × (Nat → Int32) × (Nat → Int32) × (Nat → Int32)) → Option (Int32 × Int32 × Int32 × Int32 × (Nat → Int32) × (Nat → Int32) × (Nat → Int32)))) (z3 : (Int32 × Int32 × Int32 × Int32 × (Nat → Int32) × (Nat → Int32) × (Nat → Int32))) : Option (Int32 × Int32 × Int32 × Int32 × (Nat → Int32) × (Nat → Int32) × (Nat → Int32)) :=
  if z3.2.2.1 < 0 then
    some (z3.1, z3.2.1, z3.2.2.1, z3.2.2.2.1, z3.2.2.2.2.1, z3.2.2.2.2.2.1, z3.2.2.2.2.2.2)
  else
    (if ((z3.2.2.1 / 4) - (z3.2.2.1 / 4) / 8 * 8) ≤ (z3.2.2.1 / 32) then
      some (0, z3.2.2.2.1, z3.2.2.2.2.1, z3.2.2.2.2.2.1, z3.2.2.2.2.2.2)
    else
      if s_many ≤ ((z3.2.2.1 / 4) - (z3.2.2.1 / 4) / 8 * 8) then
        some (0, z3.2.2.2.1, z3.2.2.2.2.1, z3.2.2.2.2.2.1, z3.2.2.2.2.2.2)
      else
        (fX6_isRecordedBy s_many s_armNow s_rows z3.2.2.2.2.1 z3.2.2.2.2.2.1 z3.2.2.2.2.2.2 s_recordMany s_records (z3.2.2.1 / 32) ((z3.2.2.1 / 4) - (z3.2.2.1 / 4) / 8 * 8) (z3.2.2.1 - z3.2.2.1 / 4 * 4)).bind fun u6 =>
          if u6.1 = (0 : Int32) then
          some (0, u6.2.1, u6.2.2.1, u6.2.2.2.1, u6.2.2.2.2)
        else
          some (1, u6.2.1, u6.2.2.1, u6.2.2.2.1, u6.2.2.2.2)).bind fun u5 =>
      if u5.1 = (0 : Int32) then
      if u5.1 = (0 : Int32) then
        rc3 ((z3.1 + 0), z3.2.1, (z3.2.2.1 + (-1)), u5.2.1, u5.2.2.1, u5.2.2.2.1, u5.2.2.2.2)
      else
        rc3 ((z3.1 + 0), z3.2.2.1, (z3.2.2.1 + (-1)), u5.2.1, u5.2.2.1, u5.2.2.2.1, u5.2.2.2.2)
    else
      if u5.1 = (0 : Int32) then
        rc3 ((z3.1 + 1), z3.2.1, (z3.2.2.1 + (-1)), u5.2.1, u5.2.2.1, u5.2.2.2.1, u5.2.2.2.2)
      else
        rc3 ((z3.1 + 1), z3.2.2.1, (z3.2.2.1 + (-1)), u5.2.1, u5.2.2.1, u5.2.2.2.1, u5.2.2.2.2)
def fX6_began (s_many : Int32) (s_armNow : Int32) (s_rows : (Nat → Int32)) (s_now : (Nat → Int32)) (s_nowLong : (Nat → Int32)) (s_ahead : (Nat → Int32)) (s_nowArm : Int32) (s_recordMany : Int32) (s_records : (Nat → Int32)) (s_beganMany : Int32) (p1 : Int32) : Option (Int32 × Int32 × Int32 × (Nat → Int32) × (Nat → Int32) × (Nat → Int32)) :=
  (fX6_in (Int32.toInt64 p1) (0 : Int64) (1 : Int64)).bind fun u1 =>
    if u1 = (0 : Int32) then
    some ((-102), s_nowArm, s_beganMany, s_now, s_nowLong, s_ahead)
  else
    (fX6_lacks s_many).bind fun u2 =>
      if u2 = (0 : Int32) then
      if s_beganMany = (30 : Int32) then
        some ((-103), s_nowArm, s_beganMany, s_now, s_nowLong, s_ahead)
      else
        (kIter (fX6_began_L1 s_many s_armNow s_rows s_recordMany s_records) 300 (0, (-1), 255, s_nowArm, s_now, s_nowLong, s_ahead)).bind fun u4 =>
          if p1 = (0 : Int32) then
          some (u4.1, u4.2.2.2.1, (s_beganMany + 1), u4.2.2.2.2.1, u4.2.2.2.2.2.1, u4.2.2.2.2.2.2)
        else
          some (u4.2.1, u4.2.2.2.1, (s_beganMany + 1), u4.2.2.2.2.1, u4.2.2.2.2.2.1, u4.2.2.2.2.2.2)
    else
      some ((-103), s_nowArm, s_beganMany, s_now, s_nowLong, s_ahead)
def fX6_draw (s_seedNow : Int32) (p1 : Int32) : Option (Int32 × Int32) :=
  (krem ((Int64.toInt32 ((((1103515245 : Int64) * (Int32.toInt64 s_seedNow)) + (12345 : Int64)) &&& (2147483647 : Int64))) / 65536) p1).bind fun v1 =>
    some (v1, (Int64.toInt32 ((((1103515245 : Int64) * (Int32.toInt64 s_seedNow)) + (12345 : Int64)) &&& (2147483647 : Int64))))
def fX6_palmsAll_L1 (s_many : Int32) (s_rows : (Nat → Int32)) (rc1 : ((Int32 × Int32) → Option (Int32 × Int32))) (z1 : (Int32 × Int32)) : Option (Int32 × Int32) :=
  if s_many ≤ z1.2 then
    some (z1.1, z1.2)
  else
    (kld 24 s_rows ((3 * z1.2) + 1)).bind fun v3 =>
      rc1 ((z1.1 + v3), (z1.2 + 1))
def fX6_palmsAll (s_many : Int32) (s_rows : (Nat → Int32)) : Option Int32 :=
  (kIter (fX6_palmsAll_L1 s_many s_rows) 300 (0, 0)).bind fun u2 =>
    some u2.1
def fX6_nights_L1 (s_many : Int32) (s_rows : (Nat → Int32)) (p1 : Int32) (rc5 : ((Int32 × Int32 × Int32 × Int32 × (Nat → Int32) × (Nat → Int32) × (Nat → Int32)) → Option (Int32 × Int32 × Int32 × Int32 × (Nat → Int32) × (Nat → Int32) × (Nat → Int32)))) (z5 : (Int32 × Int32 × Int32 × Int32 × (Nat → Int32) × (Nat → Int32) × (Nat → Int32))) : Option (Int32 × Int32 × Int32 × Int32 × (Nat → Int32) × (Nat → Int32) × (Nat → Int32)) :=
  if p1 ≤ z5.2.1 then
    some (z5.1, z5.2.1, z5.2.2.1, z5.2.2.2.1, z5.2.2.2.2.1, z5.2.2.2.2.2.1, z5.2.2.2.2.2.2)
  else
    (fX6_draw z5.2.2.2.1 6).bind fun u7 =>
      (if u7.1 = (0 : Int32) then
      (fX6_leaveOut s_many s_rows z5.2.2.2.2.1).bind fun u12 =>
        some (z5.2.2.1, u7.2, u12, z5.2.2.2.2.2.1)
    else
      if u7.1 = (1 : Int32) then
        (fX6_draw u7.2 s_many).bind fun u10 =>
          (fX6_makes z5.2.2.2.2.1 z5.2.2.2.2.2.1 u10.1 2).bind fun u11 =>
          some (z5.2.2.1, u10.2, u11.1, u11.2)
      else
        if u7.1 = (2 : Int32) then
          (fX6_draw u7.2 9).bind fun u9 =>
            some (u9.1, u9.2, z5.2.2.2.2.1, z5.2.2.2.2.2.1)
        else
          some (z5.2.2.1, u7.2, z5.2.2.2.2.1, z5.2.2.2.2.2.1)).bind fun u8 =>
      (fX6_pass s_many s_rows u8.2.2.1 u8.2.2.2 z5.2.2.2.2.2.2 u8.1).bind fun u13 =>
      (fX6_rightNow s_many s_rows u13.1).bind fun u14 =>
      (fX6_palmsAll s_many s_rows).bind fun u15 =>
      if (2 * u14) ≤ u15 then
      rc5 ((z5.1 + 0), (z5.2.1 + 1), u8.1, u8.2.1, u13.1, u13.2.1, u13.2.2)
    else
      rc5 ((z5.1 + 1), (z5.2.1 + 1), u8.1, u8.2.1, u13.1, u13.2.1, u13.2.2)
def fX6_nights (s_many : Int32) (s_armNow : Int32) (s_rows : (Nat → Int32)) (s_sounds : (Nat → Int32)) (s_clapped : (Nat → Int32)) (s_now : (Nat → Int32)) (s_nowLong : (Nat → Int32)) (s_ahead : (Nat → Int32)) (s_nowArm : Int32) (s_seedNow : Int32) (p1 : Int32) (p2 : Int32) (p3 : Int32) : Option (Int32 × Int32 × Int32 × (Nat → Int32) × (Nat → Int32) × (Nat → Int32)) :=
  (fX6_in (Int32.toInt64 p1) (1 : Int64) (60 : Int64)).bind fun u1 =>
    if u1 = (0 : Int32) then
    some ((-102), s_nowArm, s_seedNow, s_now, s_nowLong, s_ahead)
  else
    if p2 < 0 then
      some ((-102), s_nowArm, s_seedNow, s_now, s_nowLong, s_ahead)
    else
      (fX6_in (Int32.toInt64 p3) (0 : Int64) (2 : Int64)).bind fun u2 =>
        if u2 = (0 : Int32) then
        some ((-102), s_nowArm, s_seedNow, s_now, s_nowLong, s_ahead)
      else
        (fX6_lacks s_many).bind fun u3 =>
          if u3 = (0 : Int32) then
          (fX6_asItIs s_armNow s_sounds s_clapped s_now s_nowLong).bind fun u4 =>
            (kIter (fX6_nights_L1 s_many s_rows p1) 300 (0, 0, u4.1, p2, u4.2.1, u4.2.2, s_ahead)).bind fun u6 =>
            if p3 = (0 : Int32) then
            (fX6_rightNow s_many s_rows u6.2.2.2.2.1).bind fun u16 =>
              some (u16, u6.2.2.1, u6.2.2.2.1, u6.2.2.2.2.1, u6.2.2.2.2.2.1, u6.2.2.2.2.2.2)
          else
            if p3 = (1 : Int32) then
              some (u6.1, u6.2.2.1, u6.2.2.2.1, u6.2.2.2.2.1, u6.2.2.2.2.2.1, u6.2.2.2.2.2.2)
            else
              some (u6.2.2.2.1, u6.2.2.1, u6.2.2.2.1, u6.2.2.2.2.1, u6.2.2.2.2.2.1, u6.2.2.2.2.2.2)
        else
          some ((-103), s_nowArm, s_seedNow, s_now, s_nowLong, s_ahead)
def fX6_copy_L1 (s_a0 : (Nat → Int32)) (rc1 : ((Int32 × (Nat → Int32)) → Option (Int32 × (Nat → Int32)))) (z1 : (Int32 × (Nat → Int32))) : Option (Int32 × (Nat → Int32)) :=
  if 8 ≤ z1.1 then
    some (z1.1, z1.2)
  else
    (kld 8 s_a0 z1.1).bind fun v3 =>
      (kst 8 z1.2 z1.1 v3).bind fun g4 =>
      rc1 ((z1.1 + 1), g4)
def fX6_copy (s_a0 : (Nat → Int32)) (s_a1 : (Nat → Int32)) : Option (Nat → Int32) :=
  (kIter (fX6_copy_L1 s_a0) 300 (0, s_a1)).bind fun u2 =>
    some u2.2
def fX6_image (s_many : Int32) (s_armNow : Int32) (s_barNow : Int32) (s_skips : Int32) (s_hallsRead : Int32) (s_sounds : (Nat → Int32)) (s_clapped : (Nat → Int32)) (s_recordMany : Int32) (s_records : (Nat → Int32)) (s_keptHall : Int32) (s_keptArm : Int32) (s_keptBar : Int32) (s_keptSkips : Int32) (s_keptRecordMany : Int32) (s_keptSounds : (Nat → Int32)) (s_keptClapped : (Nat → Int32)) (s_keptRecords : (Nat → Int32)) : Option (Int32 × Int32 × Int32 × Int32 × Int32 × Int32 × (Nat → Int32) × (Nat → Int32) × (Nat → Int32)) :=
  (fX6_lacks s_many).bind fun u1 =>
    if u1 = (0 : Int32) then
    (fX6_copy s_sounds s_keptSounds).bind fun u2 =>
      (fX6_copy s_clapped s_keptClapped).bind fun u3 =>
      (fX6_copy s_records s_keptRecords).bind fun u4 =>
      some (s_barNow, s_hallsRead, s_armNow, s_barNow, s_skips, s_recordMany, u2, u3, u4)
  else
    some ((-103), s_keptHall, s_keptArm, s_keptBar, s_keptSkips, s_keptRecordMany, s_keptSounds, s_keptClapped, s_keptRecords)
def fX6_restore (s_armNow : Int32) (s_barNow : Int32) (s_skips : Int32) (s_hallsRead : Int32) (s_sounds : (Nat → Int32)) (s_clapped : (Nat → Int32)) (s_recordMany : Int32) (s_records : (Nat → Int32)) (s_keptHall : Int32) (s_keptArm : Int32) (s_keptBar : Int32) (s_keptSkips : Int32) (s_keptRecordMany : Int32) (s_keptSounds : (Nat → Int32)) (s_keptClapped : (Nat → Int32)) (s_keptRecords : (Nat → Int32)) : Option (Int32 × Int32 × Int32 × Int32 × Int32 × (Nat → Int32) × (Nat → Int32) × (Nat → Int32)) :=
  if s_keptHall = s_hallsRead then
    (fX6_copy s_keptSounds s_sounds).bind fun u1 =>
      (fX6_copy s_keptClapped s_clapped).bind fun u2 =>
      (fX6_copy s_keptRecords s_records).bind fun u3 =>
      some (s_keptBar, s_keptArm, s_keptBar, s_keptSkips, s_keptRecordMany, u1, u2, u3)
  else
    some ((-103), s_armNow, s_barNow, s_skips, s_recordMany, s_sounds, s_clapped, s_records)
def fX6_countOf (s_pageMany : Int32) (s_many : Int32) (s_late : Int32) (s_armNow : Int32) (s_barNow : Int32) (s_skips : Int32) (s_hallsRead : Int32) (s_rows : (Nat → Int32)) (s_sounds : (Nat → Int32)) (s_clapped : (Nat → Int32)) (s_now : (Nat → Int32)) (s_nowLong : (Nat → Int32)) (s_nowArm : Int32) (s_turnedMany : Int32) (s_recordMany : Int32) (s_beganMany : Int32) (p1 : Int32) : Option (Int32 × Int32 × (Nat → Int32) × (Nat → Int32)) :=
  if p1 = (0 : Int32) then
    some (s_many, s_nowArm, s_now, s_nowLong)
  else if p1 = (1 : Int32) then
    some (s_late, s_nowArm, s_now, s_nowLong)
  else if p1 = (2 : Int32) then
    (fX6_palmsAll s_many s_rows).bind fun u3 =>
      some (u3, s_nowArm, s_now, s_nowLong)
  else if p1 = (3 : Int32) then
    (fX6_asItIs s_armNow s_sounds s_clapped s_now s_nowLong).bind fun u1 =>
      (fX6_rightNow s_many s_rows u1.2.1).bind fun u2 =>
      some (u2, u1.1, u1.2.1, u1.2.2)
  else if p1 = (4 : Int32) then
    some (s_armNow, s_nowArm, s_now, s_nowLong)
  else if p1 = (5 : Int32) then
    some (s_barNow, s_nowArm, s_now, s_nowLong)
  else if p1 = (6 : Int32) then
    some (s_skips, s_nowArm, s_now, s_nowLong)
  else if p1 = (7 : Int32) then
    some (s_recordMany, s_nowArm, s_now, s_nowLong)
  else if p1 = (8 : Int32) then
    some (s_pageMany, s_nowArm, s_now, s_nowLong)
  else if p1 = (9 : Int32) then
    some (s_hallsRead, s_nowArm, s_now, s_nowLong)
  else if p1 = (10 : Int32) then
    some (s_turnedMany, s_nowArm, s_now, s_nowLong)
  else if p1 = (11 : Int32) then
    some (s_beganMany, s_nowArm, s_now, s_nowLong)
  else some ((-102), s_nowArm, s_now, s_nowLong)
def fX6_count (s_pageMany : Int32) (s_many : Int32) (s_late : Int32) (s_armNow : Int32) (s_barNow : Int32) (s_skips : Int32) (s_hallsRead : Int32) (s_rows : (Nat → Int32)) (s_sounds : (Nat → Int32)) (s_clapped : (Nat → Int32)) (s_now : (Nat → Int32)) (s_nowLong : (Nat → Int32)) (s_nowArm : Int32) (s_turnedMany : Int32) (s_recordMany : Int32) (s_beganMany : Int32) (p1 : Int32) : Option (Int32 × Int32 × (Nat → Int32) × (Nat → Int32)) :=
  (fX6_countOf s_pageMany s_many s_late s_armNow s_barNow s_skips s_hallsRead s_rows s_sounds s_clapped s_now s_nowLong s_nowArm s_turnedMany s_recordMany s_beganMany p1).bind fun u1 =>
    some (u1.1, u1.2.1, u1.2.2.1, u1.2.2.2)
def fX6_say (s_hash : Int64) (p1 : Int64) : Option Int64 :=
  some (((31 : Int64) * s_hash) + p1)
def fX6_digest_L2 (s_late : Int32) (s_armNow : Int32) (s_rows : (Nat → Int32)) (s_sounds : (Nat → Int32)) (s_clapped : (Nat → Int32)) (z1 : (Int32 × Int64)) (rc3 : ((Int32 × Int64) → Option (Int32 × Int64))) (z3 : (Int32 × Int64)) : Option (Int32 × Int64) :=
  if 9 ≤ z3.1 then
    some (z3.1, z3.2)
  else
    (fX6_tell s_late s_armNow s_rows s_sounds s_clapped z1.1 z3.1).bind fun u5 =>
      (fX6_say z3.2 (Int32.toInt64 u5)).bind fun u6 =>
      rc3 ((z3.1 + 1), u6)
def fX6_digest_L3 (s_many : Int32) (s_rows : (Nat → Int32)) (s_sounds : (Nat → Int32)) (z1 : (Int32 × Int64)) (rc7 : ((Int32 × Int64) → Option (Int32 × Int64))) (z7 : (Int32 × Int64)) : Option (Int32 × Int64) :=
  if 4 ≤ z7.1 then
    some (z7.1, z7.2)
  else
    (fX6_loudOf s_many s_rows s_sounds z1.1 z7.1).bind fun u9 =>
      (fX6_say z7.2 (Int32.toInt64 u9)).bind fun u10 =>
      rc7 ((z7.1 + 1), u10)
def fX6_digest_L1 (s_many : Int32) (s_late : Int32) (s_armNow : Int32) (s_rows : (Nat → Int32)) (s_sounds : (Nat → Int32)) (s_clapped : (Nat → Int32)) (rc1 : ((Int32 × Int64) → Option (Int32 × Int64))) (z1 : (Int32 × Int64)) : Option (Int32 × Int64) :=
  if s_many ≤ z1.1 then
    some (z1.1, z1.2)
  else
    (kIter (fX6_digest_L2 s_late s_armNow s_rows s_sounds s_clapped z1) 300 (0, z1.2)).bind fun u4 =>
      (kIter (fX6_digest_L3 s_many s_rows s_sounds z1) 300 (0, u4.2)).bind fun u8 =>
      rc1 ((z1.1 + 1), u8.2)
def fX6_digest_L4 (s_page : (Nat → Int32)) (s_pageMany : Int32) (rc21 : ((Int32 × Int64) → Option (Int32 × Int64))) (z21 : (Int32 × Int64)) : Option (Int32 × Int64) :=
  if s_pageMany ≤ z21.1 then
    some (z21.1, z21.2)
  else
    (kld 36 s_page z21.1).bind fun v23 =>
      (fX6_say z21.2 (Int32.toInt64 v23)).bind fun u24 =>
      rc21 ((z21.1 + 1), u24)
def fX6_digest_L5 (s_pageMany : Int32) (s_many : Int32) (s_late : Int32) (s_armNow : Int32) (s_barNow : Int32) (s_skips : Int32) (s_hallsRead : Int32) (s_rows : (Nat → Int32)) (s_sounds : (Nat → Int32)) (s_clapped : (Nat → Int32)) (s_turnedMany : Int32) (s_recordMany : Int32) (s_beganMany : Int32) (rc25 : ((Int32 × Int32 × Int64 × (Nat → Int32) × (Nat → Int32)) → Option (Int32 × Int32 × Int64 × (Nat → Int32) × (Nat → Int32)))) (z25 : (Int32 × Int32 × Int64 × (Nat → Int32) × (Nat → Int32))) : Option (Int32 × Int32 × Int64 × (Nat → Int32) × (Nat → Int32)) :=
  if 12 ≤ z25.1 then
    some (z25.1, z25.2.1, z25.2.2.1, z25.2.2.2.1, z25.2.2.2.2)
  else
    (fX6_countOf s_pageMany s_many s_late s_armNow s_barNow s_skips s_hallsRead s_rows s_sounds s_clapped z25.2.2.2.1 z25.2.2.2.2 z25.2.1 s_turnedMany s_recordMany s_beganMany z25.1).bind fun u27 =>
      (fX6_say z25.2.2.1 (Int32.toInt64 u27.1)).bind fun u28 =>
      rc25 ((z25.1 + 1), u27.2.1, u28, u27.2.2.1, u27.2.2.2)
def fX6_digest (s_page : (Nat → Int32)) (s_pageMany : Int32) (s_many : Int32) (s_late : Int32) (s_armNow : Int32) (s_barNow : Int32) (s_skips : Int32) (s_hallsRead : Int32) (s_rows : (Nat → Int32)) (s_sounds : (Nat → Int32)) (s_clapped : (Nat → Int32)) (s_now : (Nat → Int32)) (s_nowLong : (Nat → Int32)) (s_ahead : (Nat → Int32)) (s_nowArm : Int32) (s_turnedMany : Int32) (s_recordMany : Int32) (s_beganMany : Int32) : Option (Int64 × Int32 × Int64 × (Nat → Int32) × (Nat → Int32) × (Nat → Int32)) :=
  (kIter (fX6_digest_L1 s_many s_late s_armNow s_rows s_sounds s_clapped) 300 (0, (773 : Int64))).bind fun u2 =>
    (fX6_lacks s_many).bind fun u11 =>
    (if u11 = (0 : Int32) then
    (fX6_restOf s_many s_armNow s_rows s_sounds s_clapped s_now s_nowLong s_ahead).bind fun u13 =>
      (fX6_say u2.2 (Int32.toInt64 u13.1)).bind fun u14 =>
      (fX6_outcomeOf s_many s_armNow s_rows s_sounds s_clapped u13.2.2.1 u13.2.2.2.1 u13.2.2.2.2 4).bind fun u15 =>
      (fX6_say u14 (Int32.toInt64 u15.1)).bind fun u16 =>
      (fX6_trickOf s_many s_armNow s_rows s_sounds s_clapped u15.2.2.1 u15.2.2.2.1 u15.2.2.2.2 4 0).bind fun u17 =>
      (fX6_say u16 (Int32.toInt64 u17.1)).bind fun u18 =>
      (fX6_trickOf s_many s_armNow s_rows s_sounds s_clapped u17.2.2.1 u17.2.2.2.1 u17.2.2.2.2 4 1).bind fun u19 =>
      (fX6_say u18 (Int32.toInt64 u19.1)).bind fun u20 =>
      some (u19.2.1, u20, u19.2.2.1, u19.2.2.2.1, u19.2.2.2.2)
  else
    some (s_nowArm, u2.2, s_now, s_nowLong, s_ahead)).bind fun u12 =>
    (kIter (fX6_digest_L4 s_page s_pageMany) 300 (0, u12.2.1)).bind fun u22 =>
    (kIter (fX6_digest_L5 s_pageMany s_many s_late s_armNow s_barNow s_skips s_hallsRead s_rows s_sounds s_clapped s_turnedMany s_recordMany s_beganMany) 300 (0, u12.1, u22.2, u12.2.2.1, u12.2.2.2.1)).bind fun u26 =>
    some (u26.2.2.1, u26.2.1, u26.2.2.1, u26.2.2.2.1, u26.2.2.2.2, u12.2.2.2.2)
