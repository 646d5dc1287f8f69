/-- a character of a row of bytes -/
def dv_ch (x : Int32) : Int := (((x &&& 255).toUInt32 % 65536).toInt32).toInt
noncomputable def f_J6_bitCount_0f7a4 (V : dV) (p1 : Int) : dP :=
  dv_b (dv_ushr (p1) (1)) fun x1 =>
  dv_b (dv_and (x1) (1431655765)) fun x2 =>
  dv_b (dv_sub (p1) (x2)) fun x3 =>
  dv_b (dv_and (x3) (858993459)) fun x4 =>
  dv_b (dv_ushr (x3) (2)) fun x5 =>
  dv_b (dv_and (x5) (858993459)) fun x6 =>
  dv_b (dv_add (x4) (x6)) fun x7 =>
  dv_b (dv_ushr (x7) (4)) fun x8 =>
  dv_b (dv_add (x7) (x8)) fun x9 =>
  dv_b (dv_and (x9) (252645135)) fun x10 =>
  dv_b (dv_ushr (x10) (8)) fun x11 =>
  dv_b (dv_add (x10) (x11)) fun x12 =>
  dv_b (dv_ushr (x12) (16)) fun x13 =>
  dv_b (dv_add (x12) (x13)) fun x14 =>
  dv_b (dv_and (x14) (63)) fun x15 =>
  (x15, ())

noncomputable def f_J7_fill_53178_Frows_5c (V : dV) (x1 o1 p2 j5_2 : Int) : Sum (dV × Int × Int × Int × Int) (dR) :=
  if x1 ≤ j5_2 then (
  Sum.inr ((V, 0))
  ) else (
  dv_b (dv_u V o1 6 (j5_2) (p2)) fun V13 =>
  dv_b (j5_2 + 1) fun x2 =>
  Sum.inl (V13, x1, o1, p2, x2)
  )
noncomputable def f_J7_fill_53178_Frows_5b (s : (dV × Int × Int × Int × Int)) : Sum (dV × Int × Int × Int × Int) (dR) := f_J7_fill_53178_Frows_5c (s.1) (s.2.1) (s.2.2.1) (s.2.2.2.1) (s.2.2.2.2)

theorem f_J7_fill_53178_Frows_5e (V : dV) (x1 o1 p2 j5_2 : Int) : f_J7_fill_53178_Frows_5b (V, x1, o1, p2, j5_2) = f_J7_fill_53178_Frows_5c V x1 o1 p2 j5_2 := rfl

noncomputable def f_J7_fill_53178_Frows (V : dV) (o1 p2 : Int) : dR :=
  dv_b (12) fun x1 =>
  dv_lp (f_J7_fill_53178_Frows_5b) (V, x1, o1, p2, 0)

noncomputable def f_X1_has (V : dV) (a0 p1 : Int) : dP :=
  if p1 < 0 then (
  (0, ())
  ) else (
  dv_b (V a0 7 0) fun zz1 =>
  if zz1 ≤ p1 then (
  (0, ())
  ) else (
  (1, ())
  )
  )

noncomputable def f_X1_isLaid (V : dV) (a0 p1 : Int) : dP :=
  dv_b2 (f_X1_has V (a0) (p1)) fun x1 _ =>
  if x1 = 0 then (
  (0, ())
  ) else (
  dv_b (V a0 3 (p1)) fun x3 =>
  if x3 = (-1) then (
  (0, ())
  ) else (
  (1, ())
  )
  )

noncomputable def f_X1_isReady (V : dV) (a0 p1 : Int) : dP :=
  dv_b2 (f_X1_has V (a0) (p1)) fun x1 _ =>
  if x1 = 0 then (
  (0, ())
  ) else (
  dv_b (V a0 3 (p1)) fun x3 =>
  if x3 ≠ (-1) then (
  (0, ())
  ) else (
  dv_b (V a0 2 (p1)) fun x5 =>
  if x5 ≤ 0 then (
  (0, ())
  ) else (
  (1, ())
  )
  )
  )

noncomputable def f_X1_laidCarpets_26 (V : dV) (a0 j4_2 j4_1 s26_1 : Int) : Sum (dV × Int × Int × Int) (dP) :=
  dv_b (dv_add (j4_1) (s26_1)) fun x3 =>
  dv_b (j4_2 + 1) fun x4 =>
  Sum.inl (V, a0, x3, x4)

noncomputable def f_X1_laidCarpets_4c (V : dV) (a0 j4_1 j4_2 : Int) : Sum (dV × Int × Int × Int) (dP) :=
  dv_b (V a0 7 0) fun zz1 =>
  if zz1 ≤ j4_2 then (
  Sum.inr ((j4_1, ()))
  ) else (
  dv_b2 (f_X1_isLaid V (a0) (j4_2)) fun x2 _ =>
  if x2 = 0 then (
  f_X1_laidCarpets_26 (V) (a0) (j4_2) (j4_1) (0)
  ) else (
  f_X1_laidCarpets_26 (V) (a0) (j4_2) (j4_1) (1)
  )
  )
noncomputable def f_X1_laidCarpets_4b (s : (dV × Int × Int × Int)) : Sum (dV × Int × Int × Int) (dP) := f_X1_laidCarpets_4c (s.1) (s.2.1) (s.2.2.1) (s.2.2.2)

theorem f_X1_laidCarpets_4e (V : dV) (a0 j4_1 j4_2 : Int) : f_X1_laidCarpets_4b (V, a0, j4_1, j4_2) = f_X1_laidCarpets_4c V a0 j4_1 j4_2 := rfl

noncomputable def f_X1_laidCarpets (V : dV) (a0 : Int) : dP :=
  dv_lp (f_X1_laidCarpets_4b) (V, a0, 0, 0)

noncomputable def f_X1_rags_27 (V : dV) (a0 j4_2 j4_1 s27_1 : Int) : Sum (dV × Int × Int × Int) (dP) :=
  dv_b (dv_add (j4_1) (s27_1)) fun x4 =>
  dv_b (j4_2 + 1) fun x5 =>
  Sum.inl (V, a0, x4, x5)

noncomputable def f_X1_rags_4c (V : dV) (a0 j4_1 j4_2 : Int) : Sum (dV × Int × Int × Int) (dP) :=
  dv_b (V a0 7 0) fun zz1 =>
  if zz1 ≤ j4_2 then (
  Sum.inr ((j4_1, ()))
  ) else (
  dv_b (V a0 2 (j4_2)) fun x3 =>
  if x3 ≠ 0 then (
  f_X1_rags_27 (V) (a0) (j4_2) (j4_1) (0)
  ) else (
  f_X1_rags_27 (V) (a0) (j4_2) (j4_1) (1)
  )
  )
noncomputable def f_X1_rags_4b (s : (dV × Int × Int × Int)) : Sum (dV × Int × Int × Int) (dP) := f_X1_rags_4c (s.1) (s.2.1) (s.2.2.1) (s.2.2.2)

theorem f_X1_rags_4e (V : dV) (a0 j4_1 j4_2 : Int) : f_X1_rags_4b (V, a0, j4_1, j4_2) = f_X1_rags_4c V a0 j4_1 j4_2 := rfl

noncomputable def f_X1_rags (V : dV) (a0 : Int) : dP :=
  dv_lp (f_X1_rags_4b) (V, a0, 0, 0)

noncomputable def f_X1_areaWithoutRags_39 (V : dV) (a0 j4_2 j4_1 s39_1 : Int) : Sum (dV × Int × Int × Int) (dP) :=
  dv_b (dv_add (j4_1) (s39_1)) fun x4 =>
  dv_b (j4_2 + 1) fun x5 =>
  Sum.inl (V, a0, x4, x5)

noncomputable def f_X1_areaWithoutRags_4c (V : dV) (a0 j4_1 j4_2 : Int) : Sum (dV × Int × Int × Int) (dP) :=
  dv_b (V a0 7 0) fun zz1 =>
  if zz1 ≤ j4_2 then (
  Sum.inr ((j4_1, ()))
  ) else (
  dv_b (V a0 2 (j4_2)) fun x3 =>
  if x3 ≤ 0 then (
  f_X1_areaWithoutRags_39 (V) (a0) (j4_2) (j4_1) (0)
  ) else (
  dv_b (V a0 0 (j4_2)) fun x7 =>
  dv_b (V a0 0 (j4_2)) fun x8 =>
  dv_b (x7 * x8) fun x9 =>
  f_X1_areaWithoutRags_39 (V) (a0) (j4_2) (j4_1) (x9)
  )
  )
noncomputable def f_X1_areaWithoutRags_4b (s : (dV × Int × Int × Int)) : Sum (dV × Int × Int × Int) (dP) := f_X1_areaWithoutRags_4c (s.1) (s.2.1) (s.2.2.1) (s.2.2.2)

theorem f_X1_areaWithoutRags_4e (V : dV) (a0 j4_1 j4_2 : Int) : f_X1_areaWithoutRags_4b (V, a0, j4_1, j4_2) = f_X1_areaWithoutRags_4c V a0 j4_1 j4_2 := rfl

noncomputable def f_X1_areaWithoutRags (V : dV) (a0 : Int) : dP :=
  dv_lp (f_X1_areaWithoutRags_4b) (V, a0, 0, 0)

noncomputable def f_X1_bareCells_46 (V : dV) (a0 j12_2 j12_1 s46_1 : Int) : Sum (dV × Int × Int × Int) (dP) :=
  dv_b (dv_sub (j12_1) (s46_1)) fun x7 =>
  dv_b (j12_2 + 1) fun x8 =>
  Sum.inl (V, a0, x7, x8)

noncomputable def f_X1_bareCells_12c (V : dV) (a0 j12_1 j12_2 : Int) : Sum (dV × Int × Int × Int) (dP) :=
  dv_b (V a0 7 0) fun zz3 =>
  if zz3 ≤ j12_2 then (
  Sum.inr ((j12_1, ()))
  ) else (
  dv_b2 (f_X1_isLaid V (a0) (j12_2)) fun x6 _ =>
  if x6 = 0 then (
  f_X1_bareCells_46 (V) (a0) (j12_2) (j12_1) (0)
  ) else (
  dv_b (V a0 0 (j12_2)) fun x10 =>
  dv_b (V a0 0 (j12_2)) fun x11 =>
  dv_b (x10 * x11) fun x12 =>
  f_X1_bareCells_46 (V) (a0) (j12_2) (j12_1) (x12)
  )
  )
noncomputable def f_X1_bareCells_12b (s : (dV × Int × Int × Int)) : Sum (dV × Int × Int × Int) (dP) := f_X1_bareCells_12c (s.1) (s.2.1) (s.2.2.1) (s.2.2.2)

theorem f_X1_bareCells_12e (V : dV) (a0 j12_1 j12_2 : Int) : f_X1_bareCells_12b (V, a0, j12_1, j12_2) = f_X1_bareCells_12c V a0 j12_1 j12_2 := rfl

noncomputable def f_X1_bareCells (V : dV) (a0 : Int) : dP :=
  dv_b (V a0 8 0) fun zz1 =>
  dv_b (V a0 9 0) fun zz2 =>
  dv_b (zz1 * zz2) fun x3 =>
  dv_lp (f_X1_bareCells_12b) (V, a0, x3, 0)

noncomputable def f_X1_carpetOn_74 (V : dV) (a0 p1 p2 j2_3 : Int) : Sum (dV × Int × Int × Int × Int) (dP) :=
  dv_b (j2_3 + 1) fun x3 =>
  Sum.inl (V, a0, p1, p2, x3)

noncomputable def f_X1_carpetOn_2c (V : dV) (a0 p1 p2 j2_3 : Int) : Sum (dV × Int × Int × Int × Int) (dP) :=
  dv_b (V a0 7 0) fun zz1 =>
  if zz1 ≤ j2_3 then (
  Sum.inr (((-1), ()))
  ) else (
  dv_b2 (f_X1_isLaid V (a0) (j2_3)) fun x2 _ =>
  if x2 = 0 then (
  f_X1_carpetOn_74 (V) (a0) (p1) (p2) (j2_3)
  ) else (
  dv_b (V a0 3 (j2_3)) fun x5 =>
  if p1 < x5 then (
  f_X1_carpetOn_74 (V) (a0) (p1) (p2) (j2_3)
  ) else (
  dv_b (V a0 3 (j2_3)) fun x6 =>
  dv_b (V a0 0 (j2_3)) fun x8 =>
  dv_b (dv_add (x6) (x8)) fun x9 =>
  if x9 ≤ p1 then (
  f_X1_carpetOn_74 (V) (a0) (p1) (p2) (j2_3)
  ) else (
  dv_b (V a0 4 (j2_3)) fun x11 =>
  if p2 < x11 then (
  f_X1_carpetOn_74 (V) (a0) (p1) (p2) (j2_3)
  ) else (
  dv_b (V a0 4 (j2_3)) fun x12 =>
  dv_b (V a0 0 (j2_3)) fun x13 =>
  dv_b (dv_add (x12) (x13)) fun x14 =>
  if x14 ≤ p2 then (
  f_X1_carpetOn_74 (V) (a0) (p1) (p2) (j2_3)
  ) else (
  Sum.inr ((j2_3, ()))
  )
  )
  )
  )
  )
  )
noncomputable def f_X1_carpetOn_2b (s : (dV × Int × Int × Int × Int)) : Sum (dV × Int × Int × Int × Int) (dP) := f_X1_carpetOn_2c (s.1) (s.2.1) (s.2.2.1) (s.2.2.2.1) (s.2.2.2.2)

theorem f_X1_carpetOn_2e (V : dV) (a0 p1 p2 j2_3 : Int) : f_X1_carpetOn_2b (V, a0, p1, p2, j2_3) = f_X1_carpetOn_2c V a0 p1 p2 j2_3 := rfl

noncomputable def f_X1_carpetOn (V : dV) (a0 p1 p2 : Int) : dP :=
  dv_lp (f_X1_carpetOn_2b) (V, a0, p1, p2, 0)

noncomputable def f_X1_hasPlaceFor_145 (V : dV) (a0 p1 p2 p3 j51_4 : Int) : Sum (dV × Int × Int × Int × Int × Int) (dP) :=
  dv_b (j51_4 + 1) fun x11 =>
  Sum.inl (V, a0, p1, p2, p3, x11)

noncomputable def f_X1_hasPlaceFor_51c (V : dV) (a0 p1 p2 p3 j51_4 : Int) : Sum (dV × Int × Int × Int × Int × Int) (dP) :=
  dv_b (V a0 7 0) fun zz3 =>
  if zz3 ≤ j51_4 then (
  Sum.inr ((1, ()))
  ) else (
  dv_b2 (f_X1_isLaid V (a0) (j51_4)) fun x10 _ =>
  if x10 = 0 then (
  f_X1_hasPlaceFor_145 (V) (a0) (p1) (p2) (p3) (j51_4)
  ) else (
  dv_b (V a0 3 (j51_4)) fun x13 =>
  dv_b (V a0 0 (j51_4)) fun x14 =>
  dv_b (dv_add (x13) (x14)) fun x15 =>
  if x15 ≤ p2 then (
  f_X1_hasPlaceFor_145 (V) (a0) (p1) (p2) (p3) (j51_4)
  ) else (
  dv_b (V a0 3 (j51_4)) fun x16 =>
  dv_b (V a0 0 (p1)) fun x17 =>
  dv_b (p2 + x17) fun x18 =>
  if x18 ≤ x16 then (
  f_X1_hasPlaceFor_145 (V) (a0) (p1) (p2) (p3) (j51_4)
  ) else (
  dv_b (V a0 4 (j51_4)) fun x20 =>
  dv_b (V a0 0 (j51_4)) fun x21 =>
  dv_b (dv_add (x20) (x21)) fun x22 =>
  if x22 ≤ p3 then (
  f_X1_hasPlaceFor_145 (V) (a0) (p1) (p2) (p3) (j51_4)
  ) else (
  dv_b (V a0 4 (j51_4)) fun x23 =>
  dv_b (V a0 0 (p1)) fun x24 =>
  dv_b (p3 + x24) fun x25 =>
  if x25 ≤ x23 then (
  f_X1_hasPlaceFor_145 (V) (a0) (p1) (p2) (p3) (j51_4)
  ) else (
  Sum.inr ((0, ()))
  )
  )
  )
  )
  )
  )
noncomputable def f_X1_hasPlaceFor_51b (s : (dV × Int × Int × Int × Int × Int)) : Sum (dV × Int × Int × Int × Int × Int) (dP) := f_X1_hasPlaceFor_51c (s.1) (s.2.1) (s.2.2.1) (s.2.2.2.1) (s.2.2.2.2.1) (s.2.2.2.2.2)

theorem f_X1_hasPlaceFor_51e (V : dV) (a0 p1 p2 p3 j51_4 : Int) : f_X1_hasPlaceFor_51b (V, a0, p1, p2, p3, j51_4) = f_X1_hasPlaceFor_51c V a0 p1 p2 p3 j51_4 := rfl

noncomputable def f_X1_hasPlaceFor (V : dV) (a0 p1 p2 p3 : Int) : dP :=
  dv_b2 (f_X1_isReady V (a0) (p1)) fun x1 _ =>
  if x1 = 0 then (
  (0, ())
  ) else (
  if p2 < 0 then (
  (0, ())
  ) else (
  if p3 < 0 then (
  (0, ())
  ) else (
  dv_b (V a0 8 0) fun zz1 =>
  dv_b (V a0 0 (p1)) fun x4 =>
  dv_b (zz1 - x4) fun x5 =>
  if x5 < p2 then (
  (0, ())
  ) else (
  dv_b (V a0 9 0) fun zz2 =>
  dv_b (V a0 0 (p1)) fun x7 =>
  dv_b (zz2 - x7) fun x8 =>
  if p3 ≤ x8 then (
  dv_lp (f_X1_hasPlaceFor_51b) (V, a0, p1, p2, p3, 0)
  ) else (
  (0, ())
  )
  )
  )
  )
  )

noncomputable def f_X1_threeMoreMeetAt_152 (V : dV) (a0 p1 p2 j5_4 j152_3 : Int) : Sum (dV × Int × Int × Int × Int × Int) (dP) :=
  dv_b (j5_4 + 1) fun x3 =>
  Sum.inl (V, a0, p1, p2, j152_3, x3)

noncomputable def f_X1_threeMoreMeetAt_150 (V : dV) (a0 p1 p2 j5_4 j5_3 s150_1 : Int) : Sum (dV × Int × Int × Int × Int × Int) (dP) :=
  dv_b (dv_add (j5_3) (s150_1)) fun x15 =>
  f_X1_threeMoreMeetAt_152 (V) (a0) (p1) (p2) (j5_4) (x15)

noncomputable def f_X1_threeMoreMeetAt_145 (V : dV) (a0 p1 p2 j5_4 j5_3 : Int) : Sum (dV × Int × Int × Int × Int × Int) (dP) :=
  f_X1_threeMoreMeetAt_150 (V) (a0) (p1) (p2) (j5_4) (j5_3) (1)

noncomputable def f_X1_threeMoreMeetAt_149 (V : dV) (a0 p1 p2 j5_4 j5_3 : Int) : Sum (dV × Int × Int × Int × Int × Int) (dP) :=
  f_X1_threeMoreMeetAt_150 (V) (a0) (p1) (p2) (j5_4) (j5_3) (0)

noncomputable def f_X1_threeMoreMeetAt_135 (V : dV) (s86_0 s68_0 a0 p1 p2 j5_4 j5_3 : Int) : Sum (dV × Int × Int × Int × Int × Int) (dP) :=
  if s68_0 = 0 then (
  f_X1_threeMoreMeetAt_149 (V) (a0) (p1) (p2) (j5_4) (j5_3)
  ) else (
  if s86_0 = 0 then (
  f_X1_threeMoreMeetAt_149 (V) (a0) (p1) (p2) (j5_4) (j5_3)
  ) else (
  f_X1_threeMoreMeetAt_145 (V) (a0) (p1) (p2) (j5_4) (j5_3)
  )
  )

noncomputable def f_X1_threeMoreMeetAt_125 (V : dV) (s112_0 s86_0 s68_0 s42_0 a0 p1 p2 j5_4 j5_3 : Int) : Sum (dV × Int × Int × Int × Int × Int) (dP) :=
  if s42_0 = 0 then (
  f_X1_threeMoreMeetAt_135 (V) (s86_0) (s68_0) (a0) (p1) (p2) (j5_4) (j5_3)
  ) else (
  if s112_0 ≠ 0 then (
  f_X1_threeMoreMeetAt_145 (V) (a0) (p1) (p2) (j5_4) (j5_3)
  ) else (
  f_X1_threeMoreMeetAt_135 (V) (s86_0) (s68_0) (a0) (p1) (p2) (j5_4) (j5_3)
  )
  )

noncomputable def f_X1_threeMoreMeetAt_112 (V : dV) (s86_0 s68_0 s42_0 a0 p1 p2 j5_3 j5_4 s112_0 : Int) : Sum (dV × Int × Int × Int × Int × Int) (dP) :=
  if s42_0 = 0 then (
  f_X1_threeMoreMeetAt_125 (V) (s112_0) (s86_0) (s68_0) (s42_0) (a0) (p1) (p2) (j5_4) (j5_3)
  ) else (
  if s86_0 ≠ 0 then (
  f_X1_threeMoreMeetAt_145 (V) (a0) (p1) (p2) (j5_4) (j5_3)
  ) else (
  f_X1_threeMoreMeetAt_125 (V) (s112_0) (s86_0) (s68_0) (s42_0) (a0) (p1) (p2) (j5_4) (j5_3)
  )
  )

noncomputable def f_X1_threeMoreMeetAt_86 (V : dV) (s68_0 s42_0 a0 p1 p2 j5_3 j5_4 s86_0 : Int) : Sum (dV × Int × Int × Int × Int × Int) (dP) :=
  dv_b (V a0 4 (j5_4)) fun x12 =>
  dv_b (V a0 0 (j5_4)) fun x13 =>
  dv_b (dv_add (x12) (x13)) fun x14 =>
  if x14 ≠ p2 then (
  f_X1_threeMoreMeetAt_112 (V) (s86_0) (s68_0) (s42_0) (a0) (p1) (p2) (j5_3) (j5_4) (0)
  ) else (
  f_X1_threeMoreMeetAt_112 (V) (s86_0) (s68_0) (s42_0) (a0) (p1) (p2) (j5_3) (j5_4) (1)
  )

noncomputable def f_X1_threeMoreMeetAt_68 (V : dV) (s42_0 a0 p1 p2 j5_3 j5_4 s68_0 : Int) : Sum (dV × Int × Int × Int × Int × Int) (dP) :=
  dv_b (V a0 4 (j5_4)) fun x11 =>
  if x11 ≠ p2 then (
  f_X1_threeMoreMeetAt_86 (V) (s68_0) (s42_0) (a0) (p1) (p2) (j5_3) (j5_4) (0)
  ) else (
  f_X1_threeMoreMeetAt_86 (V) (s68_0) (s42_0) (a0) (p1) (p2) (j5_3) (j5_4) (1)
  )

noncomputable def f_X1_threeMoreMeetAt_42 (V : dV) (a0 p1 p2 j5_3 j5_4 s42_0 : Int) : Sum (dV × Int × Int × Int × Int × Int) (dP) :=
  dv_b (V a0 3 (j5_4)) fun x6 =>
  dv_b (V a0 0 (j5_4)) fun x8 =>
  dv_b (dv_add (x6) (x8)) fun x9 =>
  if x9 ≠ p1 then (
  f_X1_threeMoreMeetAt_68 (V) (s42_0) (a0) (p1) (p2) (j5_3) (j5_4) (0)
  ) else (
  f_X1_threeMoreMeetAt_68 (V) (s42_0) (a0) (p1) (p2) (j5_3) (j5_4) (1)
  )

noncomputable def f_X1_threeMoreMeetAt_5c (V : dV) (a0 p1 p2 j5_3 j5_4 : Int) : Sum (dV × Int × Int × Int × Int × Int) (dP) :=
  dv_b (V a0 7 0) fun zz1 =>
  if zz1 ≤ j5_4 then (
  if j5_3 ≠ 3 then (
  Sum.inr ((0, ()))
  ) else (
  Sum.inr ((1, ()))
  )
  ) else (
  dv_b2 (f_X1_isLaid V (a0) (j5_4)) fun x2 _ =>
  if x2 ≠ 0 then (
  dv_b (V a0 3 (j5_4)) fun x5 =>
  if x5 ≠ p1 then (
  f_X1_threeMoreMeetAt_42 (V) (a0) (p1) (p2) (j5_3) (j5_4) (0)
  ) else (
  f_X1_threeMoreMeetAt_42 (V) (a0) (p1) (p2) (j5_3) (j5_4) (1)
  )
  ) else (
  f_X1_threeMoreMeetAt_152 (V) (a0) (p1) (p2) (j5_4) (j5_3)
  )
  )
noncomputable def f_X1_threeMoreMeetAt_5b (s : (dV × Int × Int × Int × Int × Int)) : Sum (dV × Int × Int × Int × Int × Int) (dP) := f_X1_threeMoreMeetAt_5c (s.1) (s.2.1) (s.2.2.1) (s.2.2.2.1) (s.2.2.2.2.1) (s.2.2.2.2.2)

theorem f_X1_threeMoreMeetAt_5e (V : dV) (a0 p1 p2 j5_3 j5_4 : Int) : f_X1_threeMoreMeetAt_5b (V, a0, p1, p2, j5_3, j5_4) = f_X1_threeMoreMeetAt_5c V a0 p1 p2 j5_3 j5_4 := rfl

noncomputable def f_X1_threeMoreMeetAt (V : dV) (a0 p1 p2 : Int) : dP :=
  dv_lp (f_X1_threeMoreMeetAt_5b) (V, a0, p1, p2, 0, 0)

noncomputable def f_X1_crossPoints_56 (V : dV) (a0 j4_2 j56_1 : Int) : Sum (dV × Int × Int × Int) (dP) :=
  dv_b (j4_2 + 1) fun x3 =>
  Sum.inl (V, a0, j56_1, x3)

noncomputable def f_X1_crossPoints_4c (V : dV) (a0 j4_1 j4_2 : Int) : Sum (dV × Int × Int × Int) (dP) :=
  dv_b (V a0 7 0) fun zz1 =>
  if zz1 ≤ j4_2 then (
  Sum.inr ((j4_1, ()))
  ) else (
  dv_b2 (f_X1_isLaid V (a0) (j4_2)) fun x2 _ =>
  if x2 = 0 then (
  f_X1_crossPoints_56 (V) (a0) (j4_2) (j4_1)
  ) else (
  dv_b (V a0 3 (j4_2)) fun x5 =>
  dv_b (V a0 0 (j4_2)) fun x7 =>
  dv_b (dv_add (x5) (x7)) fun x8 =>
  dv_b (V a0 4 (j4_2)) fun x10 =>
  dv_b (V a0 0 (j4_2)) fun x11 =>
  dv_b (dv_add (x10) (x11)) fun x12 =>
  dv_b2 (f_X1_threeMoreMeetAt V (a0) (x8) (x12)) fun x13 _ =>
  if x13 = 0 then (
  f_X1_crossPoints_56 (V) (a0) (j4_2) (j4_1)
  ) else (
  dv_b (dv_add (j4_1) (1)) fun x14 =>
  f_X1_crossPoints_56 (V) (a0) (j4_2) (x14)
  )
  )
  )
noncomputable def f_X1_crossPoints_4b (s : (dV × Int × Int × Int)) : Sum (dV × Int × Int × Int) (dP) := f_X1_crossPoints_4c (s.1) (s.2.1) (s.2.2.1) (s.2.2.2)

theorem f_X1_crossPoints_4e (V : dV) (a0 j4_1 j4_2 : Int) : f_X1_crossPoints_4b (V, a0, j4_1, j4_2) = f_X1_crossPoints_4c V a0 j4_1 j4_2 := rfl

noncomputable def f_X1_crossPoints (V : dV) (a0 : Int) : dP :=
  dv_lp (f_X1_crossPoints_4b) (V, a0, 0, 0)

noncomputable def f_X1_sidesAtLine_60 (V : dV) (a0 p1 p2 j5_4 j60_3 : Int) : Sum (dV × Int × Int × Int × Int × Int) (dP) :=
  dv_b (j5_4 + 1) fun x3 =>
  Sum.inl (V, a0, p1, p2, j60_3, x3)

noncomputable def f_X1_sidesAtLine_45 (V : dV) (a0 p1 p2 j5_3 j5_4 x5 s45_1 : Int) : Sum (dV × Int × Int × Int × Int × Int) (dP) :=
  dv_b (dv_add (x5) (s45_1)) fun x6 =>
  if x6 ≠ p1 then (
  f_X1_sidesAtLine_60 (V) (a0) (p1) (p2) (j5_4) (j5_3)
  ) else (
  dv_b (V a0 0 (j5_4)) fun x8 =>
  dv_b (dv_add (j5_3) (x8)) fun x9 =>
  f_X1_sidesAtLine_60 (V) (a0) (p1) (p2) (j5_4) (x9)
  )

noncomputable def f_X1_sidesAtLine_5c (V : dV) (a0 p1 p2 j5_3 j5_4 : Int) : Sum (dV × Int × Int × Int × Int × Int) (dP) :=
  dv_b (V a0 7 0) fun zz1 =>
  if zz1 ≤ j5_4 then (
  Sum.inr ((j5_3, ()))
  ) else (
  dv_b2 (f_X1_isLaid V (a0) (j5_4)) fun x2 _ =>
  if x2 = 0 then (
  f_X1_sidesAtLine_60 (V) (a0) (p1) (p2) (j5_4) (j5_3)
  ) else (
  dv_b (V a0 4 (j5_4)) fun x5 =>
  if p2 = 0 then (
  f_X1_sidesAtLine_45 (V) (a0) (p1) (p2) (j5_3) (j5_4) (x5) (0)
  ) else (
  dv_b (V a0 0 (j5_4)) fun x11 =>
  f_X1_sidesAtLine_45 (V) (a0) (p1) (p2) (j5_3) (j5_4) (x5) (x11)
  )
  )
  )
noncomputable def f_X1_sidesAtLine_5b (s : (dV × Int × Int × Int × Int × Int)) : Sum (dV × Int × Int × Int × Int × Int) (dP) := f_X1_sidesAtLine_5c (s.1) (s.2.1) (s.2.2.1) (s.2.2.2.1) (s.2.2.2.2.1) (s.2.2.2.2.2)

theorem f_X1_sidesAtLine_5e (V : dV) (a0 p1 p2 j5_3 j5_4 : Int) : f_X1_sidesAtLine_5b (V, a0, p1, p2, j5_3, j5_4) = f_X1_sidesAtLine_5c V a0 p1 p2 j5_3 j5_4 := rfl

noncomputable def f_X1_sidesAtLine (V : dV) (a0 p1 p2 : Int) : dP :=
  dv_lp (f_X1_sidesAtLine_5b) (V, a0, p1, p2, 0, 0)

noncomputable def f_X1_twosOfOneSide_61 (V : dV) (a0 j4_2 j16_3 j16_1 s61_1 : Int) : Sum (dV × Int × Int × Int × Int) (Sum (dV × Int × Int × Int) (dP)) :=
  dv_b (dv_add (j16_1) (s61_1)) fun x5 =>
  dv_b (j16_3 + 1) fun x6 =>
  Sum.inl (V, a0, j4_2, x5, x6)

noncomputable def f_X1_twosOfOneSide_60 (V : dV) (a0 j4_2 j16_3 j16_1 : Int) : Sum (dV × Int × Int × Int × Int) (Sum (dV × Int × Int × Int) (dP)) :=
  f_X1_twosOfOneSide_61 (V) (a0) (j4_2) (j16_3) (j16_1) (0)

noncomputable def f_X1_twosOfOneSide_16c (V : dV) (a0 j4_2 j16_1 j16_3 : Int) : Sum (dV × Int × Int × Int × Int) (Sum (dV × Int × Int × Int) (dP)) :=
  dv_b (V a0 7 0) fun zz2 =>
  if zz2 ≤ j16_3 then (
  dv_b (j4_2 + 1) fun x3 =>
  Sum.inr (Sum.inl (V, a0, j16_1, x3))
  ) else (
  dv_b2 (f_X1_isLaid V (a0) (j4_2)) fun x4 _ =>
  if x4 = 0 then (
  f_X1_twosOfOneSide_60 (V) (a0) (j4_2) (j16_3) (j16_1)
  ) else (
  dv_b2 (f_X1_isLaid V (a0) (j16_3)) fun x7 _ =>
  if x7 = 0 then (
  f_X1_twosOfOneSide_60 (V) (a0) (j4_2) (j16_3) (j16_1)
  ) else (
  dv_b (V a0 0 (j4_2)) fun x9 =>
  dv_b (V a0 0 (j16_3)) fun x10 =>
  if x9 ≠ x10 then (
  f_X1_twosOfOneSide_60 (V) (a0) (j4_2) (j16_3) (j16_1)
  ) else (
  f_X1_twosOfOneSide_61 (V) (a0) (j4_2) (j16_3) (j16_1) (1)
  )
  )
  )
  )
noncomputable def f_X1_twosOfOneSide_16b (s : (dV × Int × Int × Int × Int)) : Sum (dV × Int × Int × Int × Int) (Sum (dV × Int × Int × Int) (dP)) := f_X1_twosOfOneSide_16c (s.1) (s.2.1) (s.2.2.1) (s.2.2.2.1) (s.2.2.2.2)

theorem f_X1_twosOfOneSide_16e (V : dV) (a0 j4_2 j16_1 j16_3 : Int) : f_X1_twosOfOneSide_16b (V, a0, j4_2, j16_1, j16_3) = f_X1_twosOfOneSide_16c V a0 j4_2 j16_1 j16_3 := rfl

noncomputable def f_X1_twosOfOneSide_4c (V : dV) (a0 j4_1 j4_2 : Int) : Sum (dV × Int × Int × Int) (dP) :=
  dv_b (V a0 7 0) fun zz1 =>
  if zz1 ≤ j4_2 then (
  Sum.inr ((j4_1, ()))
  ) else (
  dv_b (j4_2 + 1) fun x2 =>
  dv_lp (f_X1_twosOfOneSide_16b) (V, a0, j4_2, j4_1, x2)
  )
noncomputable def f_X1_twosOfOneSide_4b (s : (dV × Int × Int × Int)) : Sum (dV × Int × Int × Int) (dP) := f_X1_twosOfOneSide_4c (s.1) (s.2.1) (s.2.2.1) (s.2.2.2)

theorem f_X1_twosOfOneSide_4e (V : dV) (a0 j4_1 j4_2 : Int) : f_X1_twosOfOneSide_4b (V, a0, j4_1, j4_2) = f_X1_twosOfOneSide_4c V a0 j4_1 j4_2 := rfl

noncomputable def f_X1_twosOfOneSide (V : dV) (a0 : Int) : dP :=
  dv_lp (f_X1_twosOfOneSide_4b) (V, a0, 0, 0)

noncomputable def f_X1_isInnerHall_138 (V : dV) (a0 p1 j18_7 j138_2 j138_3 j138_4 j138_5 j138_6 : Int) : Sum (dV × Int × Int × Int × Int × Int × Int × Int × Int) (dP) :=
  dv_b (j18_7 + 1) fun x11 =>
  Sum.inl (V, a0, p1, j138_2, j138_3, j138_4, j138_5, j138_6, x11)

noncomputable def f_X1_isInnerHall_18c (V : dV) (a0 p1 j18_2 j18_3 j18_4 j18_5 j18_6 j18_7 : Int) : Sum (dV × Int × Int × Int × Int × Int × Int × Int × Int) (dP) :=
  dv_b (V a0 7 0) fun zz1 =>
  if zz1 ≤ j18_7 then (
  dv_b (dv_sub (j18_3) (j18_2)) fun x2 =>
  dv_b (dv_sub (j18_5) (j18_4)) fun x3 =>
  dv_b (dv_mul (x2) (x3)) fun x4 =>
  if x4 ≠ j18_6 then (
  Sum.inr ((0, ()))
  ) else (
  dv_b (V a0 8 0) fun zz2 =>
  dv_b (V a0 9 0) fun zz3 =>
  dv_b (zz2 * zz3) fun x7 =>
  if x7 ≤ j18_6 then (
  Sum.inr ((0, ()))
  ) else (
  Sum.inr ((1, ()))
  )
  )
  ) else (
  dv_b (dv_shr (p1) (j18_7)) fun x9 =>
  dv_b (dv_and (x9) (1)) fun x10 =>
  if x10 ≠ 0 then (
  dv_b2 (f_X1_isLaid V (a0) (j18_7)) fun x12 _ =>
  if x12 ≠ 0 then (
  dv_b (V a0 3 (j18_7)) fun x14 =>
  dv_b (min (j18_2) (x14)) fun x15 =>
  dv_b (V a0 3 (j18_7)) fun x16 =>
  dv_b (V a0 0 (j18_7)) fun x18 =>
  dv_b (dv_add (x16) (x18)) fun x19 =>
  dv_b (max (j18_3) (x19)) fun x20 =>
  dv_b (V a0 4 (j18_7)) fun x22 =>
  dv_b (min (j18_4) (x22)) fun x23 =>
  dv_b (V a0 4 (j18_7)) fun x24 =>
  dv_b (V a0 0 (j18_7)) fun x25 =>
  dv_b (dv_add (x24) (x25)) fun x26 =>
  dv_b (max (j18_5) (x26)) fun x27 =>
  dv_b (V a0 0 (j18_7)) fun x28 =>
  dv_b (V a0 0 (j18_7)) fun x29 =>
  dv_b (x28 * x29) fun x30 =>
  dv_b (dv_add (j18_6) (x30)) fun x32 =>
  f_X1_isInnerHall_138 (V) (a0) (p1) (j18_7) (x15) (x20) (x23) (x27) (x32)
  ) else (
  Sum.inr ((0, ()))
  )
  ) else (
  f_X1_isInnerHall_138 (V) (a0) (p1) (j18_7) (j18_2) (j18_3) (j18_4) (j18_5) (j18_6)
  )
  )
noncomputable def f_X1_isInnerHall_18b (s : (dV × Int × Int × Int × Int × Int × Int × Int × Int)) : Sum (dV × Int × Int × Int × Int × Int × Int × Int × Int) (dP) := f_X1_isInnerHall_18c (s.1) (s.2.1) (s.2.2.1) (s.2.2.2.1) (s.2.2.2.2.1) (s.2.2.2.2.2.1) (s.2.2.2.2.2.2.1) (s.2.2.2.2.2.2.2.1) (s.2.2.2.2.2.2.2.2)

theorem f_X1_isInnerHall_18e (V : dV) (a0 p1 j18_2 j18_3 j18_4 j18_5 j18_6 j18_7 : Int) : f_X1_isInnerHall_18b (V, a0, p1, j18_2, j18_3, j18_4, j18_5, j18_6, j18_7) = f_X1_isInnerHall_18c V a0 p1 j18_2 j18_3 j18_4 j18_5 j18_6 j18_7 := rfl

noncomputable def f_X1_isInnerHall (V : dV) (a0 p1 : Int) : dP :=
  dv_lp (f_X1_isInnerHall_18b) (V, a0, p1, 12, 0, 12, 0, 0, 0)

noncomputable def f_X1_innerHalls_33 (V : dV) (a0 j4_2 j33_1 : Int) : Sum (dV × Int × Int × Int) (dP) :=
  dv_b (j4_2 + 1) fun x4 =>
  Sum.inl (V, a0, j33_1, x4)

noncomputable def f_X1_innerHalls_4c (V : dV) (a0 j4_1 j4_2 : Int) : Sum (dV × Int × Int × Int) (dP) :=
  dv_b (V a0 7 0) fun zz1 =>
  dv_b (dv_shl (1) (zz1)) fun x2 =>
  if x2 ≤ j4_2 then (
  Sum.inr ((j4_1, ()))
  ) else (
  dv_b2 (f_J6_bitCount_0f7a4 V (j4_2)) fun x3 _ =>
  if x3 < 2 then (
  f_X1_innerHalls_33 (V) (a0) (j4_2) (j4_1)
  ) else (
  dv_b2 (f_X1_isInnerHall V (a0) (j4_2)) fun x5 _ =>
  if x5 = 0 then (
  f_X1_innerHalls_33 (V) (a0) (j4_2) (j4_1)
  ) else (
  dv_b (dv_add (j4_1) (1)) fun x6 =>
  f_X1_innerHalls_33 (V) (a0) (j4_2) (x6)
  )
  )
  )
noncomputable def f_X1_innerHalls_4b (s : (dV × Int × Int × Int)) : Sum (dV × Int × Int × Int) (dP) := f_X1_innerHalls_4c (s.1) (s.2.1) (s.2.2.1) (s.2.2.2)

theorem f_X1_innerHalls_4e (V : dV) (a0 j4_1 j4_2 : Int) : f_X1_innerHalls_4b (V, a0, j4_1, j4_2) = f_X1_innerHalls_4c V a0 j4_1 j4_2 := rfl

noncomputable def f_X1_innerHalls (V : dV) (a0 : Int) : dP :=
  dv_lp (f_X1_innerHalls_4b) (V, a0, 0, 0)

noncomputable def f_X1_add (V : dV) (a0 p1 p2 p3 : Int) : dR :=
  if p1 < 1 then (
  (V, (-1))
  ) else (
  if 12 < p1 then (
  (V, (-1))
  ) else (
  if p2 < 0 then (
  (V, (-1))
  ) else (
  if 3 < p2 then (
  (V, (-1))
  ) else (
  if p3 < 0 then (
  (V, (-1))
  ) else (
  if p3 ≤ 9 then (
  dv_b (V a0 7 0) fun zz1 =>
  if zz1 < 9 then (
  dv_b (V a0 7 0) fun zz2 =>
  dv_b (dv_u V a0 0 (zz2) (p1)) fun V53 =>
  dv_b (V53 a0 7 0) fun zz3 =>
  dv_b (dv_u V53 a0 1 (zz3) (p2)) fun V63 =>
  dv_b (V63 a0 7 0) fun zz4 =>
  dv_b (dv_u V63 a0 2 (zz4) (p3)) fun V73 =>
  dv_b (V73 a0 7 0) fun zz5 =>
  dv_b (dv_u V73 a0 3 (zz5) ((-1))) fun V83 =>
  dv_b (V83 a0 7 0) fun zz6 =>
  dv_b (dv_u V83 a0 4 (zz6) ((-1))) fun V93 =>
  dv_b (V93 a0 7 0) fun zz7 =>
  dv_b (zz7 + 1) fun x12 =>
  dv_b (dv_u V93 a0 7 0 (x12)) fun V101 =>
  dv_b (V101 a0 7 0) fun zz8 =>
  dv_b (zz8 - 1) fun x14 =>
  (V101, x14)
  ) else (
  (V, (-5))
  )
  ) else (
  (V, (-1))
  )
  )
  )
  )
  )
  )

noncomputable def f_X1_rollUp (V : dV) (a0 p1 : Int) : dR :=
  dv_b2 (f_X1_has V (a0) (p1)) fun x1 _ =>
  if x1 = 0 then (
  (V, 0)
  ) else (
  dv_b (dv_u V a0 3 (p1) ((-1))) fun V14 =>
  dv_b (dv_u V14 a0 4 (p1) ((-1))) fun V21 =>
  (V21, 0)
  )

noncomputable def f_X1_emptyInto_2c (V : dV) (a0 p1 p2 j2_3 : Int) : Sum (dV × Int × Int × Int × Int) (dR) :=
  dv_b (V a0 7 0) fun zz1 =>
  if zz1 ≤ j2_3 then (
  dv_b (dv_u V a0 8 0 (p1)) fun V23 =>
  dv_b (dv_u V23 a0 9 0 (p2)) fun V28 =>
  Sum.inr ((V28, 0))
  ) else (
  dv_b2 (f_X1_rollUp V (a0) (j2_3)) fun V12 _ =>
  dv_b (j2_3 + 1) fun x5 =>
  Sum.inl (V12, a0, p1, p2, x5)
  )
noncomputable def f_X1_emptyInto_2b (s : (dV × Int × Int × Int × Int)) : Sum (dV × Int × Int × Int × Int) (dR) := f_X1_emptyInto_2c (s.1) (s.2.1) (s.2.2.1) (s.2.2.2.1) (s.2.2.2.2)

theorem f_X1_emptyInto_2e (V : dV) (a0 p1 p2 j2_3 : Int) : f_X1_emptyInto_2b (V, a0, p1, p2, j2_3) = f_X1_emptyInto_2c V a0 p1 p2 j2_3 := rfl

noncomputable def f_X1_emptyInto (V : dV) (a0 p1 p2 : Int) : dR :=
  dv_lp (f_X1_emptyInto_2b) (V, a0, p1, p2, 0)

noncomputable def f_X1_turnOver_47 (V : dV) (a0 j4_2 j47_1 : Int) : Sum (dV × Int × Int × Int) (dR) :=
  dv_b (j4_2 + 1) fun x4 =>
  Sum.inl (V, a0, j47_1, x4)

noncomputable def f_X1_turnOver_4c (V : dV) (a0 j4_1 j4_2 : Int) : Sum (dV × Int × Int × Int) (dR) :=
  dv_b (V a0 7 0) fun zz1 =>
  if zz1 ≤ j4_2 then (
  Sum.inr ((V, j4_1))
  ) else (
  dv_b2 (f_X1_isLaid V (a0) (j4_2)) fun x2 _ =>
  if x2 = 0 then (
  f_X1_turnOver_47 (V) (a0) (j4_2) (j4_1)
  ) else (
  dv_b (V a0 8 0) fun zz2 =>
  dv_b (V a0 3 (j4_2)) fun x7 =>
  dv_b (dv_sub (zz2) (x7)) fun x8 =>
  dv_b (V a0 0 (j4_2)) fun x10 =>
  dv_b (dv_sub (x8) (x10)) fun x11 =>
  dv_b (dv_u V a0 3 (j4_2) (x11)) fun V43 =>
  dv_b (dv_add (j4_1) (1)) fun x16 =>
  f_X1_turnOver_47 (V43) (a0) (j4_2) (x16)
  )
  )
noncomputable def f_X1_turnOver_4b (s : (dV × Int × Int × Int)) : Sum (dV × Int × Int × Int) (dR) := f_X1_turnOver_4c (s.1) (s.2.1) (s.2.2.1) (s.2.2.2)

theorem f_X1_turnOver_4e (V : dV) (a0 j4_1 j4_2 : Int) : f_X1_turnOver_4b (V, a0, j4_1, j4_2) = f_X1_turnOver_4c V a0 j4_1 j4_2 := rfl

noncomputable def f_X1_turnOver (V : dV) (a0 : Int) : dR :=
  dv_lp (f_X1_turnOver_4b) (V, a0, 0, 0)

noncomputable def f_X1_drawRows_93 (V : dV) (a0 j10_1 : Int) : Sum (dV × Int × Int) (dR) :=
  dv_b (j10_1 + 1) fun x8 =>
  Sum.inl (V, a0, x8)

noncomputable def f_X1_drawRows_54c (V : dV) (x15 a0 j10_1 j54_3 : Int) : Sum (dV × Int × Int × Int × Int) (Sum (dV × Int × Int) (dR)) :=
  dv_b (V a0 4 (j10_1)) fun x23 =>
  dv_b (V a0 0 (j10_1)) fun x24 =>
  dv_b (dv_add (x23) (x24)) fun x25 =>
  if x25 ≤ j54_3 then (
  Sum.inr (f_X1_drawRows_93 (V) (a0) (j10_1))
  ) else (
  if 12 ≤ j54_3 then (
  Sum.inr (f_X1_drawRows_93 (V) (a0) (j10_1))
  ) else (
  dv_b (V a0 6 (j54_3)) fun x26 =>
  dv_b (dv_or (x26) (x15)) fun x27 =>
  dv_b (dv_u V a0 6 (j54_3) (x27)) fun V86 =>
  dv_b (j54_3 + 1) fun x33 =>
  Sum.inl (V86, x15, a0, j10_1, x33)
  )
  )
noncomputable def f_X1_drawRows_54b (s : (dV × Int × Int × Int × Int)) : Sum (dV × Int × Int × Int × Int) (Sum (dV × Int × Int) (dR)) := f_X1_drawRows_54c (s.1) (s.2.1) (s.2.2.1) (s.2.2.2.1) (s.2.2.2.2)

theorem f_X1_drawRows_54e (V : dV) (x15 a0 j10_1 j54_3 : Int) : f_X1_drawRows_54b (V, x15, a0, j10_1, j54_3) = f_X1_drawRows_54c V x15 a0 j10_1 j54_3 := rfl

noncomputable def f_X1_drawRows_10c (V : dV) (a0 j10_1 : Int) : Sum (dV × Int × Int) (dR) :=
  dv_b (V a0 7 0) fun zz1 =>
  if zz1 ≤ j10_1 then (
  Sum.inr ((V, 0))
  ) else (
  dv_b2 (f_X1_isLaid V (a0) (j10_1)) fun x5 _ =>
  if x5 ≠ 0 then (
  dv_b (V a0 0 (j10_1)) fun x10 =>
  dv_b (dv_shl (1) (x10)) fun x11 =>
  dv_b (dv_sub (x11) (1)) fun x12 =>
  dv_b (V a0 3 (j10_1)) fun x14 =>
  dv_b (dv_shl (x12) (x14)) fun x15 =>
  dv_b (V a0 4 (j10_1)) fun x17 =>
  dv_lp (f_X1_drawRows_54b) (V, x15, a0, j10_1, x17)
  ) else (
  f_X1_drawRows_93 (V) (a0) (j10_1)
  )
  )
noncomputable def f_X1_drawRows_10b (s : (dV × Int × Int)) : Sum (dV × Int × Int) (dR) := f_X1_drawRows_10c (s.1) (s.2.1) (s.2.2)

theorem f_X1_drawRows_10e (V : dV) (a0 j10_1 : Int) : f_X1_drawRows_10b (V, a0, j10_1) = f_X1_drawRows_10c V a0 j10_1 := rfl

noncomputable def f_X1_drawRows (V : dV) (a0 : Int) : dR :=
  dv_b2 (f_J7_fill_53178_Frows V (a0) (0)) fun V5 _ =>
  dv_lp (f_X1_drawRows_10b) (V5, a0, 0)

noncomputable def f_X1_firstBareCell_54 (V : dV) (a0 j6_1 : Int) : Sum (dV × Int × Int) (dR) :=
  dv_b (j6_1 + 1) fun x4 =>
  Sum.inl (V, a0, x4)

noncomputable def f_X1_firstBareCell_6c (V : dV) (a0 j6_1 : Int) : Sum (dV × Int × Int) (dR) :=
  if 144 ≤ j6_1 then (
  Sum.inr ((V, (-1)))
  ) else (
  dv_b (j6_1 % 12) fun x1 =>
  dv_b (j6_1 / 12) fun x2 =>
  dv_b (V a0 8 0) fun zz1 =>
  if zz1 ≤ x1 then (
  f_X1_firstBareCell_54 (V) (a0) (j6_1)
  ) else (
  dv_b (V a0 9 0) fun zz2 =>
  if zz2 ≤ x2 then (
  f_X1_firstBareCell_54 (V) (a0) (j6_1)
  ) else (
  dv_b (V a0 6 (x2)) fun x7 =>
  dv_b (dv_shr (x7) (x1)) fun x8 =>
  dv_b (dv_and (x8) (1)) fun x9 =>
  if x9 ≠ 0 then (
  f_X1_firstBareCell_54 (V) (a0) (j6_1)
  ) else (
  Sum.inr ((V, j6_1))
  )
  )
  )
  )
noncomputable def f_X1_firstBareCell_6b (s : (dV × Int × Int)) : Sum (dV × Int × Int) (dR) := f_X1_firstBareCell_6c (s.1) (s.2.1) (s.2.2)

theorem f_X1_firstBareCell_6e (V : dV) (a0 j6_1 : Int) : f_X1_firstBareCell_6b (V, a0, j6_1) = f_X1_firstBareCell_6c V a0 j6_1 := rfl

noncomputable def f_X1_firstBareCell (V : dV) (a0 : Int) : dR :=
  dv_b2 (f_X1_drawRows V (a0)) fun V1 _ =>
  dv_lp (f_X1_firstBareCell_6b) (V1, a0, 0)

noncomputable def f_X1_placesFor_97 (V : dV) (x2 a0 p1 j15_4 j33_5 j70_6 j70_3 s97_1 : Int) : Sum (dV × Int × Int × Int × Int × Int × Int × Int) (Sum (dV × Int × Int × Int × Int × Int × Int × Int) (Sum (dV × Int × Int × Int × Int × Int) (dR))) :=
  dv_b (dv_add (j70_3) (s97_1)) fun x11 =>
  dv_b (j70_6 + 1) fun x12 =>
  Sum.inl (V, x2, a0, p1, j15_4, j33_5, x11, x12)

noncomputable def f_X1_placesFor_70c (V : dV) (x2 a0 p1 j15_4 j33_5 j70_3 j70_6 : Int) : Sum (dV × Int × Int × Int × Int × Int × Int × Int) (Sum (dV × Int × Int × Int × Int × Int × Int × Int) (Sum (dV × Int × Int × Int × Int × Int) (dR))) :=
  dv_b (j70_6 + p1) fun x6 =>
  dv_b (V a0 8 0) fun zz2 =>
  if zz2 < x6 then (
  dv_b (j15_4 + 1) fun x8 =>
  Sum.inr (Sum.inr (Sum.inl (V, x2, a0, p1, j70_3, x8)))
  ) else (
  dv_b (dv_shr (j33_5) (j70_6)) fun x9 =>
  dv_b (dv_and (x9) (x2)) fun x10 =>
  if x10 ≠ 0 then (
  f_X1_placesFor_97 (V) (x2) (a0) (p1) (j15_4) (j33_5) (j70_6) (j70_3) (0)
  ) else (
  f_X1_placesFor_97 (V) (x2) (a0) (p1) (j15_4) (j33_5) (j70_6) (j70_3) (1)
  )
  )
noncomputable def f_X1_placesFor_70b (s : (dV × Int × Int × Int × Int × Int × Int × Int)) : Sum (dV × Int × Int × Int × Int × Int × Int × Int) (Sum (dV × Int × Int × Int × Int × Int × Int × Int) (Sum (dV × Int × Int × Int × Int × Int) (dR))) := f_X1_placesFor_70c (s.1) (s.2.1) (s.2.2.1) (s.2.2.2.1) (s.2.2.2.2.1) (s.2.2.2.2.2.1) (s.2.2.2.2.2.2.1) (s.2.2.2.2.2.2.2)

theorem f_X1_placesFor_70e (V : dV) (x2 a0 p1 j15_4 j33_5 j70_3 j70_6 : Int) : f_X1_placesFor_70b (V, x2, a0, p1, j15_4, j33_5, j70_3, j70_6) = f_X1_placesFor_70c V x2 a0 p1 j15_4 j33_5 j70_3 j70_6 := rfl

noncomputable def f_X1_placesFor_67 (V : dV) (x2 a0 p1 j15_3 j15_4 j33_5 : Int) : Sum (dV × Int × Int × Int × Int × Int × Int × Int) (Sum (dV × Int × Int × Int × Int × Int) (dR)) :=
  dv_lp (f_X1_placesFor_70b) (V, x2, a0, p1, j15_4, j33_5, j15_3, 0)

noncomputable def f_X1_placesFor_33c (V : dV) (x2 a0 p1 j15_3 j15_4 j33_5 j33_6 : Int) : Sum (dV × Int × Int × Int × Int × Int × Int × Int) (Sum (dV × Int × Int × Int × Int × Int) (dR)) :=
  dv_b (j15_4 + p1) fun x5 =>
  if x5 ≤ j33_6 then (
  f_X1_placesFor_67 (V) (x2) (a0) (p1) (j15_3) (j15_4) (j33_5)
  ) else (
  if 12 ≤ j33_6 then (
  f_X1_placesFor_67 (V) (x2) (a0) (p1) (j15_3) (j15_4) (j33_5)
  ) else (
  dv_b (V a0 6 (j33_6)) fun x14 =>
  dv_b (dv_or (j33_5) (x14)) fun x15 =>
  dv_b (j33_6 + 1) fun x16 =>
  Sum.inl (V, x2, a0, p1, j15_3, j15_4, x15, x16)
  )
  )
noncomputable def f_X1_placesFor_33b (s : (dV × Int × Int × Int × Int × Int × Int × Int)) : Sum (dV × Int × Int × Int × Int × Int × Int × Int) (Sum (dV × Int × Int × Int × Int × Int) (dR)) := f_X1_placesFor_33c (s.1) (s.2.1) (s.2.2.1) (s.2.2.2.1) (s.2.2.2.2.1) (s.2.2.2.2.2.1) (s.2.2.2.2.2.2.1) (s.2.2.2.2.2.2.2)

theorem f_X1_placesFor_33e (V : dV) (x2 a0 p1 j15_3 j15_4 j33_5 j33_6 : Int) : f_X1_placesFor_33b (V, x2, a0, p1, j15_3, j15_4, j33_5, j33_6) = f_X1_placesFor_33c V x2 a0 p1 j15_3 j15_4 j33_5 j33_6 := rfl

noncomputable def f_X1_placesFor_15c (V : dV) (x2 a0 p1 j15_3 j15_4 : Int) : Sum (dV × Int × Int × Int × Int × Int) (dR) :=
  dv_b (j15_4 + p1) fun x3 =>
  dv_b (V a0 9 0) fun zz1 =>
  if zz1 < x3 then (
  Sum.inr ((V, j15_3))
  ) else (
  dv_lp (f_X1_placesFor_33b) (V, x2, a0, p1, j15_3, j15_4, 0, j15_4)
  )
noncomputable def f_X1_placesFor_15b (s : (dV × Int × Int × Int × Int × Int)) : Sum (dV × Int × Int × Int × Int × Int) (dR) := f_X1_placesFor_15c (s.1) (s.2.1) (s.2.2.1) (s.2.2.2.1) (s.2.2.2.2.1) (s.2.2.2.2.2)

theorem f_X1_placesFor_15e (V : dV) (x2 a0 p1 j15_3 j15_4 : Int) : f_X1_placesFor_15b (V, x2, a0, p1, j15_3, j15_4) = f_X1_placesFor_15c V x2 a0 p1 j15_3 j15_4 := rfl

noncomputable def f_X1_placesFor (V : dV) (a0 p1 : Int) : dR :=
  dv_b2 (f_X1_drawRows V (a0)) fun V1 _ =>
  dv_b (dv_shl (1) (p1)) fun x1 =>
  dv_b (dv_sub (x1) (1)) fun x2 =>
  dv_lp (f_X1_placesFor_15b) (V1, x2, a0, p1, 0, 0)

noncomputable def f_X10_clear (V : dV) (a0 : Int) : dR :=
  dv_b (dv_u V a0 2 0 (0)) fun V2 =>
  dv_b (dv_u V2 a0 3 0 (0)) fun V7 =>
  (V7, 0)

noncomputable def f_X10_add (V : dV) (a0 p1 : Int) : dR :=
  if p1 = (-1) then (
  (V, 0)
  ) else (
  dv_b (V a0 2 0) fun zz1 =>
  dv_b (400) fun x3 =>
  if x3 ≤ zz1 then (
  (V, 0)
  ) else (
  dv_b (V a0 2 0) fun zz2 =>
  dv_b (dv_u V a0 0 (zz2) (p1)) fun V26 =>
  dv_b (V26 a0 2 0) fun zz3 =>
  dv_b (zz3 + 1) fun x6 =>
  dv_b (dv_u V26 a0 2 0 (x6)) fun V34 =>
  (V34, 0)
  )
  )

noncomputable def f_X10_addJump (V : dV) (a0 p1 : Int) : dR :=
  dv_b2 (f_X10_add V (a0) (p1)) fun V2 _ =>
  dv_b2 (f_X10_add V2 (a0) (0)) fun V7 _ =>
  dv_b (V7 a0 2 0) fun zz1 =>
  dv_b (zz1 - 1) fun x2 =>
  (V7, x2)

noncomputable def f_X10_setCode (V : dV) (a0 p1 p2 : Int) : dR :=
  if p1 < 0 then (
  (V, 0)
  ) else (
  dv_b (V a0 2 0) fun zz1 =>
  if zz1 ≤ p1 then (
  (V, 0)
  ) else (
  dv_b (dv_u V a0 0 (p1) (p2)) fun V18 =>
  (V18, 0)
  )
  )

noncomputable def f_X10_setMark (V : dV) (a0 p1 p2 : Int) : dR :=
  dv_b (V a0 3 0) fun zz1 =>
  dv_b (zz1 - 1) fun x2 =>
  dv_b (x2 * 8) fun x3 =>
  dv_b (x3 + p1) fun x4 =>
  if x4 < 0 then (
  (V, 0)
  ) else (
  dv_b (96) fun x6 =>
  if x6 ≤ x4 then (
  dv_z
  ) else (
  dv_b (dv_u V a0 1 (x4) (p2)) fun V31 =>
  (V31, 0)
  )
  )

noncomputable def f_X10_openClause (V : dV) (a0 p1 : Int) : dR :=
  dv_b (V a0 3 0) fun zz1 =>
  if zz1 < 12 then (
  dv_b (V a0 3 0) fun zz2 =>
  dv_b (zz2 + 1) fun x2 =>
  dv_b (dv_u V a0 3 0 (x2)) fun V17 =>
  dv_b2 (f_X10_setMark V17 (a0) (0) (p1)) fun V23 _ =>
  dv_b2 (f_X10_setMark V23 (a0) (1) (1)) fun V29 _ =>
  (V29, 0)
  ) else (
  (V, 0)
  )

noncomputable def f_X10_mark (V : dV) (a0 p1 p2 : Int) : dP :=
  dv_b (p1 * 8) fun x1 =>
  dv_b (x1 + p2) fun x2 =>
  if x2 < 0 then (
  dv_zp
  ) else (
  dv_b (96) fun x4 =>
  if x4 ≤ x2 then (
  dv_zp
  ) else (
  dv_b (V a0 1 (x2)) fun x5 =>
  (x5, ())
  )
  )

noncomputable def f_X10_copyFrom (V : dV) (a0 p1 : Int) : dR :=
  dv_b (V p1 2 0) fun zz1 =>
  dv_b (dv_c V p1 0 (0) a0 0 (0) (zz1)) fun V14 =>
  dv_b (V14 p1 3 0) fun zz2 =>
  dv_b (zz2 * 8) fun x9 =>
  dv_b (dv_c V14 p1 1 (0) a0 1 (0) (x9)) fun V34 =>
  dv_b (V34 p1 2 0) fun zz3 =>
  dv_b (dv_u V34 a0 2 0 (zz3)) fun V42 =>
  dv_b (V42 p1 3 0) fun zz4 =>
  dv_b (dv_u V42 a0 3 0 (zz4)) fun V50 =>
  (V50, 0)

noncomputable def f_X9_addFour_3c (V : dV) (a0 p1 j3_2 : Int) : Sum (dV × Int × Int × Int) (dR) :=
  if j3_2 < 0 then (
  Sum.inr ((V, 0))
  ) else (
  dv_b (V a0 1 0) fun zz1 =>
  if 400 ≤ zz1 then (
  Sum.inr ((V, 0))
  ) else (
  dv_b (V a0 1 0) fun zz2 =>
  dv_b (dv_ushr (p1) (j3_2)) fun x3 =>
  dv_b (dv_and (x3) (255)) fun x4 =>
  dv_b (dv_u V a0 0 (zz2) (x4)) fun V32 =>
  dv_b (V32 a0 1 0) fun zz3 =>
  dv_b (zz3 + 1) fun x7 =>
  dv_b (dv_u V32 a0 1 0 (x7)) fun V40 =>
  dv_b (j3_2 + (-8)) fun x10 =>
  Sum.inl (V40, a0, p1, x10)
  )
  )
noncomputable def f_X9_addFour_3b (s : (dV × Int × Int × Int)) : Sum (dV × Int × Int × Int) (dR) := f_X9_addFour_3c (s.1) (s.2.1) (s.2.2.1) (s.2.2.2)

theorem f_X9_addFour_3e (V : dV) (a0 p1 j3_2 : Int) : f_X9_addFour_3b (V, a0, p1, j3_2) = f_X9_addFour_3c V a0 p1 j3_2 := rfl

noncomputable def f_X9_addFour (V : dV) (a0 p1 : Int) : dR :=
  dv_lp (f_X9_addFour_3b) (V, a0, p1, 24)

noncomputable def f_X6_setLawWords (V : dV) (a0 p1 p2 p3 p4 : Int) : dR :=
  dv_b (dv_u V a0 1 (0) (p2)) fun V6 =>
  dv_b (V6 p1 0 (p2)) fun x4 =>
  dv_b (dv_u V6 a0 1 (1) (x4)) fun V18 =>
  dv_b (V18 p1 1 (p2)) fun x7 =>
  dv_b (dv_u V18 a0 1 (2) (x7)) fun V30 =>
  dv_b (V30 p1 2 (p2)) fun x10 =>
  dv_b (dv_u V30 a0 1 (3) (x10)) fun V42 =>
  dv_b (dv_u V42 a0 1 (4) (p3)) fun V49 =>
  dv_b (dv_u V49 a0 1 (5) (p4)) fun V57 =>
  dv_b (V57 p1 5 (0)) fun x15 =>
  dv_b (dv_u V57 a0 1 (6) (x15)) fun V70 =>
  dv_b (V70 p1 5 (2)) fun x18 =>
  dv_b (dv_u V70 a0 1 (7) (x18)) fun V83 =>
  (V83, 0)

noncomputable def f_X6_setOrderWords_99 (V : dV) (a0 p1 j34_2 x13 s99_2 : Int) : Sum (dV × Int × Int × Int) (dR) :=
  dv_b (dv_u V a0 1 (x13) (s99_2)) fun V99 =>
  dv_b (j34_2 + 1) fun x16 =>
  Sum.inl (V99, a0, p1, x16)

noncomputable def f_X6_setOrderWords_65 (V : dV) (a0 p1 j34_2 x10 s65_2 : Int) : Sum (dV × Int × Int × Int) (dR) :=
  dv_b (dv_u V a0 1 (x10) (s65_2)) fun V65 =>
  dv_b (14 + j34_2) fun x13 =>
  dv_b2 (f_X1_has V65 (p1) (j34_2)) fun x14 _ =>
  if x14 ≠ 0 then (
  dv_b2 (f_X1_isLaid V65 (p1) (j34_2)) fun x17 _ =>
  if x17 = 0 then (
  f_X6_setOrderWords_99 (V65) (a0) (p1) (j34_2) (x13) (0)
  ) else (
  f_X6_setOrderWords_99 (V65) (a0) (p1) (j34_2) (x13) (1)
  )
  ) else (
  f_X6_setOrderWords_99 (V65) (a0) (p1) (j34_2) (x13) ((-1))
  )

noncomputable def f_X6_setOrderWords_34c (V : dV) (a0 p1 j34_2 : Int) : Sum (dV × Int × Int × Int) (dR) :=
  if 9 ≤ j34_2 then (
  Sum.inr ((V, 0))
  ) else (
  dv_b (5 + j34_2) fun x10 =>
  dv_b2 (f_X1_has V (p1) (j34_2)) fun x11 _ =>
  if x11 = 0 then (
  f_X6_setOrderWords_65 (V) (a0) (p1) (j34_2) (x10) ((-1))
  ) else (
  dv_b (V p1 2 (j34_2)) fun x19 =>
  f_X6_setOrderWords_65 (V) (a0) (p1) (j34_2) (x10) (x19)
  )
  )
noncomputable def f_X6_setOrderWords_34b (s : (dV × Int × Int × Int)) : Sum (dV × Int × Int × Int) (dR) := f_X6_setOrderWords_34c (s.1) (s.2.1) (s.2.2.1) (s.2.2.2)

theorem f_X6_setOrderWords_34e (V : dV) (a0 p1 j34_2 : Int) : f_X6_setOrderWords_34b (V, a0, p1, j34_2) = f_X6_setOrderWords_34c V a0 p1 j34_2 := rfl

noncomputable def f_X6_setOrderWords (V : dV) (a0 p1 : Int) : dR :=
  dv_b (V p1 5 (0)) fun x3 =>
  dv_b (dv_u V a0 1 (0) (x3)) fun V11 =>
  dv_b2 (f_X1_bareCells V11 (p1)) fun x5 _ =>
  dv_b (dv_u V11 a0 1 (3) (x5)) fun V21 =>
  dv_b (V21 p1 10 0) fun zz1 =>
  dv_b (dv_u V21 a0 1 (4) (zz1)) fun V31 =>
  dv_lp (f_X6_setOrderWords_34b) (V31, a0, p1, 0)

noncomputable def f_X6_reckon_538 (V : dV) (a0 p1 p3 j538_4 j538_5 : Int) : Sum (dV × Int × Int × Int × Int × Int) (dR) :=
  dv_b (j538_5 + 1) fun x14 =>
  Sum.inl (V, a0, p1, p3, j538_4, x14)

noncomputable def f_X6_reckon_148 (V : dV) (a0 p1 p3 j11_4 j11_5 : Int) : Sum (dV × Int × Int × Int × Int × Int) (dR) :=
  dv_b (dv_u V a0 3 0 (1)) fun V150 =>
  f_X6_reckon_538 (V150) (a0) (p1) (p3) (j11_4) (j11_5)

noncomputable def f_X6_reckon_268 (V : dV) (a0 p1 p3 j256_5 j11_4 s268_1 : Int) : Sum (dV × Int × Int × Int × Int × Int) (dR) :=
  dv_b (j11_4 - s268_1) fun x23 =>
  f_X6_reckon_538 (V) (a0) (p1) (p3) (x23) (j256_5)

noncomputable def f_X6_reckon_256 (V : dV) (s215_0 a0 p1 p3 j11_4 j256_5 : Int) : Sum (dV × Int × Int × Int × Int × Int) (dR) :=
  if s215_0 = 0 then (
  f_X6_reckon_268 (V) (a0) (p1) (p3) (j256_5) (j11_4) (1)
  ) else (
  f_X6_reckon_268 (V) (a0) (p1) (p3) (j256_5) (j11_4) (0)
  )

noncomputable def f_X6_reckon_215 (V : dV) (x18 a0 p1 p3 j11_4 s215_0 : Int) : Sum (dV × Int × Int × Int × Int × Int) (dR) :=
  if s215_0 = 0 then (
  f_X6_reckon_256 (V) (s215_0) (a0) (p1) (p3) (j11_4) (x18)
  ) else (
  dv_b (V p1 2 0) fun zz3 =>
  if zz3 ≤ x18 then (
  f_X6_reckon_256 (V) (s215_0) (a0) (p1) (p3) (j11_4) (x18)
  ) else (
  dv_b (V p1 0 (x18)) fun x24 =>
  dv_b (x24 - 1) fun x25 =>
  if x25 ≤ x18 then (
  f_X6_reckon_256 (V) (s215_0) (a0) (p1) (p3) (j11_4) (x18)
  ) else (
  dv_b (V p1 0 (x18)) fun x26 =>
  dv_b (x26 - 1) fun x27 =>
  f_X6_reckon_256 (V) (s215_0) (a0) (p1) (p3) (j11_4) (x27)
  )
  )
  )

noncomputable def f_X6_reckon_207 (V : dV) (x18 a0 p1 p3 j11_4 s194_0 s207_1 : Int) : Sum (dV × Int × Int × Int × Int × Int) (dR) :=
  if s194_0 ≠ s207_1 then (
  f_X6_reckon_215 (V) (x18) (a0) (p1) (p3) (j11_4) (0)
  ) else (
  f_X6_reckon_215 (V) (x18) (a0) (p1) (p3) (j11_4) (1)
  )

noncomputable def f_X6_reckon_194 (V : dV) (x18 x11 a0 p1 p3 j11_4 s194_0 : Int) : Sum (dV × Int × Int × Int × Int × Int) (dR) :=
  if x11 ≠ 3010 then (
  f_X6_reckon_207 (V) (x18) (a0) (p1) (p3) (j11_4) (s194_0) (0)
  ) else (
  f_X6_reckon_207 (V) (x18) (a0) (p1) (p3) (j11_4) (s194_0) (1)
  )

noncomputable def f_X6_reckon_172 (V : dV) (x11 a0 p1 p3 j11_4 j11_5 : Int) : Sum (dV × Int × Int × Int × Int × Int) (dR) :=
  dv_b (j11_5 + 1) fun x18 =>
  dv_b (j11_4 - 1) fun x20 =>
  dv_b (V a0 0 (x20)) fun y21 =>
  dv_b (dv_lcmp (y21) (0)) fun x22 =>
  if x22 = 0 then (
  f_X6_reckon_194 (V) (x18) (x11) (a0) (p1) (p3) (j11_4) (0)
  ) else (
  f_X6_reckon_194 (V) (x18) (x11) (a0) (p1) (p3) (j11_4) (1)
  )

noncomputable def f_X6_reckon_524 (V : dV) (x28 a0 p1 p3 j11_5 j500_11 s524_1 : Int) : Sum (dV × Int × Int × Int × Int × Int) (dR) :=
  dv_b (dv_u V a0 3 0 (s524_1)) fun V524 =>
  dv_b (x28 - 1) fun x38 =>
  dv_b (dv_u V524 a0 0 (x38) (j500_11)) fun V537 =>
  f_X6_reckon_538 (V537) (a0) (p1) (p3) (x28) (j11_5)

noncomputable def f_X6_reckon_519 (V : dV) (x28 a0 p1 p3 j11_5 j500_11 : Int) : Sum (dV × Int × Int × Int × Int × Int) (dR) :=
  f_X6_reckon_524 (V) (x28) (a0) (p1) (p3) (j11_5) (j500_11) (1)

noncomputable def f_X6_reckon_500 (V : dV) (x28 a0 p1 p3 j11_5 j500_11 : Int) : Sum (dV × Int × Int × Int × Int × Int) (dR) :=
  dv_b (dv_lcmp (j500_11) (1000000000)) fun x33 =>
  if 0 < x33 then (
  f_X6_reckon_519 (V) (x28) (a0) (p1) (p3) (j11_5) (j500_11)
  ) else (
  dv_b (dv_lcmp (j500_11) ((-1000000000))) fun x43 =>
  if 0 ≤ x43 then (
  f_X6_reckon_524 (V) (x28) (a0) (p1) (p3) (j11_5) (j500_11) (0)
  ) else (
  f_X6_reckon_519 (V) (x28) (a0) (p1) (p3) (j11_5) (j500_11)
  )
  )

noncomputable def f_X6_reckon_412 (V : dV) (x28 a0 p1 p3 j11_5 s412_0 : Int) : Sum (dV × Int × Int × Int × Int × Int) (dR) :=
  f_X6_reckon_500 (V) (x28) (a0) (p1) (p3) (j11_5) (s412_0)

noncomputable def f_X6_reckon_435 (V : dV) (x28 a0 p1 p3 j11_5 s435_0 : Int) : Sum (dV × Int × Int × Int × Int × Int) (dR) :=
  f_X6_reckon_500 (V) (x28) (a0) (p1) (p3) (j11_5) (s435_0)

noncomputable def f_X6_reckon_453 (V : dV) (x28 a0 p1 p3 j11_5 s453_0 : Int) : Sum (dV × Int × Int × Int × Int × Int) (dR) :=
  f_X6_reckon_500 (V) (x28) (a0) (p1) (p3) (j11_5) (s453_0)

noncomputable def f_X6_reckon_471 (V : dV) (x28 a0 p1 p3 j11_5 s471_0 : Int) : Sum (dV × Int × Int × Int × Int × Int) (dR) :=
  f_X6_reckon_500 (V) (x28) (a0) (p1) (p3) (j11_5) (s471_0)

noncomputable def f_X6_reckon_489 (V : dV) (x28 a0 p1 p3 j11_5 s489_0 : Int) : Sum (dV × Int × Int × Int × Int × Int) (dR) :=
  f_X6_reckon_500 (V) (x28) (a0) (p1) (p3) (j11_5) (s489_0)

noncomputable def f_X6_reckon_289 (V : dV) (x11 a0 p1 p3 j11_5 j11_4 s289_1 : Int) : Sum (dV × Int × Int × Int × Int × Int) (dR) :=
  dv_b (j11_4 - s289_1) fun x28 =>
  dv_b (x28 - 1) fun x30 =>
  dv_b (V a0 0 (x30)) fun y31 =>
  dv_b (V a0 0 (x28)) fun y32 =>
  if x11 = 3000 then (
  dv_b (dv_ladd (y31) (y32)) fun y44 =>
  f_X6_reckon_500 (V) (x28) (a0) (p1) (p3) (j11_5) (y44)
  ) else (
  if x11 = 3001 then (
  dv_b (dv_lsub (y31) (y32)) fun y45 =>
  f_X6_reckon_500 (V) (x28) (a0) (p1) (p3) (j11_5) (y45)
  ) else (
  if x11 = 3002 then (
  dv_b (dv_lmul (y31) (y32)) fun y46 =>
  f_X6_reckon_500 (V) (x28) (a0) (p1) (p3) (j11_5) (y46)
  ) else (
  if x11 = 3003 then (
  dv_b (dv_lcmp (y32) (0)) fun x47 =>
  if x47 ≠ 0 then (
  dv_b (dv_ldiv (y31) (y32)) fun y48 =>
  f_X6_reckon_412 (V) (x28) (a0) (p1) (p3) (j11_5) (y48)
  ) else (
  f_X6_reckon_412 (V) (x28) (a0) (p1) (p3) (j11_5) (1000000001)
  )
  ) else (
  if x11 = 3004 then (
  dv_b (dv_lcmp (y32) (0)) fun x49 =>
  if x49 ≠ 0 then (
  dv_b (dv_lrem (y31) (y32)) fun y50 =>
  f_X6_reckon_435 (V) (x28) (a0) (p1) (p3) (j11_5) (y50)
  ) else (
  f_X6_reckon_435 (V) (x28) (a0) (p1) (p3) (j11_5) (1000000001)
  )
  ) else (
  if x11 = 3005 then (
  dv_b (dv_lcmp (y31) (y32)) fun x51 =>
  if 0 ≤ x51 then (
  f_X6_reckon_453 (V) (x28) (a0) (p1) (p3) (j11_5) (0)
  ) else (
  f_X6_reckon_453 (V) (x28) (a0) (p1) (p3) (j11_5) (1)
  )
  ) else (
  if x11 = 3006 then (
  dv_b (dv_lcmp (y31) (y32)) fun x52 =>
  if x52 ≤ 0 then (
  f_X6_reckon_471 (V) (x28) (a0) (p1) (p3) (j11_5) (0)
  ) else (
  f_X6_reckon_471 (V) (x28) (a0) (p1) (p3) (j11_5) (1)
  )
  ) else (
  if x11 = 3007 then (
  dv_b (dv_lcmp (y31) (y32)) fun x53 =>
  if x53 ≠ 0 then (
  f_X6_reckon_489 (V) (x28) (a0) (p1) (p3) (j11_5) (0)
  ) else (
  f_X6_reckon_489 (V) (x28) (a0) (p1) (p3) (j11_5) (1)
  )
  ) else (
  dv_b (dv_lsub (1) (y31)) fun y54 =>
  f_X6_reckon_500 (V) (x28) (a0) (p1) (p3) (j11_5) (y54)
  ))))))))

noncomputable def f_X6_reckon_156 (V : dV) (x11 a0 p1 p3 j11_4 j11_5 : Int) : Sum (dV × Int × Int × Int × Int × Int) (dR) :=
  if x11 = 3009 then (
  f_X6_reckon_172 (V) (x11) (a0) (p1) (p3) (j11_4) (j11_5)
  ) else (
  if x11 ≠ 3010 then (
  if 3008 ≤ x11 then (
  f_X6_reckon_289 (V) (x11) (a0) (p1) (p3) (j11_5) (j11_4) (0)
  ) else (
  f_X6_reckon_289 (V) (x11) (a0) (p1) (p3) (j11_5) (j11_4) (1)
  )
  ) else (
  f_X6_reckon_172 (V) (x11) (a0) (p1) (p3) (j11_4) (j11_5)
  )
  )

noncomputable def f_X6_reckon_81 (V : dV) (x55 x11 a0 p1 p3 j11_4 j11_5 : Int) : Sum (dV × Int × Int × Int × Int × Int) (dR) :=
  dv_b (dv_u V a0 3 0 (1)) fun V86 =>
  dv_b (V86 a0 3 0) fun zz4 =>
  f_X6_reckon_538 (V86) (a0) (p1) (p3) (j11_4) (j11_5)

noncomputable def f_X6_reckon_121 (V : dV) (a0 p1 p3 j11_4 j11_5 s121_2 : Int) : Sum (dV × Int × Int × Int × Int × Int) (dR) :=
  dv_b (dv_u V a0 0 (j11_4) (s121_2)) fun V121 =>
  dv_b (j11_4 + 1) fun x75 =>
  f_X6_reckon_538 (V121) (a0) (p1) (p3) (x75) (j11_5)

noncomputable def f_X6_reckon_11c (V : dV) (a0 p1 p3 j11_4 j11_5 : Int) : Sum (dV × Int × Int × Int × Int × Int) (dR) :=
  if p3 ≤ j11_5 then (
  dv_b (V a0 0 (0)) fun y3 =>
  Sum.inr ((V, y3))
  ) else (
  dv_b (V p1 2 0) fun zz1 =>
  if zz1 ≤ j11_5 then (
  dv_b (V a0 0 (0)) fun y6 =>
  Sum.inr ((V, y6))
  ) else (
  dv_b (V a0 3 0) fun zz2 =>
  if zz2 ≠ 0 then (
  dv_b (V a0 0 (0)) fun y9 =>
  Sum.inr ((V, y9))
  ) else (
  dv_b (V p1 0 (j11_5)) fun x11 =>
  if 3000 ≤ x11 then (
  if j11_4 < 1 then (
  f_X6_reckon_148 (V) (a0) (p1) (p3) (j11_4) (j11_5)
  ) else (
  if 2 ≤ j11_4 then (
  f_X6_reckon_156 (V) (x11) (a0) (p1) (p3) (j11_4) (j11_5)
  ) else (
  if 3008 ≤ x11 then (
  f_X6_reckon_156 (V) (x11) (a0) (p1) (p3) (j11_4) (j11_5)
  ) else (
  f_X6_reckon_148 (V) (a0) (p1) (p3) (j11_4) (j11_5)
  )
  )
  )
  ) else (
  dv_b (x11 - 2000) fun x55 =>
  dv_b (j11_4 + 1) fun x56 =>
  dv_b (64) fun x58 =>
  if x58 ≤ x56 then (
  f_X6_reckon_81 (V) (x55) (x11) (a0) (p1) (p3) (j11_4) (j11_5)
  ) else (
  dv_b (23) fun x64 =>
  if x55 < x64 then (
  dv_b (dv_u V a0 3 0 (0)) fun V86 =>
  dv_b (V86 a0 3 0) fun zz5 =>
  if 0 ≤ x55 then (
  dv_b (V86 a0 1 (x55)) fun x76 =>
  dv_b (x76) fun y77 =>
  f_X6_reckon_121 (V86) (a0) (p1) (p3) (j11_4) (j11_5) (y77)
  ) else (
  dv_b (x11) fun y78 =>
  f_X6_reckon_121 (V86) (a0) (p1) (p3) (j11_4) (j11_5) (y78)
  )
  ) else (
  f_X6_reckon_81 (V) (x55) (x11) (a0) (p1) (p3) (j11_4) (j11_5)
  )
  )
  )
  )
  )
  )
noncomputable def f_X6_reckon_11b (s : (dV × Int × Int × Int × Int × Int)) : Sum (dV × Int × Int × Int × Int × Int) (dR) := f_X6_reckon_11c (s.1) (s.2.1) (s.2.2.1) (s.2.2.2.1) (s.2.2.2.2.1) (s.2.2.2.2.2)

theorem f_X6_reckon_11e (V : dV) (a0 p1 p3 j11_4 j11_5 : Int) : f_X6_reckon_11b (V, a0, p1, p3, j11_4, j11_5) = f_X6_reckon_11c V a0 p1 p3 j11_4 j11_5 := rfl

noncomputable def f_X6_reckon (V : dV) (a0 p1 p2 p3 : Int) : dR :=
  dv_b (dv_u V a0 3 0 (0)) fun V5 =>
  dv_lp (f_X6_reckon_11b) (V5, a0, p1, p3, 0, p2)

noncomputable def f_X6_isSo (V : dV) (a0 p1 p2 : Int) : dR :=
  dv_b2 (f_X10_mark V (p1) (p2) (6)) fun x1 _ =>
  dv_b2 (f_X10_mark V (p1) (p2) (7)) fun x2 _ =>
  if x1 = x2 then (
  (V, 1)
  ) else (
  dv_b2 (f_X6_reckon V (a0) (p1) (x1) (x2)) fun V28 y3 =>
  dv_b (dv_lcmp (y3) (0)) fun x4 =>
  if x4 = 0 then (
  (V28, 0)
  ) else (
  dv_b (V28 a0 3 0) fun zz1 =>
  if zz1 ≠ 0 then (
  (V28, 0)
  ) else (
  (V28, 1)
  )
  )
  )

noncomputable def f_X6_reckonSums_72 (V : dV) (a0 p1 p2 j2_3 : Int) : Sum (dV × Int × Int × Int × Int) (dR) :=
  dv_b (j2_3 + 1) fun x9 =>
  Sum.inl (V, a0, p1, p2, x9)

noncomputable def f_X6_reckonSums_55 (V : dV) (x5 x2 a0 p1 p2 j2_3 s55_2 : Int) : Sum (dV × Int × Int × Int × Int) (dR) :=
  dv_b (dv_u V a0 2 (j2_3) (s55_2)) fun V55 =>
  if x2 = x5 then (
  f_X6_reckonSums_72 (V55) (a0) (p1) (p2) (j2_3)
  ) else (
  dv_b (V55 a0 3 0) fun zz1 =>
  if zz1 = 0 then (
  f_X6_reckonSums_72 (V55) (a0) (p1) (p2) (j2_3)
  ) else (
  Sum.inr ((V55, 0))
  )
  )

noncomputable def f_X6_reckonSums_2c (V : dV) (a0 p1 p2 j2_3 : Int) : Sum (dV × Int × Int × Int × Int) (dR) :=
  if 3 ≤ j2_3 then (
  Sum.inr ((V, 1))
  ) else (
  dv_b (2 + j2_3) fun x1 =>
  dv_b2 (f_X10_mark V (p1) (p2) (x1)) fun x2 _ =>
  dv_b (2 + j2_3) fun x3 =>
  dv_b (x3 + 1) fun x4 =>
  dv_b2 (f_X10_mark V (p1) (p2) (x4)) fun x5 _ =>
  if x2 ≠ x5 then (
  dv_b2 (f_X6_reckon V (a0) (p1) (x2) (x5)) fun V51 y11 =>
  dv_b (dv_l2i (y11)) fun x13 =>
  f_X6_reckonSums_55 (V51) (x5) (x2) (a0) (p1) (p2) (j2_3) (x13)
  ) else (
  f_X6_reckonSums_55 (V) (x5) (x2) (a0) (p1) (p2) (j2_3) (0)
  )
  )
noncomputable def f_X6_reckonSums_2b (s : (dV × Int × Int × Int × Int)) : Sum (dV × Int × Int × Int × Int) (dR) := f_X6_reckonSums_2c (s.1) (s.2.1) (s.2.2.1) (s.2.2.2.1) (s.2.2.2.2)

theorem f_X6_reckonSums_2e (V : dV) (a0 p1 p2 j2_3 : Int) : f_X6_reckonSums_2b (V, a0, p1, p2, j2_3) = f_X6_reckonSums_2c V a0 p1 p2 j2_3 := rfl

noncomputable def f_X6_reckonSums (V : dV) (a0 p1 p2 : Int) : dR :=
  dv_lp (f_X6_reckonSums_2b) (V, a0, p1, p2, 0)

noncomputable def f_X2_holds_0_15c (V : dV) (a0 p2 j15_3 : Int) : Sum (dV × Int × Int × Int) (dR) :=
  if j15_3 < 0 then (
  Sum.inr ((V, 0))
  ) else (
  Sum.inr (dv_z)
  )
noncomputable def f_X2_holds_0_15b (s : (dV × Int × Int × Int)) : Sum (dV × Int × Int × Int) (dR) := f_X2_holds_0_15c (s.1) (s.2.1) (s.2.2.1) (s.2.2.2)

theorem f_X2_holds_0_15e (V : dV) (a0 p2 j15_3 : Int) : f_X2_holds_0_15b (V, a0, p2, j15_3) = f_X2_holds_0_15c V a0 p2 j15_3 := rfl

noncomputable def f_X2_holds_0 (V : dV) (a0 p1 p2 : Int) : dR :=
  dv_lp (f_X2_holds_0_15b) (V, a0, p2, (-1))

noncomputable def f_X2_holds_1_55 (V : dV) (a0 p1 p2 j15_3 : Int) : Sum (dV × Int × Int × Int × Int) (dR) :=
  dv_b (j15_3 + (-1)) fun x19 =>
  Sum.inl (V, a0, p1, p2, x19)

noncomputable def f_X2_holds_1_15c (V : dV) (a0 p1 p2 j15_3 : Int) : Sum (dV × Int × Int × Int × Int) (dR) :=
  if j15_3 < 0 then (
  Sum.inr ((V, 0))
  ) else (
  dv_b2 (f_X10_mark V (p1) (j15_3) (0)) fun x18 _ =>
  if x18 ≠ p2 then (
  f_X2_holds_1_55 (V) (a0) (p1) (p2) (j15_3)
  ) else (
  dv_b (V a0 0 0) fun zz2 =>
  dv_b2 (f_X6_isSo V (zz2) (p1) (j15_3)) fun V35 x21 =>
  if x21 = 0 then (
  f_X2_holds_1_55 (V35) (a0) (p1) (p2) (j15_3)
  ) else (
  dv_b (V35 a0 0 0) fun zz3 =>
  dv_b2 (f_X6_reckonSums V35 (zz3) (p1) (j15_3)) fun V47 x23 =>
  if x23 = 0 then (
  f_X2_holds_1_55 (V47) (a0) (p1) (p2) (j15_3)
  ) else (
  Sum.inr ((V47, 1))
  )
  )
  )
  )
noncomputable def f_X2_holds_1_15b (s : (dV × Int × Int × Int × Int)) : Sum (dV × Int × Int × Int × Int) (dR) := f_X2_holds_1_15c (s.1) (s.2.1) (s.2.2.1) (s.2.2.2.1) (s.2.2.2.2)

theorem f_X2_holds_1_15e (V : dV) (a0 p1 p2 j15_3 : Int) : f_X2_holds_1_15b (V, a0, p1, p2, j15_3) = f_X2_holds_1_15c V a0 p1 p2 j15_3 := rfl

noncomputable def f_X2_holds_1 (V : dV) (a0 p1 p2 : Int) : dR :=
  dv_b (V p1 3 0) fun zz1 =>
  dv_b (zz1 - 1) fun x17 =>
  dv_lp (f_X2_holds_1_15b) (V, a0, p1, p2, x17)

noncomputable def f_X2_holds (V : dV) (a0 p1 p2 : Int) : dR := if p1 = -1 then f_X2_holds_0 V a0 p1 p2 else f_X2_holds_1 V a0 p1 p2

noncomputable def f_X2_costOf (V : dV) (a0 p1 p2 p3 p4 p5 : Int) : dR :=
  dv_b (V a0 0 0) fun zz1 =>
  dv_b2 (f_X6_setLawWords V (zz1) (p2) (p3) (p4) (p5)) fun V10 _ =>
  dv_b2 (f_X2_holds V10 (a0) (p1) (0)) fun V16 x3 =>
  if x3 = 0 then (
  dv_b (V16 p2 0 (p3)) fun x6 =>
  (V16, x6)
  ) else (
  dv_b (V16 a0 0 0) fun zz2 =>
  dv_b (V16 zz2 2 (0)) fun x8 =>
  dv_b (min (99) (x8)) fun x9 =>
  dv_b (max (0) (x9)) fun x10 =>
  (V16, x10)
  )

noncomputable def f_X2_wearOf (V : dV) (a0 p1 p2 p3 : Int) : dR :=
  dv_b (V a0 0 0) fun zz1 =>
  dv_b (V p2 3 (p3)) fun x3 =>
  dv_b (V p2 4 (p3)) fun x5 =>
  dv_b2 (f_X6_setLawWords V (zz1) (p2) (p3) (x3) (x5)) fun V18 _ =>
  dv_b2 (f_X2_holds V18 (a0) (p1) (1)) fun V24 x7 =>
  if x7 = 0 then (
  (V24, 1)
  ) else (
  dv_b (V24 a0 0 0) fun zz2 =>
  dv_b (V24 zz2 2 (0)) fun x10 =>
  dv_b (min (9) (x10)) fun x11 =>
  dv_b (max (0) (x11)) fun x12 =>
  (V24, x12)
  )

noncomputable def f_X2_isBarred (V : dV) (a0 p1 p2 p3 p4 p5 : Int) : dR :=
  dv_b (V a0 0 0) fun zz1 =>
  dv_b2 (f_X6_setLawWords V (zz1) (p2) (p3) (p4) (p5)) fun V10 _ =>
  dv_b2 (f_X2_holds V10 (a0) (p1) (2)) fun V16 x2 =>
  (V16, x2)

noncomputable def f_X1_copyFrom (V : dV) (a0 p1 : Int) : dR :=
  dv_b (dv_c V p1 0 (0) a0 0 (0) (9)) fun V12 =>
  dv_b (dv_c V12 p1 1 (0) a0 1 (0) (9)) fun V27 =>
  dv_b (dv_c V27 p1 2 (0) a0 2 (0) (9)) fun V42 =>
  dv_b (dv_c V42 p1 3 (0) a0 3 (0) (9)) fun V57 =>
  dv_b (dv_c V57 p1 4 (0) a0 4 (0) (9)) fun V72 =>
  dv_b (dv_c V72 p1 5 (0) a0 5 (0) (3)) fun V86 =>
  dv_b (V86 p1 7 0) fun zz1 =>
  dv_b (dv_u V86 a0 7 0 (zz1)) fun V94 =>
  dv_b (V94 p1 8 0) fun zz2 =>
  dv_b (dv_u V94 a0 8 0 (zz2)) fun V102 =>
  dv_b (V102 p1 9 0) fun zz3 =>
  dv_b (dv_u V102 a0 9 0 (zz3)) fun V110 =>
  dv_b (V110 p1 10 0) fun zz4 =>
  dv_b (dv_u V110 a0 10 0 (zz4)) fun V118 =>
  (V118, 0)

noncomputable def f_X1_wearAYear_0_72 (V : dV) (a0 p1 j5_4 j72_3 : Int) : Sum (dV × Int × Int × Int × Int) (dR) :=
  dv_b (j5_4 + 1) fun x901 =>
  Sum.inl (V, a0, p1, j72_3, x901)

noncomputable def f_X1_wearAYear_0_5c (V : dV) (a0 p1 j5_3 j5_4 : Int) : Sum (dV × Int × Int × Int × Int) (dR) :=
  dv_b (V a0 7 0) fun zz1 =>
  if zz1 ≤ j5_4 then (
  dv_b (V a0 5 (0)) fun x896 =>
  dv_b (dv_add (x896) (1)) fun x897 =>
  dv_b (dv_u V a0 5 (0) (x897)) fun V87 =>
  Sum.inr ((V87, j5_3))
  ) else (
  dv_b2 (f_X1_isLaid V (a0) (j5_4)) fun x899 _ =>
  if x899 ≠ 0 then (
  dv_b (V a0 2 (j5_4)) fun x903 =>
  dv_b2 (f_X2_wearOf V (p1) ((-1)) (a0) (j5_4)) fun V45 x904 =>
  dv_b (dv_sub (x903) (x904)) fun x907 =>
  dv_b (max (0) (x907)) fun x908 =>
  dv_b (dv_u V45 a0 2 (j5_4) (x908)) fun V52 =>
  dv_b (V52 a0 2 (j5_4)) fun x911 =>
  if x911 ≠ 0 then (
  f_X1_wearAYear_0_72 (V52) (a0) (p1) (j5_4) (j5_3)
  ) else (
  dv_b2 (f_X1_rollUp V52 (a0) (j5_4)) fun V66 _ =>
  dv_b (dv_add (j5_3) (1)) fun x914 =>
  f_X1_wearAYear_0_72 (V66) (a0) (p1) (j5_4) (x914)
  )
  ) else (
  f_X1_wearAYear_0_72 (V) (a0) (p1) (j5_4) (j5_3)
  )
  )
noncomputable def f_X1_wearAYear_0_5b (s : (dV × Int × Int × Int × Int)) : Sum (dV × Int × Int × Int × Int) (dR) := f_X1_wearAYear_0_5c (s.1) (s.2.1) (s.2.2.1) (s.2.2.2.1) (s.2.2.2.2)

theorem f_X1_wearAYear_0_5e (V : dV) (a0 p1 j5_3 j5_4 : Int) : f_X1_wearAYear_0_5b (V, a0, p1, j5_3, j5_4) = f_X1_wearAYear_0_5c V a0 p1 j5_3 j5_4 := rfl

noncomputable def f_X1_wearAYear_0 (V : dV) (a0 p1 p2 : Int) : dR :=
  dv_lp (f_X1_wearAYear_0_5b) (V, a0, p1, 0, 0)

noncomputable def f_X1_wearAYear_1_72 (V : dV) (a0 p1 p2 j5_4 j72_3 : Int) : Sum (dV × Int × Int × Int × Int × Int) (dR) :=
  dv_b (j5_4 + 1) fun x1815 =>
  Sum.inl (V, a0, p1, p2, j72_3, x1815)

noncomputable def f_X1_wearAYear_1_5c (V : dV) (a0 p1 p2 j5_3 j5_4 : Int) : Sum (dV × Int × Int × Int × Int × Int) (dR) :=
  dv_b (V a0 7 0) fun zz2 =>
  if zz2 ≤ j5_4 then (
  dv_b (V a0 5 (0)) fun x1810 =>
  dv_b (dv_add (x1810) (1)) fun x1811 =>
  dv_b (dv_u V a0 5 (0) (x1811)) fun V87 =>
  Sum.inr ((V87, j5_3))
  ) else (
  dv_b2 (f_X1_isLaid V (a0) (j5_4)) fun x1813 _ =>
  if x1813 ≠ 0 then (
  dv_b (V a0 2 (j5_4)) fun x1817 =>
  dv_b2 (f_X2_wearOf V (p1) (p2) (a0) (j5_4)) fun V45 x1818 =>
  dv_b (dv_sub (x1817) (x1818)) fun x1821 =>
  dv_b (max (0) (x1821)) fun x1822 =>
  dv_b (dv_u V45 a0 2 (j5_4) (x1822)) fun V52 =>
  dv_b (V52 a0 2 (j5_4)) fun x1825 =>
  if x1825 ≠ 0 then (
  f_X1_wearAYear_1_72 (V52) (a0) (p1) (p2) (j5_4) (j5_3)
  ) else (
  dv_b2 (f_X1_rollUp V52 (a0) (j5_4)) fun V66 _ =>
  dv_b (dv_add (j5_3) (1)) fun x1828 =>
  f_X1_wearAYear_1_72 (V66) (a0) (p1) (p2) (j5_4) (x1828)
  )
  ) else (
  f_X1_wearAYear_1_72 (V) (a0) (p1) (p2) (j5_4) (j5_3)
  )
  )
noncomputable def f_X1_wearAYear_1_5b (s : (dV × Int × Int × Int × Int × Int)) : Sum (dV × Int × Int × Int × Int × Int) (dR) := f_X1_wearAYear_1_5c (s.1) (s.2.1) (s.2.2.1) (s.2.2.2.1) (s.2.2.2.2.1) (s.2.2.2.2.2)

theorem f_X1_wearAYear_1_5e (V : dV) (a0 p1 p2 j5_3 j5_4 : Int) : f_X1_wearAYear_1_5b (V, a0, p1, p2, j5_3, j5_4) = f_X1_wearAYear_1_5c V a0 p1 p2 j5_3 j5_4 := rfl

noncomputable def f_X1_wearAYear_1 (V : dV) (a0 p1 p2 : Int) : dR :=
  dv_lp (f_X1_wearAYear_1_5b) (V, a0, p1, p2, 0, 0)

noncomputable def f_X1_wearAYear (V : dV) (a0 p1 p2 : Int) : dR := if p2 = -1 then f_X1_wearAYear_0 V a0 p1 p2 else f_X1_wearAYear_1 V a0 p1 p2

noncomputable def f_X4_note (V : dV) (a0 p1 p2 : Int) : dR :=
  dv_b (V a0 4 0) fun zz1 =>
  if zz1 < 16 then (
  dv_b (V a0 4 0) fun zz2 =>
  dv_b (zz2 * 30) fun x2 =>
  dv_b (dv_u V a0 0 (x2) (p1)) fun V46 =>
  dv_b (x2 + 1) fun x6 =>
  dv_b (V46 p2 10 0) fun zz3 =>
  dv_b (dv_u V46 a0 0 (x6) (zz3)) fun V58 =>
  dv_b (x2 + 2) fun x10 =>
  dv_b (V58 p2 5 (0)) fun x12 =>
  dv_b (dv_u V58 a0 0 (x10) (x12)) fun V72 =>
  dv_b (x2 + 3) fun x16 =>
  dv_b (dv_c V72 p2 3 (0) a0 0 (x16) (9)) fun V87 =>
  dv_b (x2 + 3) fun x20 =>
  dv_b (x20 + 9) fun x21 =>
  dv_b (dv_c V87 p2 4 (0) a0 0 (x21) (9)) fun V107 =>
  dv_b (x2 + 3) fun x25 =>
  dv_b (x25 + 18) fun x26 =>
  dv_b (dv_c V107 p2 2 (0) a0 0 (x26) (9)) fun V127 =>
  dv_b (V127 a0 4 0) fun zz4 =>
  dv_b (zz4 + 1) fun x29 =>
  dv_b (dv_u V127 a0 4 0 (x29)) fun V137 =>
  (V137, 0)
  ) else (
  dv_b (dv_c V a0 0 (30) a0 0 (0) (450)) fun V23 =>
  dv_b (dv_u V23 a0 4 0 (15)) fun V29 =>
  dv_b (V29 a0 4 0) fun zz5 =>
  dv_b (15 * 30) fun x36 =>
  dv_b (dv_u V29 a0 0 (x36) (p1)) fun V46 =>
  dv_b (x36 + 1) fun x39 =>
  dv_b (V46 p2 10 0) fun zz6 =>
  dv_b (dv_u V46 a0 0 (x39) (zz6)) fun V58 =>
  dv_b (x36 + 2) fun x43 =>
  dv_b (V58 p2 5 (0)) fun x45 =>
  dv_b (dv_u V58 a0 0 (x43) (x45)) fun V72 =>
  dv_b (x36 + 3) fun x49 =>
  dv_b (dv_c V72 p2 3 (0) a0 0 (x49) (9)) fun V87 =>
  dv_b (x36 + 3) fun x53 =>
  dv_b (x53 + 9) fun x54 =>
  dv_b (dv_c V87 p2 4 (0) a0 0 (x54) (9)) fun V107 =>
  dv_b (x36 + 3) fun x58 =>
  dv_b (x58 + 18) fun x59 =>
  dv_b (dv_c V107 p2 2 (0) a0 0 (x59) (9)) fun V127 =>
  dv_b (V127 a0 4 0) fun zz7 =>
  dv_b (15 + 1) fun x62 =>
  dv_b (dv_u V127 a0 4 0 (x62)) fun V137 =>
  (V137, 0)
  )

noncomputable def f_X4_takeBack (V : dV) (a0 p1 : Int) : dR :=
  dv_b (V a0 4 0) fun zz1 =>
  if 0 < zz1 then (
  dv_b (V a0 4 0) fun zz2 =>
  dv_b (zz2 - 1) fun x2 =>
  dv_b (dv_u V a0 4 0 (x2)) fun V17 =>
  dv_b (V17 a0 4 0) fun zz3 =>
  dv_b (zz3 * 30) fun x4 =>
  dv_b (x4 + 1) fun x6 =>
  dv_b (V17 a0 0 (x6)) fun x7 =>
  dv_b (dv_u V17 p1 10 0 (x7)) fun V37 =>
  dv_b (x4 + 2) fun x11 =>
  dv_b (V37 a0 0 (x11)) fun x12 =>
  dv_b (dv_u V37 p1 5 (0) (x12)) fun V53 =>
  dv_b (x4 + 3) fun x15 =>
  dv_b (dv_c V53 a0 0 (x15) p1 3 (0) (9)) fun V68 =>
  dv_b (x4 + 3) fun x19 =>
  dv_b (x19 + 9) fun x20 =>
  dv_b (dv_c V68 a0 0 (x20) p1 4 (0) (9)) fun V88 =>
  dv_b (x4 + 3) fun x24 =>
  dv_b (x24 + 18) fun x25 =>
  dv_b (dv_c V88 a0 0 (x25) p1 2 (0) (9)) fun V108 =>
  dv_b (V108 a0 0 (x4)) fun x29 =>
  (V108, x29)
  ) else (
  (V, (-3))
  )

noncomputable def f_X4_save (V : dV) (a0 p1 : Int) : dR :=
  dv_b (V a0 2 0) fun zz1 =>
  dv_b2 (f_X1_copyFrom V (zz1) (p1)) fun V5 _ =>
  dv_b (480) fun x4 =>
  dv_b (dv_c V5 a0 0 (0) a0 1 (0) (x4)) fun V23 =>
  dv_b (V23 a0 4 0) fun zz2 =>
  dv_b (dv_u V23 a0 3 0 (zz2)) fun V31 =>
  (V31, 0)

noncomputable def f_X4_restore (V : dV) (a0 p1 : Int) : dR :=
  dv_b (V a0 2 0) fun zz1 =>
  dv_b2 (f_X1_copyFrom V (p1) (zz1)) fun V5 _ =>
  dv_b (480) fun x4 =>
  dv_b (dv_c V5 a0 1 (0) a0 0 (0) (x4)) fun V23 =>
  dv_b (V23 a0 3 0) fun zz2 =>
  dv_b (dv_u V23 a0 4 0 (zz2)) fun V31 =>
  (V31, 0)

noncomputable def f_X4_clear (V : dV) (a0 : Int) : dR :=
  dv_b (dv_u V a0 4 0 (0)) fun V2 =>
  (V2, 0)

noncomputable def f_X8_lawOf (V : dV) (a0 p1 : Int) : dP :=
  if p1 < 0 then (
  ((-1), ())
  ) else (
  dv_b (V a0 5 0) fun zz1 =>
  if zz1 ≤ p1 then (
  ((-1), ())
  ) else (
  dv_b (V a0 1 (p1)) fun b3 =>
  (b3, ())
  )
  )

noncomputable def f_X8_forcedLaw (V : dV) (a0 : Int) : dP :=
  dv_b (V a0 6 0) fun zz1 =>
  dv_b2 (f_X8_lawOf V (a0) (zz1)) fun v2 _ =>
  (v2, ())

noncomputable def f_X8_copyFrom_13c (V : dV) (a0 p1 j13_2 : Int) : Sum (dV × Int × Int × Int) (dR) :=
  dv_b (V p1 5 0) fun zz3 =>
  if zz3 ≤ j13_2 then (
  dv_b (dv_c V p1 2 (0) a0 2 (0) (6)) fun V54 =>
  dv_b (dv_c V54 p1 3 (0) a0 3 (0) (6)) fun V69 =>
  dv_b (dv_c V69 p1 4 (0) a0 4 (0) (6)) fun V84 =>
  dv_b (V84 p1 5 0) fun zz4 =>
  dv_b (dv_u V84 a0 5 0 (zz4)) fun V92 =>
  dv_b (V92 p1 6 0) fun zz5 =>
  dv_b (dv_u V92 a0 6 0 (zz5)) fun V100 =>
  dv_b (V100 p1 7 0) fun zz6 =>
  dv_b (dv_u V100 a0 7 0 (zz6)) fun V108 =>
  Sum.inr ((V108, 0))
  ) else (
  dv_b (V a0 1 (j13_2)) fun b32 =>
  dv_b (V p1 1 (j13_2)) fun b34 =>
  dv_b2 (f_X10_copyFrom V (b32) (b34)) fun V33 _ =>
  dv_b (j13_2 + 1) fun x38 =>
  Sum.inl (V33, a0, p1, x38)
  )
noncomputable def f_X8_copyFrom_13b (s : (dV × Int × Int × Int)) : Sum (dV × Int × Int × Int) (dR) := f_X8_copyFrom_13c (s.1) (s.2.1) (s.2.2.1) (s.2.2.2)

theorem f_X8_copyFrom_13e (V : dV) (a0 p1 j13_2 : Int) : f_X8_copyFrom_13b (V, a0, p1, j13_2) = f_X8_copyFrom_13c V a0 p1 j13_2 := rfl

noncomputable def f_X8_copyFrom (V : dV) (a0 p1 : Int) : dR :=
  dv_b (V a0 0 0) fun zz1 =>
  dv_b (V p1 0 0) fun zz2 =>
  dv_b2 (f_X1_copyFrom V (zz1) (zz2)) fun V8 _ =>
  dv_lp (f_X8_copyFrom_13b) (V8, a0, p1, 0)

noncomputable def f_X11_onGrid (V : dV) (p1 : Int) : dP :=
  if p1 < 0 then (
  (0, ())
  ) else (
  if 12 ≤ p1 then (
  (0, ())
  ) else (
  (1, ())
  )
  )

noncomputable def f_X11_mostOfTerm (V : dV) (p1 : Int) : dP :=
  if p1 ≠ 0 then (
  if p1 ≠ 1 then (
  (9, ())
  ) else (
  (10, ())
  )
  ) else (
  (999, ())
  )

noncomputable def f_X11_nextDraw (V : dV) (p1 : Int) : dP :=
  dv_b (dv_mul (p1) (1103)) fun x1 =>
  dv_b (dv_add (x1) (12345)) fun x2 =>
  dv_b (dv_rem (x2) (1000003)) fun x3 =>
  (x3, ())

noncomputable def f_X11_answer_10 (V : dV) (a0 p1 s10_1 : Int) : dR :=
  dv_b (dv_u V a0 14 0 (s10_1)) fun V10 =>
  if p1 = (-6) then (
  dv_b (V10 a0 13 (4)) fun x2 =>
  dv_b (dv_add (x2) (1)) fun x3 =>
  dv_b (dv_u V10 a0 13 (4) (x3)) fun V113 =>
  (V113, p1)
  ) else (
  if p1 = (-5) then (
  dv_b (V10 a0 13 (3)) fun x5 =>
  dv_b (dv_add (x5) (1)) fun x6 =>
  dv_b (dv_u V10 a0 13 (3) (x6)) fun V100 =>
  (V100, p1)
  ) else (
  if p1 = (-4) then (
  (V10, p1)
  ) else (
  if p1 = (-3) then (
  dv_b (V10 a0 13 (2)) fun x8 =>
  dv_b (dv_add (x8) (1)) fun x9 =>
  dv_b (dv_u V10 a0 13 (2) (x9)) fun V87 =>
  (V87, p1)
  ) else (
  if p1 = (-2) then (
  dv_b (V10 a0 13 (1)) fun x11 =>
  dv_b (dv_add (x11) (1)) fun x12 =>
  dv_b (dv_u V10 a0 13 (1) (x12)) fun V74 =>
  (V74, p1)
  ) else (
  if p1 = (-1) then (
  dv_b (V10 a0 13 (0)) fun x14 =>
  dv_b (dv_add (x14) (1)) fun x15 =>
  dv_b (dv_u V10 a0 13 (0) (x15)) fun V61 =>
  (V61, p1)
  ) else (
  (V10, p1)
  ))))))

noncomputable def f_X11_answer (V : dV) (a0 p1 : Int) : dR :=
  if 0 ≤ p1 then (
  f_X11_answer_10 (V) (a0) (p1) (0)
  ) else (
  f_X11_answer_10 (V) (a0) (p1) (p1)
  )

noncomputable def f_X11_canLie (V : dV) (a0 p1 p2 p3 p4 : Int) : dR :=
  dv_b2 (f_X1_hasPlaceFor V (p1) (p2) (p3) (p4)) fun x1 _ =>
  if x1 = 0 then (
  (V, 0)
  ) else (
  dv_b (V a0 9 0) fun zz1 =>
  dv_b (V a0 0 0) fun zz2 =>
  dv_b2 (f_X8_forcedLaw V (zz2)) fun v4 _ =>
  dv_b2 (f_X2_isBarred V (zz1) (v4) (p1) (p2) (p3) (p4)) fun V27 x5 =>
  if x5 ≠ 0 then (
  (V27, 0)
  ) else (
  (V27, 1)
  )
  )

noncomputable def f_X11_carpet_27 (V : dV) (x3 a0 : Int) : dR :=
  dv_b2 (f_X11_answer V (a0) (x3)) fun V30 x4 =>
  (V30, x4)

noncomputable def f_X11_carpet (V : dV) (a0 p1 p2 p3 : Int) : dR :=
  dv_b (V a0 0 0) fun zz1 =>
  dv_b (V zz1 0 0) fun zz2 =>
  dv_b2 (f_X1_add V (zz2) (p1) (p2) (p3)) fun V10 x3 =>
  if x3 < 0 then (
  f_X11_carpet_27 (V10) (x3) (a0)
  ) else (
  dv_b (V10 a0 10 0) fun zz3 =>
  dv_b2 (f_X4_clear V10 (zz3)) fun V24 _ =>
  f_X11_carpet_27 (V24) (x3) (a0)
  )

noncomputable def f_X11_of (V : dV) (a0 p1 p2 : Int) : dR :=
  dv_b (V a0 0 0) fun zz1 =>
  dv_b (V zz1 0 0) fun zz2 =>
  dv_b2 (f_X1_has V (zz2) (p1)) fun x3 _ =>
  if x3 ≠ 0 then (
  if p2 = 0 then (
  dv_b (V zz2 0 (p1)) fun x5 =>
  (V, x5)
  ) else (
  if p2 = 1 then (
  dv_b (V zz2 1 (p1)) fun x7 =>
  (V, x7)
  ) else (
  if p2 = 2 then (
  dv_b (V zz2 2 (p1)) fun x9 =>
  (V, x9)
  ) else (
  if p2 = 3 then (
  dv_b (V zz2 3 (p1)) fun x11 =>
  (V, x11)
  ) else (
  if p2 = 4 then (
  dv_b (V zz2 4 (p1)) fun x13 =>
  (V, x13)
  ) else (
  if p2 = 5 then (
  dv_b2 (f_X1_isLaid V (zz2) (p1)) fun x14 _ =>
  if x14 = 0 then (
  (V, (-1))
  ) else (
  dv_b (V a0 9 0) fun zz3 =>
  dv_b (V a0 0 0) fun zz4 =>
  dv_b2 (f_X8_forcedLaw V (zz4)) fun v16 _ =>
  dv_b2 (f_X2_wearOf V (zz3) (v16) (zz2) (p1)) fun V112 x17 =>
  (V112, x17)
  )
  ) else (
  (V, (-1))
  ))))))
  ) else (
  (V, (-1))
  )

noncomputable def f_X11_hall_22 (V : dV) (a0 : Int) : dR :=
  dv_b2 (f_X11_answer V (a0) ((-1))) fun V24 x1 =>
  (V24, x1)

noncomputable def f_X11_hall (V : dV) (a0 p1 p2 : Int) : dR :=
  if p1 < 1 then (
  f_X11_hall_22 (V) (a0)
  ) else (
  if 12 < p1 then (
  f_X11_hall_22 (V) (a0)
  ) else (
  if p2 < 1 then (
  f_X11_hall_22 (V) (a0)
  ) else (
  if p2 ≤ 12 then (
  dv_b (V a0 0 0) fun zz1 =>
  dv_b (V zz1 0 0) fun zz2 =>
  dv_b2 (f_X1_laidCarpets V (zz2)) fun x4 _ =>
  if x4 ≤ 0 then (
  dv_b (V a0 0 0) fun zz3 =>
  dv_b (V zz3 0 0) fun zz4 =>
  dv_b (dv_u V zz4 8 0 (p1)) fun V56 =>
  dv_b (V56 a0 0 0) fun zz5 =>
  dv_b (V56 zz5 0 0) fun zz6 =>
  dv_b (dv_u V56 zz6 9 0 (p2)) fun V67 =>
  dv_b (V67 a0 10 0) fun zz7 =>
  dv_b2 (f_X4_clear V67 (zz7)) fun V74 _ =>
  dv_b (p1 * p2) fun x12 =>
  dv_b2 (f_X11_answer V74 (a0) (x12)) fun V81 x14 =>
  (V81, x14)
  ) else (
  dv_b2 (f_X11_answer V (a0) ((-3))) fun V44 x17 =>
  (V44, x17)
  )
  ) else (
  f_X11_hall_22 (V) (a0)
  )
  )
  )
  )

noncomputable def f_X11_at (V : dV) (a0 p1 p2 : Int) : dP :=
  dv_b (V a0 0 0) fun zz1 =>
  dv_b (V zz1 0 0) fun zz2 =>
  dv_b2 (f_X1_carpetOn V (zz2) (p1) (p2)) fun x3 _ =>
  (x3, ())

noncomputable def f_X11_asks (V : dV) (a0 p1 p2 p3 p4 : Int) : dR :=
  dv_b (V a0 0 0) fun zz1 =>
  dv_b (V zz1 0 0) fun zz2 =>
  dv_b2 (f_X1_has V (zz2) (p1)) fun x3 _ =>
  if x3 = 0 then (
  (V, (-1))
  ) else (
  dv_b2 (f_X11_onGrid V (p2)) fun x4 _ =>
  if x4 = 0 then (
  (V, (-1))
  ) else (
  dv_b2 (f_X11_onGrid V (p3)) fun x5 _ =>
  if x5 ≠ 0 then (
  if p4 = 0 then (
  dv_b (V a0 9 0) fun zz3 =>
  dv_b (V a0 0 0) fun zz4 =>
  dv_b2 (f_X8_forcedLaw V (zz4)) fun v7 _ =>
  dv_b2 (f_X2_costOf V (zz3) (v7) (zz2) (p1) (p2) (p3)) fun V80 x8 =>
  (V80, x8)
  ) else (
  if p4 = 1 then (
  dv_b (V a0 9 0) fun zz5 =>
  dv_b (V a0 0 0) fun zz6 =>
  dv_b2 (f_X8_forcedLaw V (zz6)) fun v11 _ =>
  dv_b2 (f_X2_isBarred V (zz5) (v11) (zz2) (p1) (p2) (p3)) fun V100 x12 =>
  if x12 = 0 then (
  (V100, 0)
  ) else (
  (V100, 1)
  )
  ) else (
  if p4 = 2 then (
  dv_b2 (f_X11_canLie V (a0) (zz2) (p1) (p2) (p3)) fun V118 x14 =>
  if x14 = 0 then (
  (V118, 0)
  ) else (
  (V118, 1)
  )
  ) else (
  (V, (-1))
  )))
  ) else (
  (V, (-1))
  )
  )
  )

noncomputable def f_X11_terms_21 (V : dV) (a0 : Int) : dR :=
  dv_b2 (f_X11_answer V (a0) ((-1))) fun V23 x1 =>
  (V23, x1)

noncomputable def f_X11_terms (V : dV) (a0 p1 p2 : Int) : dR :=
  if p1 < 0 then (
  f_X11_terms_21 (V) (a0)
  ) else (
  if 3 ≤ p1 then (
  f_X11_terms_21 (V) (a0)
  ) else (
  if p2 < 0 then (
  f_X11_terms_21 (V) (a0)
  ) else (
  dv_b2 (f_X11_mostOfTerm V (p1)) fun x2 _ =>
  if p2 ≤ x2 then (
  dv_b (V a0 0 0) fun zz1 =>
  dv_b (V zz1 0 0) fun zz2 =>
  dv_b (V zz2 5 (p1)) fun x6 =>
  dv_b (V a0 0 0) fun zz3 =>
  dv_b (V zz3 0 0) fun zz4 =>
  dv_b (dv_u V zz4 5 (p1) (p2)) fun V52 =>
  dv_b (V52 a0 10 0) fun zz5 =>
  dv_b2 (f_X4_clear V52 (zz5)) fun V57 _ =>
  dv_b2 (f_X11_answer V57 (a0) (x6)) fun V62 x14 =>
  (V62, x14)
  ) else (
  f_X11_terms_21 (V) (a0)
  )
  )
  )
  )

noncomputable def f_X11_feed (V : dV) (a0 p1 p2 p3 p4 p5 : Int) : dR :=
  dv_b (V a0 5 0) fun zz1 =>
  dv_b (V zz1 1 0) fun zz2 =>
  dv_b (zz2 + 20) fun x3 =>
  if x3 ≤ 400 then (
  dv_b (V a0 5 0) fun zz3 =>
  dv_b2 (f_X9_addFour V (zz3) (p1)) fun V23 _ =>
  dv_b (V23 a0 5 0) fun zz4 =>
  dv_b2 (f_X9_addFour V23 (zz4) (p2)) fun V31 _ =>
  dv_b (V31 a0 5 0) fun zz5 =>
  dv_b2 (f_X9_addFour V31 (zz5) (p3)) fun V39 _ =>
  dv_b (V39 a0 5 0) fun zz6 =>
  dv_b2 (f_X9_addFour V39 (zz6) (p4)) fun V48 _ =>
  dv_b (V48 a0 5 0) fun zz7 =>
  dv_b2 (f_X9_addFour V48 (zz7) (p5)) fun V57 _ =>
  dv_b (V57 a0 5 0) fun zz8 =>
  dv_b (V57 zz8 1 0) fun zz9 =>
  (V57, zz9)
  ) else (
  (V, (-1))
  )

noncomputable def f_X11_end (V : dV) (a0 p1 : Int) : dR :=
  if p1 < 0 then (
  (V, (-1))
  ) else (
  dv_b (V a0 5 0) fun zz1 =>
  dv_b (V zz1 1 0) fun zz2 =>
  if p1 ≤ zz2 then (
  dv_b (V a0 5 0) fun zz3 =>
  dv_b (dv_u V zz3 1 0 (p1)) fun V22 =>
  (V22, p1)
  ) else (
  (V, (-1))
  )
  )

noncomputable def f_X11_row_100 (V : dV) (a0 j23_3 j100_1 j100_2 : Int) : Sum (dV × Int × Int × Int × Int) (dR) :=
  dv_b (j23_3 + 3) fun x13 =>
  Sum.inl (V, a0, j100_1, j100_2, x13)

noncomputable def f_X11_row_97 (V : dV) (a0 j23_1 j23_2 j23_3 : Int) : Sum (dV × Int × Int × Int × Int) (dR) :=
  dv_b (dv_add (j23_2) (1)) fun x15 =>
  f_X11_row_100 (V) (a0) (j23_3) (j23_1) (x15)

noncomputable def f_X11_row_23c (V : dV) (a0 j23_1 j23_2 j23_3 : Int) : Sum (dV × Int × Int × Int × Int) (dR) :=
  dv_b (V a0 5 0) fun zz3 =>
  dv_b (V zz3 1 0) fun zz4 =>
  if zz4 ≤ j23_3 then (
  dv_b (dv_u V a0 16 0 (j23_2)) fun V108 =>
  dv_b (V108 a0 5 0) fun zz5 =>
  dv_b (dv_u V108 zz5 1 0 (0)) fun V116 =>
  dv_b (V116 a0 10 0) fun zz6 =>
  dv_b2 (f_X4_clear V116 (zz6)) fun V123 _ =>
  dv_b2 (f_X11_answer V123 (a0) (j23_1)) fun V128 x9 =>
  Sum.inr ((V128, x9))
  ) else (
  dv_b (j23_3 + 2) fun x11 =>
  dv_b (V a0 5 0) fun zz7 =>
  dv_b (V zz7 1 0) fun zz8 =>
  if zz8 ≤ x11 then (
  f_X11_row_97 (V) (a0) (j23_1) (j23_2) (j23_3)
  ) else (
  dv_b (V a0 0 0) fun zz9 =>
  dv_b (V zz9 0 0) fun zz10 =>
  dv_b (V a0 5 0) fun zz11 =>
  dv_b (V zz11 0 (j23_3)) fun x19 =>
  dv_b (V a0 5 0) fun zz12 =>
  dv_b (j23_3 + 1) fun x20 =>
  dv_b (V zz12 0 (x20)) fun x21 =>
  dv_b (V a0 5 0) fun zz13 =>
  dv_b (j23_3 + 2) fun x22 =>
  dv_b (V zz13 0 (x22)) fun x23 =>
  dv_b2 (f_X1_add V (zz10) (x19) (x21) (x23)) fun V85 x24 =>
  if x24 < 0 then (
  f_X11_row_97 (V85) (a0) (j23_1) (j23_2) (j23_3)
  ) else (
  dv_b (dv_add (j23_1) (1)) fun x30 =>
  f_X11_row_100 (V85) (a0) (j23_3) (x30) (j23_2)
  )
  )
  )
noncomputable def f_X11_row_23b (s : (dV × Int × Int × Int × Int)) : Sum (dV × Int × Int × Int × Int) (dR) := f_X11_row_23c (s.1) (s.2.1) (s.2.2.1) (s.2.2.2.1) (s.2.2.2.2)

theorem f_X11_row_23e (V : dV) (a0 j23_1 j23_2 j23_3 : Int) : f_X11_row_23b (V, a0, j23_1, j23_2, j23_3) = f_X11_row_23c V a0 j23_1 j23_2 j23_3 := rfl

noncomputable def f_X11_row (V : dV) (a0 : Int) : dR :=
  dv_b (V a0 5 0) fun zz1 =>
  dv_b (V zz1 1 0) fun zz2 =>
  if zz2 ≠ 0 then (
  dv_lp (f_X11_row_23b) (V, a0, 0, 0, 0)
  ) else (
  dv_b2 (f_X11_answer V (a0) ((-6))) fun V13 x31 =>
  (V13, x31)
  )

noncomputable def f_X11_fluff (V : dV) (a0 : Int) : dP :=
  dv_b (V a0 16 0) fun zz1 =>
  (zz1, ())

noncomputable def f_X11_fault (V : dV) (a0 : Int) : dP :=
  dv_b (V a0 15 0) fun zz1 =>
  (zz1, ())

noncomputable def f_X11_stopped (V : dV) (a0 : Int) : dP :=
  dv_b (V a0 17 0) fun zz1 =>
  (zz1, ())

noncomputable def f_X11_status (V : dV) (a0 : Int) : dP :=
  dv_b (V a0 14 0) fun zz1 =>
  (zz1, ())

noncomputable def f_X11_force_23 (V : dV) (a0 p1 : Int) : dR :=
  dv_b (V a0 0 0) fun zz1 =>
  dv_b (V zz1 6 0) fun zz2 =>
  dv_b (V a0 0 0) fun zz3 =>
  dv_b (dv_u V zz3 6 0 (p1)) fun V36 =>
  dv_b (dv_u V36 a0 14 0 (0)) fun V41 =>
  (V41, zz2)

noncomputable def f_X11_force (V : dV) (a0 p1 : Int) : dR :=
  if p1 = (-1) then (
  f_X11_force_23 (V) (a0) (p1)
  ) else (
  dv_b (V a0 0 0) fun zz4 =>
  dv_b2 (f_X8_lawOf V (zz4) (p1)) fun v6 _ =>
  if v6 = -1 then (
  dv_b2 (f_X11_answer V (a0) ((-2))) fun V19 x8 =>
  (V19, x8)
  ) else (
  f_X11_force_23 (V) (a0) (p1)
  )
  )

noncomputable def f_X11_doLay (V : dV) (a0 p1 p2 p3 : Int) : dR :=
  dv_b (V a0 0 0) fun zz1 =>
  dv_b (V zz1 0 0) fun zz2 =>
  dv_b2 (f_X11_onGrid V (p2)) fun x3 _ =>
  if x3 = 0 then (
  (V, (-1))
  ) else (
  dv_b2 (f_X11_onGrid V (p3)) fun x4 _ =>
  if x4 ≠ 0 then (
  dv_b2 (f_X1_has V (zz2) (p1)) fun x5 _ =>
  if x5 ≠ 0 then (
  dv_b2 (f_X11_canLie V (a0) (zz2) (p1) (p2) (p3)) fun V43 x6 =>
  if x6 ≠ 0 then (
  dv_b (V43 a0 9 0) fun zz3 =>
  dv_b (V43 a0 0 0) fun zz4 =>
  dv_b2 (f_X8_forcedLaw V43 (zz4)) fun v9 _ =>
  dv_b2 (f_X2_costOf V43 (zz3) (v9) (zz2) (p1) (p2) (p3)) fun V68 x10 =>
  dv_b (V68 a0 10 0) fun zz5 =>
  dv_b2 (f_X4_note V68 (zz5) (0) (zz2)) fun V80 _ =>
  dv_b (dv_u V80 zz2 3 (p1) (p2)) fun V90 =>
  dv_b (dv_u V90 zz2 4 (p1) (p3)) fun V98 =>
  dv_b (V98 zz2 10 0) fun zz6 =>
  dv_b (dv_add (zz6) (x10)) fun x19 =>
  dv_b (min (9999) (x19)) fun x20 =>
  dv_b (dv_u V98 zz2 10 0 (x20)) fun V115 =>
  (V115, x10)
  ) else (
  (V43, (-3))
  )
  ) else (
  (V, (-2))
  )
  ) else (
  (V, (-1))
  )
  )

noncomputable def f_X11_doRoll (V : dV) (a0 p1 : Int) : dR :=
  dv_b (V a0 0 0) fun zz1 =>
  dv_b (V zz1 0 0) fun zz2 =>
  dv_b2 (f_X1_has V (zz2) (p1)) fun x3 _ =>
  if x3 ≠ 0 then (
  dv_b2 (f_X1_isLaid V (zz2) (p1)) fun x4 _ =>
  if x4 ≠ 0 then (
  dv_b (V a0 10 0) fun zz3 =>
  dv_b2 (f_X4_note V (zz3) (1) (zz2)) fun V36 _ =>
  dv_b2 (f_X1_rollUp V36 (zz2) (p1)) fun V41 _ =>
  dv_b2 (f_X1_bareCells V41 (zz2)) fun x6 _ =>
  (V41, x6)
  ) else (
  (V, (-3))
  )
  ) else (
  (V, (-2))
  )

noncomputable def f_X11_doMirror (V : dV) (a0 : Int) : dR :=
  dv_b (V a0 10 0) fun zz1 =>
  dv_b (V a0 0 0) fun zz2 =>
  dv_b (V zz2 0 0) fun zz3 =>
  dv_b2 (f_X4_note V (zz1) (2) (zz3)) fun V12 _ =>
  dv_b (V12 a0 0 0) fun zz4 =>
  dv_b (V12 zz4 0 0) fun zz5 =>
  dv_b2 (f_X1_turnOver V12 (zz5)) fun V22 x6 =>
  (V22, x6)

noncomputable def f_X11_doPass (V : dV) (a0 : Int) : dR :=
  dv_b (V a0 0 0) fun zz1 =>
  dv_b (V zz1 0 0) fun zz2 =>
  dv_b (V zz2 5 (0)) fun x4 =>
  if x4 < 999 then (
  dv_b (V a0 10 0) fun zz3 =>
  dv_b (V a0 0 0) fun zz4 =>
  dv_b (V zz4 0 0) fun zz5 =>
  dv_b2 (f_X4_note V (zz3) (3) (zz5)) fun V33 _ =>
  dv_b (V33 a0 0 0) fun zz6 =>
  dv_b (V33 zz6 0 0) fun zz7 =>
  dv_b (V33 a0 9 0) fun zz8 =>
  dv_b (V33 a0 0 0) fun zz9 =>
  dv_b2 (f_X8_forcedLaw V33 (zz9)) fun v9 _ =>
  dv_b2 (f_X1_wearAYear V33 (zz7) (zz8) (v9)) fun V54 x10 =>
  (V54, x10)
  ) else (
  (V, (-3))
  )

noncomputable def f_X11_lay (V : dV) (a0 p1 p2 p3 : Int) : dR :=
  dv_b2 (f_X11_doLay V (a0) (p1) (p2) (p3)) fun V5 x1 =>
  dv_b2 (f_X11_answer V5 (a0) (x1)) fun V8 x2 =>
  (V8, x2)

noncomputable def f_X11_roll (V : dV) (a0 p1 : Int) : dR :=
  dv_b2 (f_X11_doRoll V (a0) (p1)) fun V3 x1 =>
  dv_b2 (f_X11_answer V3 (a0) (x1)) fun V6 x2 =>
  (V6, x2)

noncomputable def f_X11_mirror (V : dV) (a0 : Int) : dR :=
  dv_b2 (f_X11_doMirror V (a0)) fun V2 x1 =>
  dv_b2 (f_X11_answer V2 (a0) (x1)) fun V5 x2 =>
  (V5, x2)

noncomputable def f_X11_pass (V : dV) (a0 : Int) : dR :=
  dv_b2 (f_X11_doPass V (a0)) fun V2 x1 =>
  dv_b2 (f_X11_answer V2 (a0) (x1)) fun V5 x2 =>
  (V5, x2)

noncomputable def f_X11_undo (V : dV) (a0 : Int) : dR :=
  dv_b (V a0 10 0) fun zz1 =>
  dv_b (V a0 0 0) fun zz2 =>
  dv_b (V zz2 0 0) fun zz3 =>
  dv_b2 (f_X4_takeBack V (zz1) (zz3)) fun V12 x4 =>
  dv_b2 (f_X11_answer V12 (a0) (x4)) fun V15 x5 =>
  (V15, x5)

noncomputable def f_X11_bare (V : dV) (a0 p1 : Int) : dR :=
  dv_b (V a0 0 0) fun zz1 =>
  dv_b (V zz1 0 0) fun zz2 =>
  if p1 ≠ 0 then (
  dv_b2 (f_X1_firstBareCell V (zz2)) fun V18 x3 =>
  if x3 ≠ (-1) then (
  if p1 ≠ 1 then (
  if p1 ≠ 2 then (
  (V18, (-1))
  ) else (
  dv_b (x3 / 12) fun x4 =>
  (V18, x4)
  )
  ) else (
  dv_b (x3 % 12) fun x5 =>
  (V18, x5)
  )
  ) else (
  (V18, (-1))
  )
  ) else (
  dv_b2 (f_X1_bareCells V (zz2)) fun x6 _ =>
  (V, x6)
  )

noncomputable def f_X11_inner (V : dV) (a0 : Int) : dP :=
  dv_b (V a0 0 0) fun zz1 =>
  dv_b (V zz1 0 0) fun zz2 =>
  dv_b2 (f_X1_innerHalls V (zz2)) fun x3 _ =>
  (x3, ())

noncomputable def f_X11_crosses (V : dV) (a0 : Int) : dP :=
  dv_b (V a0 0 0) fun zz1 =>
  dv_b (V zz1 0 0) fun zz2 =>
  dv_b2 (f_X1_crossPoints V (zz2)) fun x3 _ =>
  (x3, ())

noncomputable def f_X11_alike (V : dV) (a0 : Int) : dP :=
  dv_b (V a0 0 0) fun zz1 =>
  dv_b (V zz1 0 0) fun zz2 =>
  dv_b2 (f_X1_twosOfOneSide V (zz2)) fun x3 _ =>
  (x3, ())

noncomputable def f_X11_currents_47 (V : dV) (zz5 p1 s47_2 : Int) : dP :=
  dv_b2 (f_X1_sidesAtLine V (zz5) (p1) (s47_2)) fun x4 _ =>
  (x4, ())

noncomputable def f_X11_currents (V : dV) (a0 p1 p2 : Int) : dP :=
  if p1 < 0 then (
  ((-1), ())
  ) else (
  dv_b (V a0 0 0) fun zz1 =>
  dv_b (V zz1 0 0) fun zz2 =>
  dv_b (V zz2 9 0) fun zz3 =>
  if zz3 < p1 then (
  ((-1), ())
  ) else (
  if p2 < 0 then (
  ((-1), ())
  ) else (
  if p2 ≤ 1 then (
  dv_b (V a0 0 0) fun zz4 =>
  dv_b (V zz4 0 0) fun zz5 =>
  if p2 ≠ 1 then (
  f_X11_currents_47 (V) (zz5) (p1) (0)
  ) else (
  f_X11_currents_47 (V) (zz5) (p1) (1)
  )
  ) else (
  ((-1), ())
  )
  )
  )
  )

noncomputable def f_X11_fitting (V : dV) (a0 p1 : Int) : dR :=
  if p1 < 1 then (
  (V, (-1))
  ) else (
  if p1 ≤ 12 then (
  dv_b (V a0 0 0) fun zz1 =>
  dv_b (V zz1 0 0) fun zz2 =>
  dv_b2 (f_X1_placesFor V (zz2) (p1)) fun V23 x3 =>
  (V23, x3)
  ) else (
  (V, (-1))
  )
  )

noncomputable def f_X11_seen_25 (V : dV) (a0 : Int) : dR :=
  dv_b2 (f_X11_answer V (a0) ((-1))) fun V27 x2 =>
  (V27, x2)

noncomputable def f_X11_seen (V : dV) (a0 p1 p2 p3 : Int) : dR :=
  dv_b2 (f_X11_onGrid V (p1)) fun x1 _ =>
  if x1 = 0 then (
  f_X11_seen_25 (V) (a0)
  ) else (
  dv_b2 (f_X11_onGrid V (p2)) fun x3 _ =>
  if x3 = 0 then (
  f_X11_seen_25 (V) (a0)
  ) else (
  if p3 < 1 then (
  f_X11_seen_25 (V) (a0)
  ) else (
  if p3 ≤ 12 then (
  dv_b (V a0 0 0) fun zz1 =>
  dv_b (V zz1 7 0) fun zz2 =>
  if zz2 < 6 then (
  dv_b (V a0 0 0) fun zz3 =>
  dv_b (V a0 0 0) fun zz4 =>
  dv_b (V zz4 7 0) fun zz5 =>
  dv_b (dv_u V zz3 2 (zz5) (p1)) fun V65 =>
  dv_b (V65 a0 0 0) fun zz6 =>
  dv_b (V65 a0 0 0) fun zz7 =>
  dv_b (V65 zz7 7 0) fun zz8 =>
  dv_b (dv_u V65 zz6 3 (zz8) (p2)) fun V81 =>
  dv_b (V81 a0 0 0) fun zz9 =>
  dv_b (V81 a0 0 0) fun zz10 =>
  dv_b (V81 zz10 7 0) fun zz11 =>
  dv_b (dv_u V81 zz9 4 (zz11) (p3)) fun V97 =>
  dv_b (V97 a0 0 0) fun zz12 =>
  dv_b (V97 zz12 7 0) fun zz13 =>
  dv_b (zz13 + 1) fun x15 =>
  dv_b (dv_u V97 zz12 7 0 (x15)) fun V108 =>
  dv_b (V108 a0 0 0) fun zz14 =>
  dv_b (V108 zz14 7 0) fun zz15 =>
  dv_b2 (f_X11_answer V108 (a0) (zz15)) fun V119 x18 =>
  (V119, x18)
  ) else (
  dv_b2 (f_X11_answer V (a0) ((-5))) fun V46 x21 =>
  (V46, x21)
  )
  ) else (
  f_X11_seen_25 (V) (a0)
  )
  )
  )
  )

noncomputable def f_X11_forget (V : dV) (a0 : Int) : dR :=
  dv_b (V a0 0 0) fun zz1 =>
  dv_b (V zz1 7 0) fun zz2 =>
  dv_b (V a0 0 0) fun zz3 =>
  dv_b (dv_u V zz3 7 0 (0)) fun V13 =>
  (V13, zz2)

noncomputable def f_X11_drawYear_160 (V : dV) (x4 a0 : Int) : dR :=
  dv_b (V a0 3 0) fun zz7 =>
  dv_b (V a0 9 0) fun zz8 =>
  dv_b (V a0 0 0) fun zz9 =>
  dv_b2 (f_X8_forcedLaw V (zz9)) fun v13 _ =>
  dv_b2 (f_X1_wearAYear V (zz7) (zz8) (v13)) fun V175 x14 =>
  (V175, x4)

noncomputable def f_X11_drawYear_97 (V : dV) (s71_0 s46_0 x4 a0 s97_0 : Int) : dR :=
  dv_b (dv_rem (x4) (3)) fun x9 =>
  if x9 ≠ 2 then (
  dv_b (V a0 3 0) fun zz10 =>
  dv_b2 (f_X11_canLie V (a0) (zz10) (s46_0) (s71_0) (s97_0)) fun V130 x16 =>
  if x16 = 0 then (
  f_X11_drawYear_160 (V130) (x4) (a0)
  ) else (
  dv_b (V130 a0 3 0) fun zz11 =>
  dv_b (dv_u V130 zz11 3 (s46_0) (s71_0)) fun V147 =>
  dv_b (V147 a0 3 0) fun zz12 =>
  dv_b (dv_u V147 zz12 4 (s46_0) (s97_0)) fun V159 =>
  f_X11_drawYear_160 (V159) (x4) (a0)
  )
  ) else (
  dv_b (V a0 3 0) fun zz13 =>
  dv_b2 (f_X1_rollUp V (zz13) (s46_0)) fun V113 _ =>
  f_X11_drawYear_160 (V113) (x4) (a0)
  )

noncomputable def f_X11_drawYear_71 (V : dV) (s46_0 x4 x3 a0 s71_0 : Int) : dR :=
  dv_b (V a0 3 0) fun zz5 =>
  dv_b (V zz5 9 0) fun zz6 =>
  if zz6 ≤ 0 then (
  dv_z
  ) else (
  dv_b (V a0 3 0) fun zz14 =>
  dv_b (V zz14 9 0) fun zz15 =>
  dv_b (dv_rem (x3) (zz15)) fun x35 =>
  f_X11_drawYear_97 (V) (s71_0) (s46_0) (x4) (a0) (x35)
  )

noncomputable def f_X11_drawYear_46 (V : dV) (x4 x3 x2 a0 s46_0 : Int) : dR :=
  dv_b (V a0 3 0) fun zz3 =>
  dv_b (V zz3 8 0) fun zz4 =>
  if zz4 ≤ 0 then (
  dv_z
  ) else (
  dv_b (V a0 3 0) fun zz16 =>
  dv_b (V zz16 8 0) fun zz17 =>
  dv_b (dv_rem (x2) (zz17)) fun x36 =>
  f_X11_drawYear_71 (V) (s46_0) (x4) (x3) (a0) (x36)
  )

noncomputable def f_X11_drawYear (V : dV) (a0 p1 : Int) : dR :=
  dv_b2 (f_X11_nextDraw V (p1)) fun x1 _ =>
  dv_b2 (f_X11_nextDraw V (x1)) fun x2 _ =>
  dv_b2 (f_X11_nextDraw V (x2)) fun x3 _ =>
  dv_b2 (f_X11_nextDraw V (x3)) fun x4 _ =>
  dv_b (V a0 3 0) fun zz1 =>
  dv_b (V zz1 7 0) fun zz2 =>
  if zz2 ≤ 0 then (
  f_X11_drawYear_46 (V) (x4) (x3) (x2) (a0) (0)
  ) else (
  dv_b (V a0 3 0) fun zz18 =>
  dv_b (V zz18 7 0) fun zz19 =>
  dv_b (dv_rem (x1) (zz19)) fun x37 =>
  f_X11_drawYear_46 (V) (x4) (x3) (x2) (a0) (x37)
  )

noncomputable def f_X11_years_22 (V : dV) (a0 : Int) : dR :=
  dv_b2 (f_X11_answer V (a0) ((-1))) fun V24 x1 =>
  (V24, x1)

noncomputable def f_X11_years_100 (V : dV) (a0 : Int) : Sum (dV × Int × Int × Int × Int) (dR) :=
  dv_b (V a0 3 0) fun zz7 =>
  dv_b2 (f_X1_bareCells V (zz7)) fun x10 _ =>
  dv_b2 (f_X11_answer V (a0) (x10)) fun V108 x11 =>
  Sum.inr ((V108, x11))

noncomputable def f_X11_years_67c (V : dV) (a0 p2 j67_3 j67_4 : Int) : Sum (dV × Int × Int × Int × Int) (dR) :=
  if p2 ≤ j67_4 then (
  f_X11_years_100 (V) (a0)
  ) else (
  dv_b (V a0 3 0) fun zz8 =>
  dv_b (V zz8 5 (0)) fun x14 =>
  if 999 ≤ x14 then (
  f_X11_years_100 (V) (a0)
  ) else (
  dv_b2 (f_X11_drawYear V (a0) (j67_3)) fun V90 x15 =>
  dv_b (j67_4 + 1) fun x18 =>
  Sum.inl (V90, a0, p2, x15, x18)
  )
  )
noncomputable def f_X11_years_67b (s : (dV × Int × Int × Int × Int)) : Sum (dV × Int × Int × Int × Int) (dR) := f_X11_years_67c (s.1) (s.2.1) (s.2.2.1) (s.2.2.2.1) (s.2.2.2.2)

theorem f_X11_years_67e (V : dV) (a0 p2 j67_3 j67_4 : Int) : f_X11_years_67b (V, a0, p2, j67_3, j67_4) = f_X11_years_67c V a0 p2 j67_3 j67_4 := rfl

noncomputable def f_X11_years (V : dV) (a0 p1 p2 : Int) : dR :=
  if p1 < 0 then (
  f_X11_years_22 (V) (a0)
  ) else (
  if 1000000 < p1 then (
  f_X11_years_22 (V) (a0)
  ) else (
  if p2 < 1 then (
  f_X11_years_22 (V) (a0)
  ) else (
  if p2 ≤ 60 then (
  dv_b (V a0 0 0) fun zz1 =>
  dv_b (V zz1 0 0) fun zz2 =>
  dv_b (V zz2 7 0) fun zz3 =>
  if zz3 ≠ 0 then (
  dv_b (V a0 3 0) fun zz4 =>
  dv_b (V a0 0 0) fun zz5 =>
  dv_b (V zz5 0 0) fun zz6 =>
  dv_b2 (f_X1_copyFrom V (zz4) (zz6)) fun V59 _ =>
  dv_lp (f_X11_years_67b) (V59, a0, p2, p1, 0)
  ) else (
  dv_b2 (f_X11_answer V (a0) ((-3))) fun V44 x19 =>
  (V44, x19)
  )
  ) else (
  f_X11_years_22 (V) (a0)
  )
  )
  )
  )

noncomputable def f_X11_drawn (V : dV) (a0 p1 p2 : Int) : dP :=
  dv_b (V a0 3 0) fun zz1 =>
  dv_b2 (f_X1_has V (zz1) (p1)) fun x2 _ =>
  if x2 ≠ 0 then (
  if p2 = 0 then (
  dv_b (V a0 3 0) fun zz2 =>
  dv_b (V zz2 2 (p1)) fun x4 =>
  (x4, ())
  ) else (
  if p2 = 1 then (
  dv_b (V a0 3 0) fun zz3 =>
  dv_b (V zz3 3 (p1)) fun x6 =>
  (x6, ())
  ) else (
  if p2 = 2 then (
  dv_b (V a0 3 0) fun zz4 =>
  dv_b (V zz4 4 (p1)) fun x8 =>
  (x8, ())
  ) else (
  ((-1), ())
  )))
  ) else (
  ((-1), ())
  )

noncomputable def f_X11_image_9 (V : dV) (a0 : Int) : dR :=
  dv_b2 (f_X11_answer V (a0) ((-1))) fun V11 x1 =>
  (V11, x1)

noncomputable def f_X11_image (V : dV) (a0 p1 : Int) : dR :=
  if p1 < 0 then (
  f_X11_image_9 (V) (a0)
  ) else (
  if p1 < 2 then (
  dv_b (V a0 1 (p1)) fun b3 =>
  dv_b (V a0 0 0) fun zz1 =>
  dv_b2 (f_X8_copyFrom V (b3) (zz1)) fun V25 _ =>
  dv_b (dv_u V25 a0 2 (p1) (1)) fun V34 =>
  dv_b2 (f_X11_answer V34 (a0) (0)) fun V37 x6 =>
  (V37, x6)
  ) else (
  f_X11_image_9 (V) (a0)
  )
  )

noncomputable def f_X11_back_9 (V : dV) (a0 : Int) : dR :=
  dv_b2 (f_X11_answer V (a0) ((-1))) fun V11 x1 =>
  (V11, x1)

noncomputable def f_X11_back (V : dV) (a0 p1 : Int) : dR :=
  if p1 < 0 then (
  f_X11_back_9 (V) (a0)
  ) else (
  if p1 < 2 then (
  dv_b (V a0 2 (p1)) fun x3 =>
  if x3 ≠ 0 then (
  dv_b (V a0 0 0) fun zz1 =>
  dv_b (V a0 1 (p1)) fun b6 =>
  dv_b2 (f_X8_copyFrom V (zz1) (b6)) fun V41 _ =>
  dv_b (V41 a0 10 0) fun zz2 =>
  dv_b2 (f_X4_clear V41 (zz2)) fun V48 _ =>
  dv_b2 (f_X11_answer V48 (a0) (0)) fun V53 x8 =>
  (V53, x8)
  ) else (
  dv_b2 (f_X11_answer V (a0) ((-2))) fun V27 x9 =>
  (V27, x9)
  )
  ) else (
  f_X11_back_9 (V) (a0)
  )
  )

noncomputable def f_X11_count (V : dV) (a0 p1 : Int) : dP :=
  dv_b (V a0 0 0) fun zz1 =>
  dv_b (V zz1 0 0) fun zz2 =>
  if p1 = 0 then (
  dv_b (V zz2 7 0) fun zz3 =>
  (zz3, ())
  ) else (
  if p1 = 1 then (
  dv_b2 (f_X1_laidCarpets V (zz2)) fun x4 _ =>
  (x4, ())
  ) else (
  if p1 = 2 then (
  dv_b2 (f_X1_rags V (zz2)) fun x5 _ =>
  (x5, ())
  ) else (
  if p1 = 3 then (
  dv_b (V zz2 10 0) fun zz4 =>
  (zz4, ())
  ) else (
  if p1 = 4 then (
  dv_b (V a0 0 0) fun zz5 =>
  dv_b (V zz5 7 0) fun zz6 =>
  (zz6, ())
  ) else (
  if p1 = 5 then (
  dv_b (V a0 0 0) fun zz7 =>
  dv_b (V zz7 5 0) fun zz8 =>
  (zz8, ())
  ) else (
  if p1 = 6 then (
  dv_b (V a0 10 0) fun zz9 =>
  dv_b (V zz9 4 0) fun zz10 =>
  (zz10, ())
  ) else (
  if p1 = 7 then (
  dv_b (V a0 5 0) fun zz11 =>
  dv_b (V zz11 1 0) fun zz12 =>
  (zz12, ())
  ) else (
  if p1 = 8 then (
  dv_b (p1 - 8) fun x14 =>
  dv_b (V a0 13 (x14)) fun x15 =>
  (x15, ())
  ) else (
  if p1 = 9 then (
  dv_b (p1 - 8) fun x17 =>
  dv_b (V a0 13 (x17)) fun x18 =>
  (x18, ())
  ) else (
  if p1 = 10 then (
  dv_b (p1 - 8) fun x20 =>
  dv_b (V a0 13 (x20)) fun x21 =>
  (x21, ())
  ) else (
  if p1 = 11 then (
  dv_b (p1 - 8) fun x23 =>
  dv_b (V a0 13 (x23)) fun x24 =>
  (x24, ())
  ) else (
  if p1 = 12 then (
  dv_b (p1 - 8) fun x26 =>
  dv_b (V a0 13 (x26)) fun x27 =>
  (x27, ())
  ) else (
  if p1 = 13 then (
  dv_b (V a0 0 0) fun zz13 =>
  dv_b (V zz13 6 0) fun zz14 =>
  (zz14, ())
  ) else (
  if p1 = 14 then (
  dv_b (p1 - 14) fun x30 =>
  dv_b (V zz2 5 (x30)) fun x31 =>
  (x31, ())
  ) else (
  if p1 = 15 then (
  dv_b (p1 - 14) fun x33 =>
  dv_b (V zz2 5 (x33)) fun x34 =>
  (x34, ())
  ) else (
  if p1 = 16 then (
  dv_b (p1 - 14) fun x36 =>
  dv_b (V zz2 5 (x36)) fun x37 =>
  (x37, ())
  ) else (
  if p1 = 17 then (
  dv_b (V zz2 8 0) fun zz15 =>
  (zz15, ())
  ) else (
  if p1 = 18 then (
  dv_b (V zz2 9 0) fun zz16 =>
  (zz16, ())
  ) else (
  ((-1), ())
  )))))))))))))))))))

noncomputable def f_X11_runOnce_159 (V : dV) (a0 j159_2 : Int) : dR :=
  dv_b (V a0 8 0) fun zz9 =>
  dv_b (V zz9 1 (1)) fun x15 =>
  dv_b (dv_add (x15) (1)) fun x16 =>
  dv_b (dv_u V zz9 1 (1) (x16)) fun V171 =>
  if j159_2 < 0 then (
  (V171, 0)
  ) else (
  (V171, 1)
  )

noncomputable def f_X11_runOnce (V : dV) (a0 p1 : Int) : dR :=
  dv_b (V a0 8 0) fun zz1 =>
  dv_b (V a0 0 0) fun zz2 =>
  dv_b (V zz2 0 0) fun zz3 =>
  dv_b2 (f_X6_setOrderWords V (zz1) (zz3)) fun V11 _ =>
  dv_b (V11 a0 8 0) fun zz4 =>
  dv_b (V11 a0 7 0) fun zz5 =>
  dv_b2 (f_X6_isSo V11 (zz4) (zz5) (p1)) fun V23 x6 =>
  if x6 ≠ 0 then (
  dv_b (V23 a0 8 0) fun zz6 =>
  dv_b (V23 a0 7 0) fun zz7 =>
  dv_b2 (f_X6_reckonSums V23 (zz6) (zz7) (p1)) fun V40 x9 =>
  if x9 ≠ 0 then (
  dv_b (V40 a0 7 0) fun zz8 =>
  dv_b2 (f_X10_mark V40 (zz8) (p1) (0)) fun x12 _ =>
  if x12 = 0 then (
  dv_b (V40 a0 8 0) fun zz10 =>
  dv_b (V40 zz10 2 (0)) fun x19 =>
  dv_b (V40 a0 8 0) fun zz11 =>
  dv_b (V40 zz11 2 (1)) fun x20 =>
  dv_b (V40 a0 8 0) fun zz12 =>
  dv_b (V40 zz12 2 (2)) fun x21 =>
  dv_b2 (f_X11_doLay V40 (a0) (x19) (x20) (x21)) fun V112 x22 =>
  dv_b (V112 a0 8 0) fun zz13 =>
  dv_b (dv_u V112 zz13 1 (2) (x22)) fun V125 =>
  f_X11_runOnce_159 (V125) (a0) (x22)
  ) else (
  if x12 = 1 then (
  dv_b (V40 a0 8 0) fun zz14 =>
  dv_b (V40 zz14 2 (0)) fun x32 =>
  dv_b2 (f_X11_doRoll V40 (a0) (x32)) fun V139 x33 =>
  f_X11_runOnce_159 (V139) (a0) (x33)
  ) else (
  if x12 = 2 then (
  dv_b2 (f_X11_doMirror V40 (a0)) fun V147 x36 =>
  f_X11_runOnce_159 (V147) (a0) (x36)
  ) else (
  dv_b2 (f_X11_doPass V40 (a0)) fun V155 x39 =>
  f_X11_runOnce_159 (V155) (a0) (x39)
  )))
  ) else (
  (V40, 0)
  )
  ) else (
  (V23, 1)
  )










noncomputable def f_X5_isLetter (V : dV) (p1 : Int) : dP :=
  if p1 < 97 then (
  (0, ())
  ) else (
  if 122 < p1 then (
  (0, ())
  ) else (
  (1, ())
  )
  )

noncomputable def f_X5_isDigit (V : dV) (p1 : Int) : dP :=
  if p1 < 48 then (
  (0, ())
  ) else (
  if 57 < p1 then (
  (0, ())
  ) else (
  (1, ())
  )
  )

noncomputable def f_X5_endOfLetters_2c (V : dV) (a0 j2_2 : Int) : Sum (dV × Int × Int) (dP) :=
  dv_b (V a0 2 0) fun zz1 =>
  dv_b (V zz1 1 0) fun zz2 =>
  if zz2 ≤ j2_2 then (
  Sum.inr ((j2_2, ()))
  ) else (
  dv_b (V a0 2 0) fun zz3 =>
  dv_b (V zz3 0 (j2_2)) fun x3 =>
  dv_b2 (f_X5_isLetter V (x3)) fun x4 _ =>
  if x4 = 0 then (
  Sum.inr ((j2_2, ()))
  ) else (
  dv_b (j2_2 + 1) fun x5 =>
  Sum.inl (V, a0, x5)
  )
  )
noncomputable def f_X5_endOfLetters_2b (s : (dV × Int × Int)) : Sum (dV × Int × Int) (dP) := f_X5_endOfLetters_2c (s.1) (s.2.1) (s.2.2)

theorem f_X5_endOfLetters_2e (V : dV) (a0 j2_2 : Int) : f_X5_endOfLetters_2b (V, a0, j2_2) = f_X5_endOfLetters_2c V a0 j2_2 := rfl

noncomputable def f_X5_endOfLetters (V : dV) (a0 p1 : Int) : dP :=
  dv_lp (f_X5_endOfLetters_2b) (V, a0, p1)

noncomputable def f_X5_endOfDigits_2c (V : dV) (a0 j2_2 : Int) : Sum (dV × Int × Int) (dP) :=
  dv_b (V a0 2 0) fun zz1 =>
  dv_b (V zz1 1 0) fun zz2 =>
  if zz2 ≤ j2_2 then (
  Sum.inr ((j2_2, ()))
  ) else (
  dv_b (V a0 2 0) fun zz3 =>
  dv_b (V zz3 0 (j2_2)) fun x3 =>
  dv_b2 (f_X5_isDigit V (x3)) fun x4 _ =>
  if x4 = 0 then (
  Sum.inr ((j2_2, ()))
  ) else (
  dv_b (j2_2 + 1) fun x5 =>
  Sum.inl (V, a0, x5)
  )
  )
noncomputable def f_X5_endOfDigits_2b (s : (dV × Int × Int)) : Sum (dV × Int × Int) (dP) := f_X5_endOfDigits_2c (s.1) (s.2.1) (s.2.2)

theorem f_X5_endOfDigits_2e (V : dV) (a0 j2_2 : Int) : f_X5_endOfDigits_2b (V, a0, j2_2) = f_X5_endOfDigits_2c V a0 j2_2 := rfl

noncomputable def f_X5_endOfDigits (V : dV) (a0 p1 : Int) : dP :=
  dv_lp (f_X5_endOfDigits_2b) (V, a0, p1)

noncomputable def f_X5_valueFrom_5c (V : dV) (a0 p2 j5_3 j5_4 : Int) : Sum (dV × Int × Int × Int × Int) (dP) :=
  if p2 ≤ j5_4 then (
  Sum.inr ((j5_3, ()))
  ) else (
  dv_b (dv_mul (j5_3) (10)) fun x1 =>
  dv_b (V a0 2 0) fun zz1 =>
  dv_b (V zz1 0 (j5_4)) fun x3 =>
  dv_b (dv_add (x1) (x3)) fun x4 =>
  dv_b (dv_sub (x4) (48)) fun x5 =>
  dv_b (min (x5) (1001)) fun x6 =>
  dv_b (j5_4 + 1) fun x7 =>
  Sum.inl (V, a0, p2, x6, x7)
  )
noncomputable def f_X5_valueFrom_5b (s : (dV × Int × Int × Int × Int)) : Sum (dV × Int × Int × Int × Int) (dP) := f_X5_valueFrom_5c (s.1) (s.2.1) (s.2.2.1) (s.2.2.2.1) (s.2.2.2.2)

theorem f_X5_valueFrom_5e (V : dV) (a0 p2 j5_3 j5_4 : Int) : f_X5_valueFrom_5b (V, a0, p2, j5_3, j5_4) = f_X5_valueFrom_5c V a0 p2 j5_3 j5_4 := rfl

noncomputable def f_X5_valueFrom (V : dV) (a0 p1 p2 : Int) : dP :=
  dv_lp (f_X5_valueFrom_5b) (V, a0, p2, 0, p1)

noncomputable def f_X5_codeOf (V : dV) (p1 : Int) : dP :=
  if p1 = 37 then (
  (3004, ())
  ) else (
  if p1 = 38 then (
  ((-1), ())
  ) else (
  if p1 = 39 then (
  ((-1), ())
  ) else (
  if p1 = 40 then (
  ((-1), ())
  ) else (
  if p1 = 41 then (
  ((-1), ())
  ) else (
  if p1 = 42 then (
  (3002, ())
  ) else (
  if p1 = 43 then (
  (3000, ())
  ) else (
  if p1 = 44 then (
  ((-1), ())
  ) else (
  if p1 = 45 then (
  (3001, ())
  ) else (
  if p1 = 46 then (
  ((-1), ())
  ) else (
  if p1 = 47 then (
  (3003, ())
  ) else (
  ((-1), ())
  )))))))))))

noncomputable def f_X5_orderCode_24 (V : dV) (p1 : Int) : dP :=
  if p1 ≠ 321 then (
  if p1 ≠ 318 then (
  if p1 ≠ 327 then (
  ((-1), ())
  ) else (
  (2014, ())
  )
  ) else (
  (2005, ())
  )
  ) else (
  (2000, ())
  )

noncomputable def f_X5_orderCode (V : dV) (p1 : Int) : dP :=
  if p1 < 323 then (
  f_X5_orderCode_24 (V) (p1)
  ) else (
  if 326 < p1 then (
  f_X5_orderCode_24 (V) (p1)
  ) else (
  dv_b (2001 + p1) fun x1 =>
  dv_b (x1 - 323) fun x2 =>
  (x2, ())
  )
  )

noncomputable def f_X5_lawCode (V : dV) (p1 : Int) : dP :=
  if p1 < 315 then (
  ((-1), ())
  ) else (
  if 322 < p1 then (
  ((-1), ())
  ) else (
  dv_b (2000 + p1) fun x1 =>
  dv_b (x1 - 315) fun x2 =>
  (x2, ())
  )
  )

noncomputable def f_X5_seenToken (V : dV) (a0 : Int) : dP :=
  dv_b (V a0 8 0) fun zz1 =>
  if zz1 ≠ (-1) then (
  ((-1), ())
  ) else (
  dv_b (V a0 5 0) fun zz2 =>
  dv_b (V a0 0 (zz2)) fun x4 =>
  (x4, ())
  )

noncomputable def f_X5_fail (V : dV) (a0 : Int) : dR :=
  dv_b (V a0 8 0) fun zz1 =>
  if zz1 ≠ (-1) then (
  (V, 0)
  ) else (
  dv_b (V a0 5 0) fun zz2 =>
  dv_b (V a0 1 (zz2)) fun x4 =>
  dv_b (dv_u V a0 8 0 (x4)) fun V18 =>
  (V18, 0)
  )

noncomputable def f_X5_take (V : dV) (a0 p1 : Int) : dR :=
  dv_b (V a0 8 0) fun zz1 =>
  if zz1 ≠ (-1) then (
  (V, 0)
  ) else (
  dv_b (V a0 5 0) fun zz2 =>
  dv_b (V a0 0 (zz2)) fun x4 =>
  if x4 = p1 then (
  dv_b (V a0 5 0) fun zz3 =>
  dv_b (zz3 + 1) fun x5 =>
  dv_b (dv_u V a0 5 0 (x5)) fun V30 =>
  (V30, 1)
  ) else (
  (V, 0)
  )
  )

noncomputable def f_X5_takeNumber (V : dV) (a0 p1 p2 : Int) : dR :=
  dv_b (V a0 5 0) fun zz1 =>
  dv_b (V a0 0 (zz1)) fun x3 =>
  dv_b (dv_sub (x3) (400)) fun x4 =>
  dv_b (V a0 8 0) fun zz2 =>
  if zz2 ≠ (-1) then (
  (V, (-1))
  ) else (
  if x4 < p1 then (
  (V, (-1))
  ) else (
  if x4 ≤ p2 then (
  dv_b (V a0 5 0) fun zz3 =>
  dv_b (zz3 + 1) fun x6 =>
  dv_b (dv_u V a0 5 0 (x6)) fun V41 =>
  (V41, x4)
  ) else (
  (V, (-1))
  )
  )
  )

noncomputable def f_X5_openBracket (V : dV) (a0 : Int) : dR :=
  dv_b (V a0 7 0) fun zz1 =>
  if zz1 < 8 then (
  dv_b (V a0 7 0) fun zz2 =>
  dv_b (zz2 + 1) fun x1 =>
  dv_b (dv_u V a0 7 0 (x1)) fun V18 =>
  dv_b (V18 a0 5 0) fun zz3 =>
  dv_b (zz3 + 1) fun x5 =>
  dv_b (dv_u V18 a0 5 0 (x5)) fun V28 =>
  (V28, 1)
  ) else (
  (V, 0)
  )

noncomputable def f_X5_readPart_184 (d : Nat) (rc : dV → Int → dR) (V : dV) (a0 j175_2 : Int) : dR :=
  dv_b (V a0 3 0) fun zz6 =>
  dv_b2 (f_X10_add V (zz6) (j175_2)) fun V189 _ =>
  (V189, 0)

noncomputable def f_X5_readPart_175 (d : Nat) (rc : dV → Int → dR) (V : dV) (a0 j175_2 : Int) : dR :=
  if j175_2 ≠ (-1) then (
  f_X5_readPart_184 d rc (V) (a0) (j175_2)
  ) else (
  dv_b2 (f_X5_fail V (a0)) fun V181 _ =>
  f_X5_readPart_184 d rc (V181) (a0) (j175_2)
  )

noncomputable def f_X5_readPart_184x2 (d : Nat) (rc : dV → Int → dR) (V : dV) (a0 j175_2 : Int) : dR :=
  dv_b (V a0 3 0) fun zz8 =>
  dv_b2 (f_X10_add V (zz8) (j175_2)) fun V189 _ =>
  (V189, 0)

noncomputable def f_X5_readPart_175x2 (d : Nat) (rc : dV → Int → dR) (V : dV) (a0 j175_2 : Int) : dR :=
  if j175_2 ≠ (-1) then (
  f_X5_readPart_184x2 d rc (V) (a0) (j175_2)
  ) else (
  dv_b2 (f_X5_fail V (a0)) fun V181 _ =>
  f_X5_readPart_184x2 d rc (V181) (a0) (j175_2)
  )

noncomputable def f_X5_readPart_184x3 (d : Nat) (rc : dV → Int → dR) (V : dV) (a0 j175_2 : Int) : dR :=
  dv_b (V a0 3 0) fun zz11 =>
  dv_b2 (f_X10_add V (zz11) (j175_2)) fun V189 _ =>
  (V189, 0)

noncomputable def f_X5_readPart_175x3 (d : Nat) (rc : dV → Int → dR) (V : dV) (a0 j175_2 : Int) : dR :=
  if j175_2 ≠ (-1) then (
  f_X5_readPart_184x3 d rc (V) (a0) (j175_2)
  ) else (
  dv_b2 (f_X5_fail V (a0)) fun V181 _ =>
  f_X5_readPart_184x3 d rc (V181) (a0) (j175_2)
  )

noncomputable def f_X5_readPart_154 (d : Nat) (rc : dV → Int → dR) (V : dV) (x30 a0 : Int) : dR :=
  dv_b2 (f_X5_takeNumber V (a0) (0) (8)) fun V158 x42 =>
  if x42 ≠ (-1) then (
  dv_b (x30 + x42) fun x46 =>
  f_X5_readPart_175x3 d rc (V158) (a0) (x46)
  ) else (
  f_X5_readPart_175x3 d rc (V158) (a0) ((-1))
  )

noncomputable def f_X5_readPart_184x4 (d : Nat) (rc : dV → Int → dR) (V : dV) (a0 j175_2 : Int) : dR :=
  dv_b (V a0 3 0) fun zz13 =>
  dv_b2 (f_X10_add V (zz13) (j175_2)) fun V189 _ =>
  (V189, 0)

noncomputable def f_X5_readPart_175x4 (d : Nat) (rc : dV → Int → dR) (V : dV) (a0 j175_2 : Int) : dR :=
  if j175_2 ≠ (-1) then (
  f_X5_readPart_184x4 d rc (V) (a0) (j175_2)
  ) else (
  dv_b2 (f_X5_fail V (a0)) fun V181 _ =>
  f_X5_readPart_184x4 d rc (V181) (a0) (j175_2)
  )

noncomputable def f_X5_readPart_154x2 (d : Nat) (rc : dV → Int → dR) (V : dV) (x30 a0 : Int) : dR :=
  dv_b2 (f_X5_takeNumber V (a0) (0) (8)) fun V158 x57 =>
  if x57 ≠ (-1) then (
  dv_b (x30 + x57) fun x61 =>
  f_X5_readPart_175x4 d rc (V158) (a0) (x61)
  ) else (
  f_X5_readPart_175x4 d rc (V158) (a0) ((-1))
  )

noncomputable def f_X5_readPart_184x5 (d : Nat) (rc : dV → Int → dR) (V : dV) (a0 j175_2 : Int) : dR :=
  dv_b (V a0 3 0) fun zz16 =>
  dv_b2 (f_X10_add V (zz16) (j175_2)) fun V189 _ =>
  (V189, 0)

noncomputable def f_X5_readPart_175x5 (d : Nat) (rc : dV → Int → dR) (V : dV) (a0 j175_2 : Int) : dR :=
  if j175_2 ≠ (-1) then (
  f_X5_readPart_184x5 d rc (V) (a0) (j175_2)
  ) else (
  dv_b2 (f_X5_fail V (a0)) fun V181 _ =>
  f_X5_readPart_184x5 d rc (V181) (a0) (j175_2)
  )

noncomputable def f_X5_readPart_154x3 (d : Nat) (rc : dV → Int → dR) (V : dV) (x62 a0 : Int) : dR :=
  dv_b2 (f_X5_takeNumber V (a0) (0) (8)) fun V158 x76 =>
  if x76 ≠ (-1) then (
  dv_b (x62 + x76) fun x79 =>
  f_X5_readPart_175x5 d rc (V158) (a0) (x79)
  ) else (
  f_X5_readPart_175x5 d rc (V158) (a0) ((-1))
  )

noncomputable def f_X5_readPart_184x6 (d : Nat) (rc : dV → Int → dR) (V : dV) (a0 j175_2 : Int) : dR :=
  dv_b (V a0 3 0) fun zz18 =>
  dv_b2 (f_X10_add V (zz18) (j175_2)) fun V189 _ =>
  (V189, 0)

noncomputable def f_X5_readPart_175x6 (d : Nat) (rc : dV → Int → dR) (V : dV) (a0 j175_2 : Int) : dR :=
  if j175_2 ≠ (-1) then (
  f_X5_readPart_184x6 d rc (V) (a0) (j175_2)
  ) else (
  dv_b2 (f_X5_fail V (a0)) fun V181 _ =>
  f_X5_readPart_184x6 d rc (V181) (a0) (j175_2)
  )

noncomputable def f_X5_readPart_154x4 (d : Nat) (rc : dV → Int → dR) (V : dV) (x62 a0 : Int) : dR :=
  dv_b2 (f_X5_takeNumber V (a0) (0) (8)) fun V158 x90 =>
  if x90 ≠ (-1) then (
  dv_b (x62 + x90) fun x93 =>
  f_X5_readPart_175x6 d rc (V158) (a0) (x93)
  ) else (
  f_X5_readPart_175x6 d rc (V158) (a0) ((-1))
  )

noncomputable def f_X5_readPart_B (d : Nat) (rc : dV → Int → dR) (V : dV) (a0 : Int) : dR :=
  dv_b2 (f_X5_seenToken V (a0)) fun x1 _ =>
  if x1 ≠ 91 then (
  dv_b (V a0 6 0) fun zz1 =>
  if zz1 < 50 then (
  dv_b (V a0 6 0) fun zz2 =>
  dv_b (zz2 + 1) fun x3 =>
  dv_b (dv_u V a0 6 0 (x3)) fun V67 =>
  if x1 < 400 then (
  dv_b (V67 a0 4 0) fun zz3 =>
  if zz3 = 0 then (
  dv_b2 (f_X5_lawCode V67 (x1)) fun x8 _ =>
  dv_b (V67 a0 5 0) fun zz4 =>
  if x8 = (-1) then (
  dv_b (zz4 + 0) fun x10 =>
  dv_b (dv_u V67 a0 5 0 (x10)) fun V130 =>
  dv_b (V130 a0 4 0) fun zz5 =>
  if zz5 = 0 then (
  f_X5_readPart_175 d rc (V130) (a0) (x8)
  ) else (
  dv_z
  )
  ) else (
  if 400 ≤ x1 then (
  dv_z
  ) else (
  dv_b (zz4 + 1) fun x20 =>
  dv_b (dv_u V67 a0 5 0 (x20)) fun V130 =>
  dv_b (V130 a0 4 0) fun zz7 =>
  if zz7 = 0 then (
  f_X5_readPart_175x2 d rc (V130) (a0) (x8)
  ) else (
  dv_z
  )
  )
  )
  ) else (
  dv_b2 (f_X5_orderCode V67 (x1)) fun x30 _ =>
  dv_b (V67 a0 5 0) fun zz9 =>
  if x30 = (-1) then (
  dv_b (zz9 + 0) fun x32 =>
  dv_b (dv_u V67 a0 5 0 (x32)) fun V130 =>
  dv_b (V130 a0 4 0) fun zz10 =>
  if zz10 = 0 then (
  dv_z
  ) else (
  if x1 = 318 then (
  f_X5_readPart_154 d rc (V130) (x30) (a0)
  ) else (
  if x1 ≠ 327 then (
  f_X5_readPart_175x3 d rc (V130) (a0) (x30)
  ) else (
  f_X5_readPart_154 d rc (V130) (x30) (a0)
  )
  )
  )
  ) else (
  if 400 ≤ x1 then (
  dv_z
  ) else (
  dv_b (zz9 + 1) fun x47 =>
  dv_b (dv_u V67 a0 5 0 (x47)) fun V130 =>
  dv_b (V130 a0 4 0) fun zz12 =>
  if zz12 = 0 then (
  dv_z
  ) else (
  if x1 = 318 then (
  f_X5_readPart_154x2 d rc (V130) (x30) (a0)
  ) else (
  if x1 ≠ 327 then (
  f_X5_readPart_175x4 d rc (V130) (a0) (x30)
  ) else (
  f_X5_readPart_154x2 d rc (V130) (x30) (a0)
  )
  )
  )
  )
  )
  )
  ) else (
  dv_b2 (f_X5_takeNumber V67 (a0) (0) (1000)) fun V82 x62 =>
  dv_b (V82 a0 5 0) fun zz14 =>
  if x62 = (-1) then (
  dv_b (zz14 + 0) fun x66 =>
  dv_b (dv_u V82 a0 5 0 (x66)) fun V130 =>
  dv_b (V130 a0 4 0) fun zz15 =>
  if zz15 = 0 then (
  f_X5_readPart_175x5 d rc (V130) (a0) (x62)
  ) else (
  if x1 = 318 then (
  dv_z
  ) else (
  if x1 ≠ 327 then (
  f_X5_readPart_175x5 d rc (V130) (a0) (x62)
  ) else (
  dv_z
  )
  )
  )
  ) else (
  if 400 ≤ x1 then (
  dv_b (zz14 + 0) fun x80 =>
  dv_b (dv_u V82 a0 5 0 (x80)) fun V130 =>
  dv_b (V130 a0 4 0) fun zz17 =>
  if zz17 = 0 then (
  f_X5_readPart_175x6 d rc (V130) (a0) (x62)
  ) else (
  if x1 = 318 then (
  dv_z
  ) else (
  if x1 ≠ 327 then (
  f_X5_readPart_175x6 d rc (V130) (a0) (x62)
  ) else (
  dv_z
  )
  )
  )
  ) else (
  dv_z
  )
  )
  )
  ) else (
  dv_b2 (f_X5_fail V (a0)) fun V56 _ =>
  (V56, 0)
  )
  ) else (
  dv_b2 (f_X5_openBracket V (a0)) fun V12 x98 =>
  if x98 = 0 then (
  dv_b2 (f_X5_take V12 (a0) (93)) fun V35 x100 =>
  if x100 ≠ 0 then (
  (V35, 0)
  ) else (
  dv_b2 (f_X5_fail V35 (a0)) fun V42 _ =>
  (V42, 0)
  )
  ) else (
  dv_b2 (rc V12 (a0)) fun V19 _ =>
  dv_b (V19 a0 7 0) fun zz19 =>
  dv_b (zz19 - 1) fun x106 =>
  dv_b (dv_u V19 a0 7 0 (x106)) fun V29 =>
  dv_b2 (f_X5_take V29 (a0) (93)) fun V35 x109 =>
  if x109 ≠ 0 then (
  (V35, 0)
  ) else (
  dv_b2 (f_X5_fail V35 (a0)) fun V42 _ =>
  (V42, 0)
  )
  )
  )

noncomputable def f_X5_readSum_90 (d : Nat) (rc : dV → Int → dR) (V : dV) (a0 j8_1 : Int) : Sum (dV × Int × Int × Int) (dR) :=
  dv_b (V a0 3 0) fun zz1 =>
  dv_b2 (f_X10_add V (zz1) (j8_1)) fun V95 _ =>
  Sum.inr ((V95, 0))

noncomputable def f_X5_readSum_84 (d : Nat) (rc : dV → Int → dR) (V : dV) (a0 j8_2 j84_1 : Int) : Sum (dV × Int × Int × Int) (dR) :=
  dv_b (j8_2 + 1) fun x13 =>
  Sum.inl (V, a0, j84_1, x13)

noncomputable def f_X5_readSum_8c (d : Nat) (rc : dV → Int → dR) (V : dV) (a0 j8_1 j8_2 : Int) : Sum (dV × Int × Int × Int) (dR) :=
  if 400 ≤ j8_2 then (
  f_X5_readSum_90 d rc (V) (a0) (j8_1)
  ) else (
  dv_b2 (f_X5_seenToken V (a0)) fun x5 _ =>
  dv_b2 (f_X5_codeOf V (x5)) fun x6 _ =>
  if x6 ≠ (-1) then (
  dv_b (V a0 5 0) fun zz2 =>
  dv_b (zz2 + 1) fun x8 =>
  dv_b (dv_u V a0 5 0 (x8)) fun V38 =>
  if x6 = 3000 then (
  dv_b (V38 a0 3 0) fun zz3 =>
  dv_b2 (f_X10_add V38 (zz3) (j8_1)) fun V60 _ =>
  dv_b2 (rc V60 (a0)) fun V66 _ =>
  f_X5_readSum_84 d rc (V66) (a0) (j8_2) (x6)
  ) else (
  if x6 ≠ 3001 then (
  dv_b2 (rc V38 (a0)) fun V73 _ =>
  dv_b (V73 a0 3 0) fun zz4 =>
  dv_b2 (f_X10_add V73 (zz4) (x6)) fun V81 _ =>
  f_X5_readSum_84 d rc (V81) (a0) (j8_2) (j8_1)
  ) else (
  dv_b (V38 a0 3 0) fun zz5 =>
  dv_b2 (f_X10_add V38 (zz5) (j8_1)) fun V60 _ =>
  dv_b2 (rc V60 (a0)) fun V66 _ =>
  f_X5_readSum_84 d rc (V66) (a0) (j8_2) (x6)
  )
  )
  ) else (
  f_X5_readSum_90 d rc (V) (a0) (j8_1)
  )
  )
noncomputable def f_X5_readSum_8b (d : Nat) (rc : dV → Int → dR) (s : (dV × Int × Int × Int)) : Sum (dV × Int × Int × Int) (dR) := f_X5_readSum_8c d rc (s.1) (s.2.1) (s.2.2.1) (s.2.2.2)

theorem f_X5_readSum_8e (d : Nat) (rc : dV → Int → dR) (V : dV) (a0 j8_1 j8_2 : Int) : f_X5_readSum_8b d rc (V, a0, j8_1, j8_2) = f_X5_readSum_8c d rc V a0 j8_1 j8_2 := rfl

noncomputable def f_X5_readSum_B (d : Nat) (rc : dV → Int → dR) (V : dV) (a0 : Int) : dR :=
  dv_b2 (rc V (a0)) fun V1 _ =>
  dv_lp (f_X5_readSum_8b d rc) (V1, a0, (-1), 0)

noncomputable def f_X5_readSum : Nat → dV → Int → dR
  | 0 => (f_X5_readSum_B 0 (f_X5_readPart_B 0 (fun _ _ => dv_z)))
  | d + 1 => (f_X5_readSum_B (d + 1) (f_X5_readPart_B (d + 1) (f_X5_readSum d)))

noncomputable def f_X5_readPart (d : Nat) : dV → Int → dR := f_X5_readPart_B d (dv_pre (fun _ _ => dv_z) f_X5_readSum d)

theorem f_X5_readPart_d (d : Nat) (V : dV) (a0 : Int) : f_X5_readPart d V a0 = f_X5_readPart_B d (dv_pre (fun _ _ => dv_z) f_X5_readSum d) V a0 := rfl

theorem f_X5_readSum_d (d : Nat) (V : dV) (a0 : Int) : f_X5_readSum d V a0 = f_X5_readSum_B d (f_X5_readPart d) V a0 := by cases d <;> rfl

noncomputable def f_X5_readPlain_156 (d : Nat) (rc : dV → Int → dR) (V : dV) (a0 j4_1 : Int) : Sum (dV × Int × Int × Int) (dR) :=
  if j4_1 = 0 then (
  Sum.inr ((V, 0))
  ) else (
  dv_b (V a0 3 0) fun zz1 =>
  dv_b2 (f_X10_add V (zz1) (3008)) fun V167 _ =>
  Sum.inr ((V167, 0))
  )

noncomputable def f_X5_readPlain_133 (d : Nat) (rc : dV → Int → dR) (V : dV) (a0 j4_1 s133_0 : Int) : Sum (dV × Int × Int × Int) (dR) :=
  if s133_0 ≠ (-1) then (
  dv_b2 (f_X5_readSum 8 V (a0)) fun V145 _ =>
  dv_b (V145 a0 3 0) fun zz2 =>
  dv_b2 (f_X10_add V145 (zz2) (s133_0)) fun V153 _ =>
  f_X5_readPlain_156 d rc (V153) (a0) (j4_1)
  ) else (
  dv_b2 (f_X5_fail V (a0)) fun V140 _ =>
  Sum.inr ((V140, 0))
  )

noncomputable def f_X5_readPlain_37 (d : Nat) (rc : dV → Int → dR) (V : dV) (a0 j4_1 : Int) : Sum (dV × Int × Int × Int) (dR) :=
  dv_b2 (f_X5_seenToken V (a0)) fun x3 _ =>
  if x3 ≠ 40 then (
  dv_b2 (f_X5_readSum 8 V (a0)) fun V84 _ =>
  dv_b2 (f_X5_take V84 (a0) (60)) fun V90 x8 =>
  if x8 = 0 then (
  dv_b2 (f_X5_take V90 (a0) (62)) fun V105 x17 =>
  if x17 = 0 then (
  dv_b2 (f_X5_take V105 (a0) (61)) fun V120 x20 =>
  if x20 = 0 then (
  f_X5_readPlain_133 d rc (V120) (a0) (j4_1) ((-1))
  ) else (
  f_X5_readPlain_133 d rc (V120) (a0) (j4_1) (3007)
  )
  ) else (
  f_X5_readPlain_133 d rc (V105) (a0) (j4_1) (3006)
  )
  ) else (
  f_X5_readPlain_133 d rc (V90) (a0) (j4_1) (3005)
  )
  ) else (
  dv_b2 (f_X5_openBracket V (a0)) fun V47 x23 =>
  if x23 = 0 then (
  dv_b2 (f_X5_take V47 (a0) (41)) fun V70 x25 =>
  if x25 ≠ 0 then (
  f_X5_readPlain_156 d rc (V70) (a0) (j4_1)
  ) else (
  dv_b2 (f_X5_fail V70 (a0)) fun V77 _ =>
  f_X5_readPlain_156 d rc (V77) (a0) (j4_1)
  )
  ) else (
  dv_b2 (rc V47 (a0)) fun V54 _ =>
  dv_b (V54 a0 7 0) fun zz3 =>
  dv_b (zz3 - 1) fun x31 =>
  dv_b (dv_u V54 a0 7 0 (x31)) fun V64 =>
  dv_b2 (f_X5_take V64 (a0) (41)) fun V70 x34 =>
  if x34 ≠ 0 then (
  f_X5_readPlain_156 d rc (V70) (a0) (j4_1)
  ) else (
  dv_b2 (f_X5_fail V70 (a0)) fun V77 _ =>
  f_X5_readPlain_156 d rc (V77) (a0) (j4_1)
  )
  )
  )

noncomputable def f_X5_readPlain_30 (d : Nat) (rc : dV → Int → dR) (V : dV) (a0 j4_2 s30_0 : Int) : Sum (dV × Int × Int × Int) (dR) :=
  dv_b (j4_2 + 1) fun x42 =>
  Sum.inl (V, a0, s30_0, x42)

noncomputable def f_X5_readPlain_4c (d : Nat) (rc : dV → Int → dR) (V : dV) (a0 j4_1 j4_2 : Int) : Sum (dV × Int × Int × Int) (dR) :=
  if 400 ≤ j4_2 then (
  f_X5_readPlain_37 d rc (V) (a0) (j4_1)
  ) else (
  dv_b2 (f_X5_take V (a0) (314)) fun V15 x39 =>
  if x39 = 0 then (
  f_X5_readPlain_37 d rc (V15) (a0) (j4_1)
  ) else (
  if j4_1 ≠ 0 then (
  f_X5_readPlain_30 d rc (V15) (a0) (j4_2) (0)
  ) else (
  f_X5_readPlain_30 d rc (V15) (a0) (j4_2) (1)
  )
  )
  )
noncomputable def f_X5_readPlain_4b (d : Nat) (rc : dV → Int → dR) (s : (dV × Int × Int × Int)) : Sum (dV × Int × Int × Int) (dR) := f_X5_readPlain_4c d rc (s.1) (s.2.1) (s.2.2.1) (s.2.2.2)

theorem f_X5_readPlain_4e (d : Nat) (rc : dV → Int → dR) (V : dV) (a0 j4_1 j4_2 : Int) : f_X5_readPlain_4b d rc (V, a0, j4_1, j4_2) = f_X5_readPlain_4c d rc V a0 j4_1 j4_2 := rfl

noncomputable def f_X5_readPlain_B (d : Nat) (rc : dV → Int → dR) (V : dV) (a0 : Int) : dR :=
  dv_lp (f_X5_readPlain_4b d rc) (V, a0, 0, 0)

noncomputable def f_X5_readTest_128 (d : Nat) (rc : dV → Int → dR) (V : dV) (a0 j8_1 : Int) : Sum (dV × Int × Int × Int) (dR) :=
  dv_b (V a0 3 0) fun zz1 =>
  dv_b (V a0 3 0) fun zz2 =>
  dv_b (V zz2 2 0) fun zz3 =>
  dv_b2 (f_X10_setCode V (zz1) (j8_1) (zz3)) fun V140 _ =>
  Sum.inr ((V140, 0))

noncomputable def f_X5_readTest_122 (d : Nat) (rc : dV → Int → dR) (V : dV) (a0 j8_2 j122_1 : Int) : Sum (dV × Int × Int × Int) (dR) :=
  dv_b (j8_2 + 1) fun x11 =>
  Sum.inl (V, a0, j122_1, x11)

noncomputable def f_X5_readTest_122x2 (d : Nat) (rc : dV → Int → dR) (V : dV) (a0 j8_2 j122_1 : Int) : Sum (dV × Int × Int × Int) (dR) :=
  dv_b (j8_2 + 1) fun x39 =>
  Sum.inl (V, a0, j122_1, x39)

noncomputable def f_X5_readTest_8c (d : Nat) (rc : dV → Int → dR) (V : dV) (a0 j8_1 j8_2 : Int) : Sum (dV × Int × Int × Int) (dR) :=
  if 400 ≤ j8_2 then (
  f_X5_readTest_128 d rc (V) (a0) (j8_1)
  ) else (
  dv_b2 (f_X5_seenToken V (a0)) fun x6 _ =>
  if x6 = 312 then (
  dv_b2 (f_X5_take V (a0) (312)) fun V39 x7 =>
  if x7 = 0 then (
  dv_b (V39 a0 5 0) fun zz4 =>
  dv_b (zz4 + 1) fun x13 =>
  dv_b (dv_u V39 a0 5 0 (x13)) fun V87 =>
  dv_b (V87 a0 3 0) fun zz5 =>
  dv_b2 (f_X10_addJump V87 (zz5) (3009)) fun V97 x17 =>
  dv_b2 (rc V97 (a0)) fun V103 _ =>
  dv_b (V103 a0 3 0) fun zz6 =>
  dv_b (V103 a0 3 0) fun zz7 =>
  dv_b (V103 zz7 2 0) fun zz8 =>
  dv_b2 (f_X10_setCode V103 (zz6) (x17) (zz8)) fun V119 _ =>
  f_X5_readTest_122 d rc (V119) (a0) (j8_2) (j8_1)
  ) else (
  dv_b (V39 a0 3 0) fun zz9 =>
  dv_b (V39 a0 3 0) fun zz10 =>
  dv_b (V39 zz10 2 0) fun zz11 =>
  dv_b2 (f_X10_setCode V39 (zz9) (j8_1) (zz11)) fun V59 _ =>
  dv_b (V59 a0 3 0) fun zz12 =>
  dv_b2 (f_X10_addJump V59 (zz12) (3010)) fun V69 x30 =>
  dv_b2 (rc V69 (a0)) fun V74 _ =>
  f_X5_readTest_122 d rc (V74) (a0) (j8_2) (x30)
  )
  ) else (
  dv_b2 (f_X5_seenToken V (a0)) fun x34 _ =>
  if x34 ≠ 313 then (
  f_X5_readTest_128 d rc (V) (a0) (j8_1)
  ) else (
  dv_b2 (f_X5_take V (a0) (312)) fun V39 x35 =>
  if x35 = 0 then (
  dv_b (V39 a0 5 0) fun zz13 =>
  dv_b (zz13 + 1) fun x41 =>
  dv_b (dv_u V39 a0 5 0 (x41)) fun V87 =>
  dv_b (V87 a0 3 0) fun zz14 =>
  dv_b2 (f_X10_addJump V87 (zz14) (3009)) fun V97 x45 =>
  dv_b2 (rc V97 (a0)) fun V103 _ =>
  dv_b (V103 a0 3 0) fun zz15 =>
  dv_b (V103 a0 3 0) fun zz16 =>
  dv_b (V103 zz16 2 0) fun zz17 =>
  dv_b2 (f_X10_setCode V103 (zz15) (x45) (zz17)) fun V119 _ =>
  f_X5_readTest_122x2 d rc (V119) (a0) (j8_2) (j8_1)
  ) else (
  dv_b (V39 a0 3 0) fun zz18 =>
  dv_b (V39 a0 3 0) fun zz19 =>
  dv_b (V39 zz19 2 0) fun zz20 =>
  dv_b2 (f_X10_setCode V39 (zz18) (j8_1) (zz20)) fun V59 _ =>
  dv_b (V59 a0 3 0) fun zz21 =>
  dv_b2 (f_X10_addJump V59 (zz21) (3010)) fun V69 x58 =>
  dv_b2 (rc V69 (a0)) fun V74 _ =>
  f_X5_readTest_122x2 d rc (V74) (a0) (j8_2) (x58)
  )
  )
  )
  )
noncomputable def f_X5_readTest_8b (d : Nat) (rc : dV → Int → dR) (s : (dV × Int × Int × Int)) : Sum (dV × Int × Int × Int) (dR) := f_X5_readTest_8c d rc (s.1) (s.2.1) (s.2.2.1) (s.2.2.2)

theorem f_X5_readTest_8e (d : Nat) (rc : dV → Int → dR) (V : dV) (a0 j8_1 j8_2 : Int) : f_X5_readTest_8b d rc (V, a0, j8_1, j8_2) = f_X5_readTest_8c d rc V a0 j8_1 j8_2 := rfl

noncomputable def f_X5_readTest_B (d : Nat) (rc : dV → Int → dR) (V : dV) (a0 : Int) : dR :=
  dv_b2 (rc V (a0)) fun V1 _ =>
  dv_lp (f_X5_readTest_8b d rc) (V1, a0, (-1), 0)

noncomputable def f_X5_readTest : Nat → dV → Int → dR
  | 0 => (f_X5_readTest_B 0 (f_X5_readPlain_B 0 (fun _ _ => dv_z)))
  | d + 1 => (f_X5_readTest_B (d + 1) (f_X5_readPlain_B (d + 1) (f_X5_readTest d)))

noncomputable def f_X5_readPlain (d : Nat) : dV → Int → dR := f_X5_readPlain_B d (dv_pre (fun _ _ => dv_z) f_X5_readTest d)

theorem f_X5_readPlain_d (d : Nat) (V : dV) (a0 : Int) : f_X5_readPlain d V a0 = f_X5_readPlain_B d (dv_pre (fun _ _ => dv_z) f_X5_readTest d) V a0 := rfl

theorem f_X5_readTest_d (d : Nat) (V : dV) (a0 : Int) : f_X5_readTest d V a0 = f_X5_readTest_B d (f_X5_readPlain d) V a0 := by cases d <;> rfl


noncomputable def f_X5_is_15c (w1 : List Int32) (V : dV) (a0 p2 p3 j15_4 : Int) : Sum (dV × Int × Int × Int × Int) (dP) :=
  if p3 ≤ j15_4 then (
  Sum.inr ((1, ()))
  ) else (
  dv_b (V a0 2 0) fun zz1 =>
  dv_b (V zz1 0 (j15_4)) fun x4 =>
  dv_b (j15_4 - p2) fun x5 =>
  dv_b (dv_ch (w1.getD (x5).toNat 0)) fun x6 =>
  if x4 = x6 then (
  dv_b (j15_4 + 1) fun x7 =>
  Sum.inl (V, a0, p2, p3, x7)
  ) else (
  Sum.inr ((0, ()))
  )
  )
noncomputable def f_X5_is_15b (w1 : List Int32) (s : (dV × Int × Int × Int × Int)) : Sum (dV × Int × Int × Int × Int) (dP) := f_X5_is_15c w1 (s.1) (s.2.1) (s.2.2.1) (s.2.2.2.1) (s.2.2.2.2)

theorem f_X5_is_15e (w1 : List Int32) (V : dV) (a0 p2 p3 j15_4 : Int) : f_X5_is_15b w1 (V, a0, p2, p3, j15_4) = f_X5_is_15c w1 V a0 p2 p3 j15_4 := rfl

noncomputable def f_X5_is (w1 : List Int32) (V : dV) (a0 p2 p3 : Int) : dP :=
  dv_b (p3 - p2) fun x1 =>
  dv_b ((w1.length : Int)) fun x2 =>
  if x1 = x2 then (
  dv_lp (f_X5_is_15b w1) (V, a0, p2, p3, p2)
  ) else (
  (0, ())
  )

noncomputable def f_X5_wordFrom (V : dV) (a0 p1 p2 : Int) : dP :=
  dv_b2 (f_X5_is ([99, 111, 115, 116, 115] : List Int32) V (a0) (p1) (p2)) fun x1 _ =>
  if x1 = 0 then (
  dv_b2 (f_X5_is ([119, 101, 97, 114, 115] : List Int32) V (a0) (p1) (p2)) fun x2 _ =>
  if x2 = 0 then (
  dv_b2 (f_X5_is ([98, 97, 114, 115] : List Int32) V (a0) (p1) (p2)) fun x3 _ =>
  if x3 = 0 then (
  dv_b2 (f_X5_is ([108, 97, 121] : List Int32) V (a0) (p1) (p2)) fun x4 _ =>
  if x4 = 0 then (
  dv_b2 (f_X5_is ([114, 111, 108, 108] : List Int32) V (a0) (p1) (p2)) fun x5 _ =>
  if x5 = 0 then (
  dv_b2 (f_X5_is ([109, 105, 114, 114, 111, 114] : List Int32) V (a0) (p1) (p2)) fun x6 _ =>
  if x6 = 0 then (
  dv_b2 (f_X5_is ([112, 97, 115, 115] : List Int32) V (a0) (p1) (p2)) fun x7 _ =>
  if x7 = 0 then (
  dv_b2 (f_X5_is ([105, 102] : List Int32) V (a0) (p1) (p2)) fun x8 _ =>
  if x8 = 0 then (
  dv_b2 (f_X5_is ([116, 105, 109, 101, 115] : List Int32) V (a0) (p1) (p2)) fun x9 _ =>
  if x9 = 0 then (
  dv_b2 (f_X5_is ([97, 116] : List Int32) V (a0) (p1) (p2)) fun x10 _ =>
  if x10 = 0 then (
  dv_b2 (f_X5_is ([98, 121] : List Int32) V (a0) (p1) (p2)) fun x11 _ =>
  if x11 = 0 then (
  dv_b2 (f_X5_is ([111, 114] : List Int32) V (a0) (p1) (p2)) fun x12 _ =>
  if x12 = 0 then (
  dv_b2 (f_X5_is ([97, 110, 100] : List Int32) V (a0) (p1) (p2)) fun x13 _ =>
  if x13 = 0 then (
  dv_b2 (f_X5_is ([110, 111, 116] : List Int32) V (a0) (p1) (p2)) fun x14 _ =>
  if x14 = 0 then (
  dv_b2 (f_X5_is ([99, 97, 114, 112, 101, 116] : List Int32) V (a0) (p1) (p2)) fun x15 _ =>
  if x15 = 0 then (
  dv_b2 (f_X5_is ([115, 105, 100, 101] : List Int32) V (a0) (p1) (p2)) fun x16 _ =>
  if x16 = 0 then (
  dv_b2 (f_X5_is ([107, 105, 110, 100] : List Int32) V (a0) (p1) (p2)) fun x17 _ =>
  if x17 = 0 then (
  dv_b2 (f_X5_is ([112, 105, 108, 101] : List Int32) V (a0) (p1) (p2)) fun x18 _ =>
  if x18 = 0 then (
  dv_b2 (f_X5_is ([120] : List Int32) V (a0) (p1) (p2)) fun x19 _ =>
  if x19 = 0 then (
  dv_b2 (f_X5_is ([121] : List Int32) V (a0) (p1) (p2)) fun x20 _ =>
  if x20 = 0 then (
  dv_b2 (f_X5_is ([121, 101, 97, 114] : List Int32) V (a0) (p1) (p2)) fun x21 _ =>
  if x21 = 0 then (
  dv_b2 (f_X5_is ([109, 111, 111, 100] : List Int32) V (a0) (p1) (p2)) fun x22 _ =>
  if x22 = 0 then (
  dv_b2 (f_X5_is ([100, 111, 110, 101] : List Int32) V (a0) (p1) (p2)) fun x23 _ =>
  if x23 = 0 then (
  dv_b2 (f_X5_is ([108, 97, 116, 101, 115, 116] : List Int32) V (a0) (p1) (p2)) fun x24 _ =>
  if x24 = 0 then (
  dv_b2 (f_X5_is ([98, 97, 114, 101] : List Int32) V (a0) (p1) (p2)) fun x25 _ =>
  if x25 = 0 then (
  dv_b2 (f_X5_is ([112, 97, 105, 100] : List Int32) V (a0) (p1) (p2)) fun x26 _ =>
  if x26 = 0 then (
  dv_b2 (f_X5_is ([108, 97, 105, 100] : List Int32) V (a0) (p1) (p2)) fun x27 _ =>
  if x27 = 0 then (
  (300, ())
  ) else (
  (327, ())
  )
  ) else (
  (326, ())
  )
  ) else (
  (325, ())
  )
  ) else (
  (324, ())
  )
  ) else (
  (323, ())
  )
  ) else (
  (322, ())
  )
  ) else (
  (321, ())
  )
  ) else (
  (320, ())
  )
  ) else (
  (319, ())
  )
  ) else (
  (318, ())
  )
  ) else (
  (317, ())
  )
  ) else (
  (316, ())
  )
  ) else (
  (315, ())
  )
  ) else (
  (314, ())
  )
  ) else (
  (313, ())
  )
  ) else (
  (312, ())
  )
  ) else (
  (311, ())
  )
  ) else (
  (310, ())
  )
  ) else (
  (309, ())
  )
  ) else (
  (308, ())
  )
  ) else (
  (307, ())
  )
  ) else (
  (306, ())
  )
  ) else (
  (305, ())
  )
  ) else (
  (304, ())
  )
  ) else (
  (303, ())
  )
  ) else (
  (302, ())
  )
  ) else (
  (301, ())
  )

noncomputable def f_X5_scan_142 (V : dV) (a0 j6_1 : Int) : Sum (dV × Int × Int × Int × Int) (dR) :=
  dv_b (dv_u V a0 0 (j6_1) ((-1))) fun V148 =>
  dv_b (V148 a0 2 0) fun zz1 =>
  dv_b (V148 zz1 1 0) fun zz2 =>
  dv_b (dv_u V148 a0 1 (j6_1) (zz2)) fun V161 =>
  Sum.inr ((V161, 0))

noncomputable def f_X5_scan_133 (V : dV) (a0 j6_3 j133_1 j133_5 : Int) : Sum (dV × Int × Int × Int × Int) (dR) :=
  dv_b (j6_3 + 1) fun x14 =>
  Sum.inl (V, a0, j133_1, j133_5, x14)

noncomputable def f_X5_scan_130 (V : dV) (a0 j6_1 j6_3 j130_5 : Int) : Sum (dV × Int × Int × Int × Int) (dR) :=
  dv_b (j6_1 + 1) fun x25 =>
  f_X5_scan_133 (V) (a0) (j6_3) (x25) (j130_5)

noncomputable def f_X5_scan_6c (V : dV) (a0 j6_1 j6_2 j6_3 : Int) : Sum (dV × Int × Int × Int × Int) (dR) :=
  if 400 ≤ j6_3 then (
  f_X5_scan_142 (V) (a0) (j6_1)
  ) else (
  dv_b (V a0 2 0) fun zz3 =>
  dv_b (V zz3 1 0) fun zz4 =>
  if zz4 ≤ j6_2 then (
  f_X5_scan_142 (V) (a0) (j6_1)
  ) else (
  dv_b (V a0 2 0) fun zz5 =>
  dv_b (V zz5 0 (j6_2)) fun x9 =>
  dv_b (j6_2 + 1) fun x10 =>
  if x9 = 32 then (
  f_X5_scan_133 (V) (a0) (j6_3) (j6_1) (x10)
  ) else (
  dv_b (dv_u V a0 1 (j6_1) (j6_2)) fun V53 =>
  dv_b2 (f_X5_isLetter V53 (x9)) fun x20 _ =>
  if x20 = 0 then (
  dv_b2 (f_X5_isDigit V53 (x9)) fun x26 _ =>
  if x26 = 0 then (
  dv_b (dv_u V53 a0 0 (j6_1) (x9)) fun V129 =>
  f_X5_scan_130 (V129) (a0) (j6_1) (j6_3) (x10)
  ) else (
  dv_b2 (f_X5_endOfDigits V53 (a0) (x10)) fun x33 _ =>
  dv_b2 (f_X5_valueFrom V53 (a0) (j6_2) (x33)) fun x35 _ =>
  dv_b (dv_add (400) (x35)) fun x36 =>
  dv_b (dv_u V53 a0 0 (j6_1) (x36)) fun V118 =>
  f_X5_scan_130 (V118) (a0) (j6_1) (j6_3) (x33)
  )
  ) else (
  dv_b2 (f_X5_endOfLetters V53 (a0) (x10)) fun x42 _ =>
  dv_b2 (f_X5_wordFrom V53 (a0) (j6_2) (x42)) fun x44 _ =>
  dv_b (dv_u V53 a0 0 (j6_1) (x44)) fun V82 =>
  f_X5_scan_130 (V82) (a0) (j6_1) (j6_3) (x42)
  )
  )
  )
  )
noncomputable def f_X5_scan_6b (s : (dV × Int × Int × Int × Int)) : Sum (dV × Int × Int × Int × Int) (dR) := f_X5_scan_6c (s.1) (s.2.1) (s.2.2.1) (s.2.2.2.1) (s.2.2.2.2)

theorem f_X5_scan_6e (V : dV) (a0 j6_1 j6_2 j6_3 : Int) : f_X5_scan_6b (V, a0, j6_1, j6_2, j6_3) = f_X5_scan_6c V a0 j6_1 j6_2 j6_3 := rfl

noncomputable def f_X5_scan (V : dV) (a0 : Int) : dR :=
  dv_lp (f_X5_scan_6b) (V, a0, 0, 0, 0)

noncomputable def f_X5_readSums_65 (V : dV) (a0 p1 j17_2 : Int) : Sum (dV × Int × Int × Int) (dR) :=
  dv_b (V a0 3 0) fun zz4 =>
  dv_b (3 + j17_2) fun x8 =>
  dv_b (V a0 3 0) fun zz5 =>
  dv_b (V zz5 2 0) fun zz6 =>
  dv_b2 (f_X10_setMark V (zz4) (x8) (zz6)) fun V79 _ =>
  dv_b (j17_2 + 1) fun x13 =>
  Sum.inl (V79, a0, p1, x13)

noncomputable def f_X5_readSums_56 (V : dV) (a0 p1 j17_2 : Int) : Sum (dV × Int × Int × Int) (dR) :=
  if p1 ≤ j17_2 then (
  f_X5_readSums_65 (V) (a0) (p1) (j17_2)
  ) else (
  dv_b2 (f_X5_readSum 8 V (a0)) fun V62 _ =>
  f_X5_readSums_65 (V62) (a0) (p1) (j17_2)
  )

noncomputable def f_X5_readSums_46 (V : dV) (a0 p1 j17_2 s46_1 : Int) : Sum (dV × Int × Int × Int) (dR) :=
  dv_b2 (f_X5_take V (a0) (s46_1)) fun V46 x15 =>
  if x15 ≠ 0 then (
  f_X5_readSums_56 (V46) (a0) (p1) (j17_2)
  ) else (
  dv_b2 (f_X5_fail V46 (a0)) fun V53 _ =>
  f_X5_readSums_56 (V53) (a0) (p1) (j17_2)
  )

noncomputable def f_X5_readSums_17c (V : dV) (a0 p1 j17_2 : Int) : Sum (dV × Int × Int × Int) (dR) :=
  if 3 ≤ j17_2 then (
  Sum.inr ((V, 0))
  ) else (
  if j17_2 ≤ 0 then (
  f_X5_readSums_56 (V) (a0) (p1) (j17_2)
  ) else (
  if p1 ≤ j17_2 then (
  f_X5_readSums_56 (V) (a0) (p1) (j17_2)
  ) else (
  if j17_2 ≠ 1 then (
  f_X5_readSums_46 (V) (a0) (p1) (j17_2) (311)
  ) else (
  f_X5_readSums_46 (V) (a0) (p1) (j17_2) (310)
  )
  )
  )
  )
noncomputable def f_X5_readSums_17b (s : (dV × Int × Int × Int)) : Sum (dV × Int × Int × Int) (dR) := f_X5_readSums_17c (s.1) (s.2.1) (s.2.2.1) (s.2.2.2)

theorem f_X5_readSums_17e (V : dV) (a0 p1 j17_2 : Int) : f_X5_readSums_17b (V, a0, p1, j17_2) = f_X5_readSums_17c V a0 p1 j17_2 := rfl

noncomputable def f_X5_readSums (V : dV) (a0 p1 : Int) : dR :=
  dv_b (V a0 3 0) fun zz1 =>
  dv_b (V a0 3 0) fun zz2 =>
  dv_b (V zz2 2 0) fun zz3 =>
  dv_b2 (f_X10_setMark V (zz1) (2) (zz3)) fun V12 _ =>
  dv_lp (f_X5_readSums_17b) (V12, a0, p1, 0)

noncomputable def f_X5_readClause_47 (V : dV) (a0 : Int) : dR :=
  dv_b2 (f_X5_fail V (a0)) fun V48 _ =>
  (V48, 0)

noncomputable def f_X5_readClause_185 (V : dV) (a0 : Int) : dR :=
  dv_b (V a0 3 0) fun zz11 =>
  dv_b (V a0 3 0) fun zz12 =>
  dv_b (V zz12 2 0) fun zz13 =>
  dv_b2 (f_X10_setMark V (zz11) (7) (zz13)) fun V198 _ =>
  (V198, 0)

noncomputable def f_X5_readClause_155 (V : dV) (a0 : Int) : dR :=
  dv_b (V a0 3 0) fun zz8 =>
  dv_b (V a0 3 0) fun zz9 =>
  dv_b (V zz9 2 0) fun zz10 =>
  dv_b2 (f_X10_setMark V (zz8) (6) (zz10)) fun V168 _ =>
  dv_b2 (f_X5_take V168 (a0) (308)) fun V175 x24 =>
  if x24 = 0 then (
  f_X5_readClause_185 (V175) (a0)
  ) else (
  dv_b2 (f_X5_readTest 8 V175 (a0)) fun V182 _ =>
  f_X5_readClause_185 (V182) (a0)
  )

noncomputable def f_X5_readClause_109 (V : dV) (a0 s109_1 : Int) : dR :=
  dv_b2 (f_X5_readSums V (a0) (s109_1)) fun V109 _ =>
  dv_b (V109 a0 4 0) fun zz7 =>
  if zz7 = 0 then (
  f_X5_readClause_155 (V109) (a0)
  ) else (
  dv_b2 (f_X5_take V109 (a0) (309)) fun V123 x33 =>
  if x33 = 0 then (
  f_X5_readClause_155 (V123) (a0)
  ) else (
  dv_b2 (f_X5_takeNumber V123 (a0) (1) (20)) fun V133 x37 =>
  dv_b (V133 a0 3 0) fun zz14 =>
  dv_b2 (f_X10_setMark V133 (zz14) (1) (x37)) fun V143 _ =>
  if x37 ≠ (-1) then (
  f_X5_readClause_155 (V143) (a0)
  ) else (
  dv_b2 (f_X5_fail V143 (a0)) fun V152 _ =>
  f_X5_readClause_155 (V152) (a0)
  )
  )
  )

noncomputable def f_X5_readClause_44 (V : dV) (x5 a0 s44_1 : Int) : dR :=
  if x5 ≤ s44_1 then (
  dv_b (V a0 5 0) fun zz4 =>
  dv_b (zz4 + 1) fun x10 =>
  dv_b (dv_u V a0 5 0 (x10)) fun V59 =>
  dv_b (V59 a0 3 0) fun zz5 =>
  dv_b2 (f_X10_openClause V59 (zz5) (x5)) fun V67 _ =>
  dv_b (V67 a0 4 0) fun zz6 =>
  if zz6 = 0 then (
  if x5 ≠ 2 then (
  f_X5_readClause_109 (V67) (a0) (1)
  ) else (
  f_X5_readClause_109 (V67) (a0) (0)
  )
  ) else (
  if x5 ≠ 0 then (
  if x5 ≠ 1 then (
  f_X5_readClause_109 (V67) (a0) (0)
  ) else (
  f_X5_readClause_109 (V67) (a0) (1)
  )
  ) else (
  f_X5_readClause_109 (V67) (a0) (3)
  )
  )
  ) else (
  f_X5_readClause_47 (V) (a0)
  )

noncomputable def f_X5_readClause_25 (V : dV) (a0 x3 s25_1 : Int) : dR :=
  dv_b (dv_sub (x3) (s25_1)) fun x5 =>
  if x5 < 0 then (
  f_X5_readClause_47 (V) (a0)
  ) else (
  dv_b (V a0 4 0) fun zz3 =>
  if zz3 = 0 then (
  f_X5_readClause_44 (V) (x5) (a0) (2)
  ) else (
  f_X5_readClause_44 (V) (x5) (a0) (3)
  )
  )

noncomputable def f_X5_readClause (V : dV) (a0 : Int) : dR :=
  dv_b (V a0 5 0) fun zz1 =>
  dv_b (V a0 0 (zz1)) fun x3 =>
  dv_b (V a0 4 0) fun zz2 =>
  if zz2 = 0 then (
  f_X5_readClause_25 (V) (a0) (x3) (301)
  ) else (
  f_X5_readClause_25 (V) (a0) (x3) (304)
  )

noncomputable def f_X5_read_105 (V : dV) (a0 : Int) : Sum (dV × Int × Int) (dR) :=
  dv_b2 (f_X5_fail V (a0)) fun V106 _ =>
  dv_b (V106 a0 8 0) fun zz2 =>
  Sum.inr ((V106, zz2))

noncomputable def f_X5_read_49c (V : dV) (a0 j49_4 : Int) : Sum (dV × Int × Int) (dR) :=
  if 12 ≤ j49_4 then (
  f_X5_read_105 (V) (a0)
  ) else (
  dv_b (V a0 8 0) fun zz3 =>
  if zz3 ≠ (-1) then (
  f_X5_read_105 (V) (a0)
  ) else (
  dv_b2 (f_X5_readClause V (a0)) fun V65 _ =>
  dv_b2 (f_X5_take V65 (a0) (59)) fun V71 x36 =>
  if x36 ≠ 0 then (
  dv_b (j49_4 + 1) fun x39 =>
  Sum.inl (V71, a0, x39)
  ) else (
  dv_b (V71 a0 5 0) fun zz4 =>
  dv_b (V71 a0 0 (zz4)) fun x42 =>
  if x42 = (-1) then (
  dv_b (V71 a0 8 0) fun zz5 =>
  Sum.inr ((V71, zz5))
  ) else (
  dv_b2 (f_X5_fail V71 (a0)) fun V91 _ =>
  dv_b (V91 a0 8 0) fun zz6 =>
  Sum.inr ((V91, zz6))
  )
  )
  )
  )
noncomputable def f_X5_read_49b (s : (dV × Int × Int)) : Sum (dV × Int × Int) (dR) := f_X5_read_49c (s.1) (s.2.1) (s.2.2)

theorem f_X5_read_49e (V : dV) (a0 j49_4 : Int) : f_X5_read_49b (V, a0, j49_4) = f_X5_read_49c V a0 j49_4 := rfl

noncomputable def f_X5_read (V : dV) (a0 p1 p2 p3 : Int) : dR :=
  dv_b (dv_u V a0 2 0 (p1)) fun V2 =>
  dv_b (dv_u V2 a0 3 0 (p2)) fun V7 =>
  dv_b (dv_u V7 a0 4 0 (p3)) fun V12 =>
  dv_b (dv_u V12 a0 5 0 (0)) fun V17 =>
  dv_b (dv_u V17 a0 6 0 (0)) fun V22 =>
  dv_b (dv_u V22 a0 7 0 (0)) fun V27 =>
  dv_b (dv_u V27 a0 8 0 ((-1))) fun V32 =>
  dv_b (V32 a0 3 0) fun zz1 =>
  dv_b2 (f_X10_clear V32 (zz1)) fun V39 _ =>
  dv_b2 (f_X5_scan V39 (a0)) fun V43 _ =>
  dv_lp (f_X5_read_49b) (V43, a0, 0)

noncomputable def f_X11_law (V : dV) (a0 : Int) : dR :=
  dv_b (V a0 0 0) fun zz1 =>
  dv_b (V zz1 5 0) fun zz2 =>
  if zz2 < 6 then (
  dv_b (V a0 6 0) fun zz3 =>
  dv_b (V a0 5 0) fun zz4 =>
  dv_b (V a0 0 0) fun zz5 =>
  dv_b (V a0 0 0) fun zz6 =>
  dv_b (V zz6 5 0) fun zz7 =>
  dv_b (V zz5 1 (zz7)) fun b6 =>
  dv_b2 (f_X5_read V (zz3) (zz4) (b6) (0)) fun V52 x7 =>
  dv_b (dv_u V52 a0 15 0 (x7)) fun V55 =>
  dv_b (V55 a0 5 0) fun zz8 =>
  dv_b (dv_u V55 zz8 1 0 (0)) fun V63 =>
  dv_b (V63 a0 15 0) fun zz9 =>
  if zz9 = (-1) then (
  dv_b (V63 a0 0 0) fun zz10 =>
  dv_b (V63 zz10 5 0) fun zz11 =>
  dv_b (zz11 + 1) fun x19 =>
  dv_b (dv_u V63 zz10 5 0 (x19)) fun V91 =>
  dv_b (V91 a0 0 0) fun zz12 =>
  dv_b (V91 zz12 5 0) fun zz13 =>
  dv_b (zz13 - 1) fun x24 =>
  dv_b2 (f_X11_answer V91 (a0) (x24)) fun V104 x25 =>
  (V104, x25)
  ) else (
  dv_b2 (f_X11_answer V63 (a0) ((-6))) fun V77 x30 =>
  (V77, x30)
  )
  ) else (
  dv_b (V a0 5 0) fun zz14 =>
  dv_b (dv_u V zz14 1 0 (0)) fun V17 =>
  dv_b2 (f_X11_answer V17 (a0) ((-5))) fun V23 x38 =>
  (V23, x38)
  )

noncomputable def f_X11_orders_107c (V : dV) (x56 a0 j84_1 j107_3 : Int) : Sum (dV × Int × Int × Int × Int) (Sum (dV × Int × Int) (dR)) :=
  if x56 ≤ j107_3 then (
  dv_b (j84_1 + 1) fun x63 =>
  Sum.inr (Sum.inl (V, a0, x63))
  ) else (
  dv_b2 (f_X11_runOnce V (a0) (j84_1)) fun V114 x64 =>
  if x64 ≠ 0 then (
  dv_b (j107_3 + 1) fun x72 =>
  Sum.inl (V114, x56, a0, j84_1, x72)
  ) else (
  dv_b (V114 a0 10 0) fun zz15 =>
  dv_b (V114 a0 0 0) fun zz16 =>
  dv_b (V114 zz16 0 0) fun zz17 =>
  dv_b2 (f_X4_restore V114 (zz15) (zz17)) fun V131 _ =>
  dv_b (dv_u V131 a0 17 0 (j84_1)) fun V136 =>
  dv_b2 (f_X11_answer V136 (a0) ((-3))) fun V142 x87 =>
  Sum.inr (Sum.inr ((V142, x87)))
  )
  )
noncomputable def f_X11_orders_107b (s : (dV × Int × Int × Int × Int)) : Sum (dV × Int × Int × Int × Int) (Sum (dV × Int × Int) (dR)) := f_X11_orders_107c (s.1) (s.2.1) (s.2.2.1) (s.2.2.2.1) (s.2.2.2.2)

theorem f_X11_orders_107e (V : dV) (x56 a0 j84_1 j107_3 : Int) : f_X11_orders_107b (V, x56, a0, j84_1, j107_3) = f_X11_orders_107c V x56 a0 j84_1 j107_3 := rfl

noncomputable def f_X11_orders_84c (V : dV) (a0 j84_1 : Int) : Sum (dV × Int × Int) (dR) :=
  dv_b (V a0 7 0) fun zz11 =>
  dv_b (V zz11 3 0) fun zz12 =>
  if zz12 ≤ j84_1 then (
  dv_b (V a0 8 0) fun zz13 =>
  dv_b (V zz13 1 (1)) fun x47 =>
  dv_b2 (f_X11_answer V (a0) (x47)) fun V168 x48 =>
  Sum.inr ((V168, x48))
  ) else (
  dv_b (V a0 7 0) fun zz14 =>
  dv_b2 (f_X10_mark V (zz14) (j84_1) (1)) fun x56 _ =>
  dv_lp (f_X11_orders_107b) (V, x56, a0, j84_1, 0)
  )
noncomputable def f_X11_orders_84b (s : (dV × Int × Int)) : Sum (dV × Int × Int) (dR) := f_X11_orders_84c (s.1) (s.2.1) (s.2.2)

theorem f_X11_orders_84e (V : dV) (a0 j84_1 : Int) : f_X11_orders_84b (V, a0, j84_1) = f_X11_orders_84c V a0 j84_1 := rfl

noncomputable def f_X11_orders (V : dV) (a0 : Int) : dR :=
  dv_b (dv_u V a0 17 0 ((-1))) fun V2 =>
  dv_b (V2 a0 6 0) fun zz1 =>
  dv_b (V2 a0 5 0) fun zz2 =>
  dv_b (V2 a0 7 0) fun zz3 =>
  dv_b2 (f_X5_read V2 (zz1) (zz2) (zz3) (1)) fun V19 x4 =>
  dv_b (dv_u V19 a0 15 0 (x4)) fun V22 =>
  dv_b (V22 a0 5 0) fun zz4 =>
  dv_b (dv_u V22 zz4 1 0 (0)) fun V30 =>
  dv_b (V30 a0 15 0) fun zz5 =>
  if zz5 = (-1) then (
  dv_b (V30 a0 10 0) fun zz6 =>
  dv_b (V30 a0 0 0) fun zz7 =>
  dv_b (V30 zz7 0 0) fun zz8 =>
  dv_b2 (f_X4_save V30 (zz6) (zz8)) fun V59 _ =>
  dv_b (V59 a0 8 0) fun zz9 =>
  dv_b (dv_u V59 zz9 1 (1) (0)) fun V71 =>
  dv_b (V71 a0 8 0) fun zz10 =>
  dv_b (dv_u V71 zz10 1 (2) ((-1))) fun V81 =>
  dv_lp (f_X11_orders_84b) (V81, a0, 0)
  ) else (
  dv_b2 (f_X11_answer V30 (a0) ((-6))) fun V44 x95 =>
  (V44, x95)
  )



noncomputable def f_X12_lies (V : dV) (p1 p2 p3 : Int) : dP :=
  if p1 < p2 then (
  (0, ())
  ) else (
  if p3 < p1 then (
  (0, ())
  ) else (
  (1, ())
  )
  )

noncomputable def f_X12_lesser (V : dV) (p1 p2 : Int) : dP :=
  if p2 ≤ p1 then (
  (p2, ())
  ) else (
  (p1, ())
  )

noncomputable def f_X12_greater (V : dV) (p1 p2 : Int) : dP :=
  if p1 ≤ p2 then (
  (p2, ())
  ) else (
  (p1, ())
  )

noncomputable def f_X12_isIn (V : dV) (p1 p2 : Int) : dP :=
  dv_b (dv_shr (p1) (p2)) fun x1 =>
  dv_b (dv_and (x1) (1)) fun x2 =>
  if x2 ≠ 1 then (
  (0, ())
  ) else (
  (1, ())
  )

noncomputable def f_X12_isSide (V : dV) (p1 : Int) : dP :=
  dv_b2 (f_X12_lies V (p1) (1) (12)) fun x1 _ =>
  (x1, ())

noncomputable def f_X12_isAlong (V : dV) (p1 : Int) : dP :=
  dv_b2 (f_X12_lies V (p1) (0) (11)) fun x1 _ =>
  (x1, ())

noncomputable def f_X12_canBe (V : dV) (p1 p2 p3 : Int) : dP :=
  dv_b2 (f_X12_isSide V (p1)) fun x1 _ =>
  if x1 = 0 then (
  (0, ())
  ) else (
  dv_b2 (f_X12_lies V (p2) (0) (3)) fun x2 _ =>
  if x2 = 0 then (
  (0, ())
  ) else (
  dv_b2 (f_X12_lies V (p3) (0) (9)) fun x3 _ =>
  if x3 = 0 then (
  (0, ())
  ) else (
  (1, ())
  )
  )
  )

noncomputable def f_X12_isTerm (V : dV) (p1 p2 : Int) : dP :=
  if p1 = 0 then (
  dv_b2 (f_X12_lies V (p2) (0) (999)) fun x1 _ =>
  (x1, ())
  ) else (
  if p1 = 1 then (
  dv_b2 (f_X12_lies V (p2) (0) (10)) fun x2 _ =>
  (x2, ())
  ) else (
  if p1 = 2 then (
  dv_b2 (f_X12_lies V (p2) (0) (9)) fun x3 _ =>
  (x3, ())
  ) else (
  (0, ())
  )))

noncomputable def f_X12_termAt (V : dV) (p1 : Int) : dP :=
  if p1 ≠ 0 then (
  if p1 ≠ 1 then (
  (66, ())
  ) else (
  (65, ())
  )
  ) else (
  (28, ())
  )

noncomputable def f_X12_isSmall (V : dV) (p1 : Int) : dP :=
  if p1 < 97 then (
  (0, ())
  ) else (
  if 122 < p1 then (
  (0, ())
  ) else (
  (1, ())
  )
  )

noncomputable def f_X12_isDigit (V : dV) (p1 : Int) : dP :=
  if p1 < 48 then (
  (0, ())
  ) else (
  if 57 < p1 then (
  (0, ())
  ) else (
  (1, ())
  )
  )

noncomputable def f_X12_sign (V : dV) (p1 : Int) : dP :=
  dv_b (100 + p1) fun x1 =>
  (x1, ())

noncomputable def f_X12_many (V : dV) (a0 : Int) : dP :=
  dv_b (V a0 2 (69)) fun x2 =>
  (x2, ())

noncomputable def f_X12_isCarpet (V : dV) (a0 p1 : Int) : dP :=
  dv_b2 (f_X12_many V (a0)) fun x1 _ =>
  dv_b (x1 - 1) fun x2 =>
  dv_b2 (f_X12_lies V (p1) (0) (x2)) fun x3 _ =>
  (x3, ())

noncomputable def f_X12_isLaid (V : dV) (a0 p1 : Int) : dP :=
  dv_b (9 + p1) fun x2 =>
  dv_b (V a0 2 (x2)) fun x3 =>
  if x3 = (-1) then (
  (0, ())
  ) else (
  (1, ())
  )

noncomputable def f_X12_isWhole (V : dV) (a0 p1 : Int) : dP :=
  dv_b (0 + p1) fun x2 =>
  dv_b (V a0 2 (x2)) fun x3 =>
  if x3 ≤ 0 then (
  (0, ())
  ) else (
  (1, ())
  )

noncomputable def f_X12_laidMany_4c (V : dV) (a0 j4_1 j4_2 : Int) : Sum (dV × Int × Int × Int) (dP) :=
  dv_b2 (f_X12_many V (a0)) fun x1 _ =>
  if x1 ≤ j4_2 then (
  Sum.inr ((j4_1, ()))
  ) else (
  dv_b2 (f_X12_isLaid V (a0) (j4_2)) fun x2 _ =>
  if x2 = 0 then (
  dv_b (j4_1 + 0) fun x3 =>
  dv_b (j4_2 + 1) fun x4 =>
  Sum.inl (V, a0, x3, x4)
  ) else (
  dv_b (j4_1 + 1) fun x5 =>
  dv_b (j4_2 + 1) fun x6 =>
  Sum.inl (V, a0, x5, x6)
  )
  )
noncomputable def f_X12_laidMany_4b (s : (dV × Int × Int × Int)) : Sum (dV × Int × Int × Int) (dP) := f_X12_laidMany_4c (s.1) (s.2.1) (s.2.2.1) (s.2.2.2)

theorem f_X12_laidMany_4e (V : dV) (a0 j4_1 j4_2 : Int) : f_X12_laidMany_4b (V, a0, j4_1, j4_2) = f_X12_laidMany_4c V a0 j4_1 j4_2 := rfl

noncomputable def f_X12_laidMany (V : dV) (a0 : Int) : dP :=
  dv_lp (f_X12_laidMany_4b) (V, a0, 0, 0)

noncomputable def f_X12_covers (V : dV) (a0 p1 p2 p3 : Int) : dP :=
  dv_b2 (f_X12_isLaid V (a0) (p1)) fun x1 _ =>
  if x1 = 0 then (
  (0, ())
  ) else (
  dv_b (9 + p1) fun x3 =>
  dv_b (V a0 2 (x3)) fun x4 =>
  dv_b (9 + p1) fun x5 =>
  dv_b (V a0 2 (x5)) fun x6 =>
  dv_b (29 + p1) fun x7 =>
  dv_b (V a0 2 (x7)) fun x8 =>
  dv_b (dv_add (x6) (x8)) fun x9 =>
  dv_b (dv_sub (x9) (1)) fun x10 =>
  dv_b2 (f_X12_lies V (p2) (x4) (x10)) fun x11 _ =>
  if x11 = 0 then (
  (0, ())
  ) else (
  dv_b (18 + p1) fun x12 =>
  dv_b (V a0 2 (x12)) fun x13 =>
  dv_b (18 + p1) fun x14 =>
  dv_b (V a0 2 (x14)) fun x15 =>
  dv_b (29 + p1) fun x16 =>
  dv_b (V a0 2 (x16)) fun x17 =>
  dv_b (dv_add (x15) (x17)) fun x18 =>
  dv_b (dv_sub (x18) (1)) fun x19 =>
  dv_b2 (f_X12_lies V (p3) (x13) (x19)) fun x20 _ =>
  if x20 = 0 then (
  (0, ())
  ) else (
  (1, ())
  )
  )
  )

noncomputable def f_X12_at_31 (V : dV) (a0 p1 p2 j5_4 s31_0 : Int) : Sum (dV × Int × Int × Int × Int × Int) (dP) :=
  dv_b (j5_4 + 1) fun x3 =>
  Sum.inl (V, a0, p1, p2, s31_0, x3)

noncomputable def f_X12_at_5c (V : dV) (a0 p1 p2 j5_3 j5_4 : Int) : Sum (dV × Int × Int × Int × Int × Int) (dP) :=
  dv_b2 (f_X12_many V (a0)) fun x1 _ =>
  if x1 ≤ j5_4 then (
  Sum.inr ((j5_3, ()))
  ) else (
  dv_b2 (f_X12_covers V (a0) (j5_4) (p1) (p2)) fun x2 _ =>
  if x2 = 0 then (
  f_X12_at_31 (V) (a0) (p1) (p2) (j5_4) (j5_3)
  ) else (
  f_X12_at_31 (V) (a0) (p1) (p2) (j5_4) (j5_4)
  )
  )
noncomputable def f_X12_at_5b (s : (dV × Int × Int × Int × Int × Int)) : Sum (dV × Int × Int × Int × Int × Int) (dP) := f_X12_at_5c (s.1) (s.2.1) (s.2.2.1) (s.2.2.2.1) (s.2.2.2.2.1) (s.2.2.2.2.2)

theorem f_X12_at_5e (V : dV) (a0 p1 p2 j5_3 j5_4 : Int) : f_X12_at_5b (V, a0, p1, p2, j5_3, j5_4) = f_X12_at_5c V a0 p1 p2 j5_3 j5_4 := rfl

noncomputable def f_X12_at (V : dV) (a0 p1 p2 : Int) : dP :=
  dv_lp (f_X12_at_5b) (V, a0, p1, p2, (-1), 0)

noncomputable def f_X12_isLaw (V : dV) (a0 p1 : Int) : dP :=
  dv_b (V a0 2 (71)) fun x2 =>
  dv_b (x2 - 1) fun x3 =>
  dv_b2 (f_X12_lies V (p1) ((-1)) (x3)) fun x4 _ =>
  (x4, ())

noncomputable def f_X12_rolledWhole_36 (V : dV) (a0 j4_2 j4_1 s36_1 : Int) : Sum (dV × Int × Int × Int) (dP) :=
  dv_b (dv_or (j4_1) (s36_1)) fun x3 =>
  dv_b (j4_2 + 1) fun x4 =>
  Sum.inl (V, a0, x3, x4)

noncomputable def f_X12_rolledWhole_35 (V : dV) (a0 j4_2 j4_1 : Int) : Sum (dV × Int × Int × Int) (dP) :=
  f_X12_rolledWhole_36 (V) (a0) (j4_2) (j4_1) (0)

noncomputable def f_X12_rolledWhole_4c (V : dV) (a0 j4_1 j4_2 : Int) : Sum (dV × Int × Int × Int) (dP) :=
  dv_b2 (f_X12_many V (a0)) fun x1 _ =>
  if x1 ≤ j4_2 then (
  Sum.inr ((j4_1, ()))
  ) else (
  dv_b2 (f_X12_isLaid V (a0) (j4_2)) fun x2 _ =>
  if x2 ≠ 0 then (
  f_X12_rolledWhole_35 (V) (a0) (j4_2) (j4_1)
  ) else (
  dv_b2 (f_X12_isWhole V (a0) (j4_2)) fun x5 _ =>
  if x5 = 0 then (
  f_X12_rolledWhole_35 (V) (a0) (j4_2) (j4_1)
  ) else (
  dv_b (dv_shl (1) (j4_2)) fun x6 =>
  f_X12_rolledWhole_36 (V) (a0) (j4_2) (j4_1) (x6)
  )
  )
  )
noncomputable def f_X12_rolledWhole_4b (s : (dV × Int × Int × Int)) : Sum (dV × Int × Int × Int) (dP) := f_X12_rolledWhole_4c (s.1) (s.2.1) (s.2.2.1) (s.2.2.2)

theorem f_X12_rolledWhole_4e (V : dV) (a0 j4_1 j4_2 : Int) : f_X12_rolledWhole_4b (V, a0, j4_1, j4_2) = f_X12_rolledWhole_4c V a0 j4_1 j4_2 := rfl

noncomputable def f_X12_rolledWhole (V : dV) (a0 : Int) : dP :=
  dv_lp (f_X12_rolledWhole_4b) (V, a0, 0, 0)

noncomputable def f_X12_priceAt (V : dV) (a0 p1 p2 : Int) : dP :=
  dv_b (144 * p1) fun x2 =>
  dv_b (x2 + p2) fun x3 =>
  dv_b (V a0 34 (x3)) fun x4 =>
  (x4, ())

noncomputable def f_X12_mostAt_4c (V : dV) (a0 p1 j4_2 j4_3 : Int) : Sum (dV × Int × Int × Int × Int) (dP) :=
  dv_b2 (f_X12_many V (a0)) fun x1 _ =>
  if x1 ≤ j4_3 then (
  Sum.inr ((j4_2, ()))
  ) else (
  dv_b (9 * p1) fun x3 =>
  dv_b (x3 + j4_3) fun x4 =>
  dv_b (V a0 38 (x4)) fun x5 =>
  dv_b2 (f_X12_greater V (j4_2) (x5)) fun x6 _ =>
  dv_b (j4_3 + 1) fun x7 =>
  Sum.inl (V, a0, p1, x6, x7)
  )
noncomputable def f_X12_mostAt_4b (s : (dV × Int × Int × Int × Int)) : Sum (dV × Int × Int × Int × Int) (dP) := f_X12_mostAt_4c (s.1) (s.2.1) (s.2.2.1) (s.2.2.2.1) (s.2.2.2.2)

theorem f_X12_mostAt_4e (V : dV) (a0 p1 j4_2 j4_3 : Int) : f_X12_mostAt_4b (V, a0, p1, j4_2, j4_3) = f_X12_mostAt_4c V a0 p1 j4_2 j4_3 := rfl

noncomputable def f_X12_mostAt (V : dV) (a0 p1 : Int) : dP :=
  dv_lp (f_X12_mostAt_4b) (V, a0, p1, 0, 0)

noncomputable def f_X12_ragMany_26 (V : dV) (a0 j4_2 j4_1 s26_1 : Int) : Sum (dV × Int × Int × Int) (dP) :=
  dv_b (dv_add (j4_1) (s26_1)) fun x3 =>
  dv_b (j4_2 + 1) fun x4 =>
  Sum.inl (V, a0, x3, x4)

noncomputable def f_X12_ragMany_4c (V : dV) (a0 j4_1 j4_2 : Int) : Sum (dV × Int × Int × Int) (dP) :=
  dv_b2 (f_X12_many V (a0)) fun x1 _ =>
  if x1 ≤ j4_2 then (
  Sum.inr ((j4_1, ()))
  ) else (
  dv_b2 (f_X12_isWhole V (a0) (j4_2)) fun x2 _ =>
  if x2 = 0 then (
  f_X12_ragMany_26 (V) (a0) (j4_2) (j4_1) (1)
  ) else (
  f_X12_ragMany_26 (V) (a0) (j4_2) (j4_1) (0)
  )
  )
noncomputable def f_X12_ragMany_4b (s : (dV × Int × Int × Int)) : Sum (dV × Int × Int × Int) (dP) := f_X12_ragMany_4c (s.1) (s.2.1) (s.2.2.1) (s.2.2.2)

theorem f_X12_ragMany_4e (V : dV) (a0 j4_1 j4_2 : Int) : f_X12_ragMany_4b (V, a0, j4_1, j4_2) = f_X12_ragMany_4c V a0 j4_1 j4_2 := rfl

noncomputable def f_X12_ragMany (V : dV) (a0 : Int) : dP :=
  dv_lp (f_X12_ragMany_4b) (V, a0, 0, 0)

noncomputable def f_X12_fluff (V : dV) (a0 : Int) : dP :=
  dv_b (V a0 6 0) fun zz1 =>
  (zz1, ())

noncomputable def f_X12_fault (V : dV) (a0 : Int) : dP :=
  dv_b (V a0 14 0) fun zz1 =>
  (zz1, ())

noncomputable def f_X12_stopped (V : dV) (a0 : Int) : dP :=
  dv_b (V a0 47 0) fun zz1 =>
  (zz1, ())

noncomputable def f_X12_status (V : dV) (a0 : Int) : dP :=
  dv_b (V a0 0 0) fun zz1 =>
  (zz1, ())

noncomputable def f_X12_fine (V : dV) (a0 : Int) : dP :=
  dv_b (V a0 21 0) fun zz1 =>
  if zz1 ≠ (-1) then (
  (0, ())
  ) else (
  (1, ())
  )

noncomputable def f_X12_drawn (V : dV) (a0 p1 p2 : Int) : dP :=
  dv_b (V a0 55 0) fun zz1 =>
  dv_b (zz1 - 1) fun x2 =>
  dv_b2 (f_X12_lies V (p1) (0) (x2)) fun x3 _ =>
  if x3 = 0 then (
  ((-1), ())
  ) else (
  dv_b2 (f_X12_lies V (p2) (0) (2)) fun x4 _ =>
  if x4 ≠ 0 then (
  if p2 ≠ 0 then (
  if p2 ≠ 1 then (
  dv_b (18 + p1) fun x6 =>
  dv_b (V a0 54 (x6)) fun x7 =>
  (x7, ())
  ) else (
  dv_b (9 + p1) fun x8 =>
  dv_b (V a0 54 (x8)) fun x9 =>
  (x9, ())
  )
  ) else (
  dv_b (0 + p1) fun x10 =>
  dv_b (V a0 54 (x10)) fun x11 =>
  (x11, ())
  )
  ) else (
  ((-1), ())
  )
  )

noncomputable def f_X12_bareMany_18c (V : dV) (a0 j18_1 j18_2 : Int) : Sum (dV × Int × Int × Int) (dP) :=
  dv_b2 (f_X12_many V (a0)) fun x6 _ =>
  if x6 ≤ j18_2 then (
  Sum.inr ((j18_1, ()))
  ) else (
  dv_b2 (f_X12_isLaid V (a0) (j18_2)) fun x7 _ =>
  if x7 = 0 then (
  dv_b (j18_1 - 0) fun x8 =>
  dv_b (j18_2 + 1) fun x9 =>
  Sum.inl (V, a0, x8, x9)
  ) else (
  dv_b (29 + j18_2) fun x10 =>
  dv_b (V a0 2 (x10)) fun x11 =>
  dv_b (29 + j18_2) fun x12 =>
  dv_b (V a0 2 (x12)) fun x13 =>
  dv_b (x11 * x13) fun x14 =>
  dv_b (j18_1 - x14) fun x16 =>
  dv_b (j18_2 + 1) fun x17 =>
  Sum.inl (V, a0, x16, x17)
  )
  )
noncomputable def f_X12_bareMany_18b (s : (dV × Int × Int × Int)) : Sum (dV × Int × Int × Int) (dP) := f_X12_bareMany_18c (s.1) (s.2.1) (s.2.2.1) (s.2.2.2)

theorem f_X12_bareMany_18e (V : dV) (a0 j18_1 j18_2 : Int) : f_X12_bareMany_18b (V, a0, j18_1, j18_2) = f_X12_bareMany_18c V a0 j18_1 j18_2 := rfl

noncomputable def f_X12_bareMany (V : dV) (a0 : Int) : dP :=
  dv_b (V a0 2 (67)) fun x2 =>
  dv_b (V a0 2 (68)) fun x3 =>
  dv_b (x2 * x3) fun x4 =>
  dv_lp (f_X12_bareMany_18b) (V, a0, x4, 0)

noncomputable def f_X12_within_118 (V : dV) (a0 p1 p2 p3 p4 j9_7 j118_5 j118_6 : Int) : Sum (dV × Int × Int × Int × Int × Int × Int × Int × Int) (dP) :=
  dv_b (j9_7 + 1) fun x6 =>
  Sum.inl (V, a0, p1, p2, p3, p4, j118_5, j118_6, x6)

noncomputable def f_X12_within_9c (V : dV) (a0 p1 p2 p3 p4 j9_5 j9_6 j9_7 : Int) : Sum (dV × Int × Int × Int × Int × Int × Int × Int × Int) (dP) :=
  dv_b2 (f_X12_many V (a0)) fun x1 _ =>
  if x1 ≤ j9_7 then (
  if 2 ≤ j9_5 then (
  Sum.inr ((j9_6, ()))
  ) else (
  Sum.inr (((-1), ()))
  )
  ) else (
  dv_b (29 + j9_7) fun x3 =>
  dv_b (V a0 2 (x3)) fun x4 =>
  dv_b2 (f_X12_isLaid V (a0) (j9_7)) fun x5 _ =>
  if x5 = 0 then (
  f_X12_within_118 (V) (a0) (p1) (p2) (p3) (p4) (j9_7) (j9_5) (j9_6)
  ) else (
  dv_b (9 + j9_7) fun x7 =>
  dv_b (V a0 2 (x7)) fun x8 =>
  if x8 < p1 then (
  f_X12_within_118 (V) (a0) (p1) (p2) (p3) (p4) (j9_7) (j9_5) (j9_6)
  ) else (
  dv_b (18 + j9_7) fun x9 =>
  dv_b (V a0 2 (x9)) fun x10 =>
  if x10 < p2 then (
  f_X12_within_118 (V) (a0) (p1) (p2) (p3) (p4) (j9_7) (j9_5) (j9_6)
  ) else (
  dv_b (9 + j9_7) fun x11 =>
  dv_b (V a0 2 (x11)) fun x12 =>
  dv_b (dv_add (x12) (x4)) fun x13 =>
  if p3 < x13 then (
  f_X12_within_118 (V) (a0) (p1) (p2) (p3) (p4) (j9_7) (j9_5) (j9_6)
  ) else (
  dv_b (18 + j9_7) fun x14 =>
  dv_b (V a0 2 (x14)) fun x15 =>
  dv_b (dv_add (x15) (x4)) fun x16 =>
  if x16 ≤ p4 then (
  dv_b (x4 * x4) fun x17 =>
  dv_b (dv_add (j9_6) (x17)) fun x19 =>
  dv_b (dv_add (j9_5) (1)) fun x20 =>
  f_X12_within_118 (V) (a0) (p1) (p2) (p3) (p4) (j9_7) (x20) (x19)
  ) else (
  f_X12_within_118 (V) (a0) (p1) (p2) (p3) (p4) (j9_7) (j9_5) (j9_6)
  )
  )
  )
  )
  )
  )
noncomputable def f_X12_within_9b (s : (dV × Int × Int × Int × Int × Int × Int × Int × Int)) : Sum (dV × Int × Int × Int × Int × Int × Int × Int × Int) (dP) := f_X12_within_9c (s.1) (s.2.1) (s.2.2.1) (s.2.2.2.1) (s.2.2.2.2.1) (s.2.2.2.2.2.1) (s.2.2.2.2.2.2.1) (s.2.2.2.2.2.2.2.1) (s.2.2.2.2.2.2.2.2)

theorem f_X12_within_9e (V : dV) (a0 p1 p2 p3 p4 j9_5 j9_6 j9_7 : Int) : f_X12_within_9b (V, a0, p1, p2, p3, p4, j9_5, j9_6, j9_7) = f_X12_within_9c V a0 p1 p2 p3 p4 j9_5 j9_6 j9_7 := rfl

noncomputable def f_X12_within (V : dV) (a0 p1 p2 p3 p4 : Int) : dP :=
  dv_lp (f_X12_within_9b) (V, a0, p1, p2, p3, p4, 0, 0, 0)

noncomputable def f_X12_inner_92 (V : dV) (x3 x2 a0 j21_4 j33_5 j42_6 j54_7 j54_3 s92_1 : Int) : Sum (dV × Int × Int × Int × Int × Int × Int × Int × Int) (Sum (dV × Int × Int × Int × Int × Int × Int × Int) (Sum (dV × Int × Int × Int × Int × Int × Int) (Sum (dV × Int × Int × Int × Int × Int) (dP)))) :=
  dv_b (dv_add (j54_3) (s92_1)) fun x18 =>
  dv_b (j54_7 + 1) fun x19 =>
  Sum.inl (V, x3, x2, a0, j21_4, j33_5, j42_6, x18, x19)

noncomputable def f_X12_inner_54c (V : dV) (x3 x2 a0 j21_4 j33_5 j42_6 j54_3 j54_7 : Int) : Sum (dV × Int × Int × Int × Int × Int × Int × Int × Int) (Sum (dV × Int × Int × Int × Int × Int × Int × Int) (Sum (dV × Int × Int × Int × Int × Int × Int) (Sum (dV × Int × Int × Int × Int × Int) (dP)))) :=
  if x3 < j54_7 then (
  dv_b (j42_6 + 1) fun x13 =>
  Sum.inr (Sum.inl (V, x3, x2, a0, j21_4, j33_5, j54_3, x13))
  ) else (
  dv_b2 (f_X12_within V (a0) (j21_4) (j42_6) (j33_5) (j54_7)) fun x14 _ =>
  dv_b (j33_5 - j21_4) fun x15 =>
  dv_b (j54_7 - j42_6) fun x16 =>
  dv_b (dv_mul (x15) (x16)) fun x17 =>
  if x14 ≠ x17 then (
  f_X12_inner_92 (V) (x3) (x2) (a0) (j21_4) (j33_5) (j42_6) (j54_7) (j54_3) (0)
  ) else (
  f_X12_inner_92 (V) (x3) (x2) (a0) (j21_4) (j33_5) (j42_6) (j54_7) (j54_3) (1)
  )
  )
noncomputable def f_X12_inner_54b (s : (dV × Int × Int × Int × Int × Int × Int × Int × Int)) : Sum (dV × Int × Int × Int × Int × Int × Int × Int × Int) (Sum (dV × Int × Int × Int × Int × Int × Int × Int) (Sum (dV × Int × Int × Int × Int × Int × Int) (Sum (dV × Int × Int × Int × Int × Int) (dP)))) := f_X12_inner_54c (s.1) (s.2.1) (s.2.2.1) (s.2.2.2.1) (s.2.2.2.2.1) (s.2.2.2.2.2.1) (s.2.2.2.2.2.2.1) (s.2.2.2.2.2.2.2.1) (s.2.2.2.2.2.2.2.2)

theorem f_X12_inner_54e (V : dV) (x3 x2 a0 j21_4 j33_5 j42_6 j54_3 j54_7 : Int) : f_X12_inner_54b (V, x3, x2, a0, j21_4, j33_5, j42_6, j54_3, j54_7) = f_X12_inner_54c V x3 x2 a0 j21_4 j33_5 j42_6 j54_3 j54_7 := rfl

noncomputable def f_X12_inner_42c (V : dV) (x3 x2 a0 j21_4 j33_5 j42_3 j42_6 : Int) : Sum (dV × Int × Int × Int × Int × Int × Int × Int) (Sum (dV × Int × Int × Int × Int × Int × Int) (Sum (dV × Int × Int × Int × Int × Int) (dP))) :=
  if x3 ≤ j42_6 then (
  dv_b (j33_5 + 1) fun x11 =>
  Sum.inr (Sum.inl (V, x3, x2, a0, j21_4, j42_3, x11))
  ) else (
  dv_b (j42_6 + 1) fun x12 =>
  dv_lp (f_X12_inner_54b) (V, x3, x2, a0, j21_4, j33_5, j42_6, j42_3, x12)
  )
noncomputable def f_X12_inner_42b (s : (dV × Int × Int × Int × Int × Int × Int × Int)) : Sum (dV × Int × Int × Int × Int × Int × Int × Int) (Sum (dV × Int × Int × Int × Int × Int × Int) (Sum (dV × Int × Int × Int × Int × Int) (dP))) := f_X12_inner_42c (s.1) (s.2.1) (s.2.2.1) (s.2.2.2.1) (s.2.2.2.2.1) (s.2.2.2.2.2.1) (s.2.2.2.2.2.2.1) (s.2.2.2.2.2.2.2)

theorem f_X12_inner_42e (V : dV) (x3 x2 a0 j21_4 j33_5 j42_3 j42_6 : Int) : f_X12_inner_42b (V, x3, x2, a0, j21_4, j33_5, j42_3, j42_6) = f_X12_inner_42c V x3 x2 a0 j21_4 j33_5 j42_3 j42_6 := rfl

noncomputable def f_X12_inner_33c (V : dV) (x3 x2 a0 j21_4 j33_3 j33_5 : Int) : Sum (dV × Int × Int × Int × Int × Int × Int) (Sum (dV × Int × Int × Int × Int × Int) (dP)) :=
  if x2 < j33_5 then (
  dv_b (j21_4 + 1) fun x10 =>
  Sum.inr (Sum.inl (V, x3, x2, a0, j33_3, x10))
  ) else (
  dv_lp (f_X12_inner_42b) (V, x3, x2, a0, j21_4, j33_5, j33_3, 0)
  )
noncomputable def f_X12_inner_33b (s : (dV × Int × Int × Int × Int × Int × Int)) : Sum (dV × Int × Int × Int × Int × Int × Int) (Sum (dV × Int × Int × Int × Int × Int) (dP)) := f_X12_inner_33c (s.1) (s.2.1) (s.2.2.1) (s.2.2.2.1) (s.2.2.2.2.1) (s.2.2.2.2.2.1) (s.2.2.2.2.2.2)

theorem f_X12_inner_33e (V : dV) (x3 x2 a0 j21_4 j33_3 j33_5 : Int) : f_X12_inner_33b (V, x3, x2, a0, j21_4, j33_3, j33_5) = f_X12_inner_33c V x3 x2 a0 j21_4 j33_3 j33_5 := rfl

noncomputable def f_X12_inner_21c (V : dV) (x3 x2 a0 j21_3 j21_4 : Int) : Sum (dV × Int × Int × Int × Int × Int) (dP) :=
  if x2 ≤ j21_4 then (
  dv_b2 (f_X12_within V (a0) (0) (0) (x2) (x3)) fun x4 _ =>
  dv_b (x2 * x3) fun x5 =>
  if x4 ≠ x5 then (
  dv_b (j21_3 - 0) fun x7 =>
  Sum.inr ((x7, ()))
  ) else (
  dv_b (dv_sub (j21_3) (1)) fun x8 =>
  Sum.inr ((x8, ()))
  )
  ) else (
  dv_b (j21_4 + 1) fun x9 =>
  dv_lp (f_X12_inner_33b) (V, x3, x2, a0, j21_4, j21_3, x9)
  )
noncomputable def f_X12_inner_21b (s : (dV × Int × Int × Int × Int × Int)) : Sum (dV × Int × Int × Int × Int × Int) (dP) := f_X12_inner_21c (s.1) (s.2.1) (s.2.2.1) (s.2.2.2.1) (s.2.2.2.2.1) (s.2.2.2.2.2)

theorem f_X12_inner_21e (V : dV) (x3 x2 a0 j21_3 j21_4 : Int) : f_X12_inner_21b (V, x3, x2, a0, j21_3, j21_4) = f_X12_inner_21c V x3 x2 a0 j21_3 j21_4 := rfl

noncomputable def f_X12_inner (V : dV) (a0 : Int) : dP :=
  dv_b (V a0 2 (67)) fun x2 =>
  dv_b (V a0 2 (68)) fun x3 =>
  dv_lp (f_X12_inner_21b) (V, x3, x2, a0, 0, 0)

noncomputable def f_X12_isCross_67 (V : dV) (x8 x7 x5 x3 s67_0 : Int) : dP :=
  if s67_0 = 0 then (
  (0, ())
  ) else (
  if x3 = x5 then (
  (0, ())
  ) else (
  if x3 = x7 then (
  (0, ())
  ) else (
  if x3 = x8 then (
  (0, ())
  ) else (
  if x5 = x7 then (
  (0, ())
  ) else (
  if x5 = x8 then (
  (0, ())
  ) else (
  if x7 = x8 then (
  (0, ())
  ) else (
  (1, ())
  )
  )
  )
  )
  )
  )
  )

noncomputable def f_X12_isCross_66 (V : dV) (x8 x7 x5 x3 : Int) : dP :=
  f_X12_isCross_67 (V) (x8) (x7) (x5) (x3) (0)

noncomputable def f_X12_isCross (V : dV) (a0 p1 p2 : Int) : dP :=
  dv_b (dv_sub (p1) (1)) fun x1 =>
  dv_b (dv_sub (p2) (1)) fun x2 =>
  dv_b2 (f_X12_at V (a0) (x1) (x2)) fun x3 _ =>
  dv_b (dv_sub (p2) (1)) fun x4 =>
  dv_b2 (f_X12_at V (a0) (p1) (x4)) fun x5 _ =>
  dv_b (dv_sub (p1) (1)) fun x6 =>
  dv_b2 (f_X12_at V (a0) (x6) (p2)) fun x7 _ =>
  dv_b2 (f_X12_at V (a0) (p1) (p2)) fun x8 _ =>
  if x3 = (-1) then (
  f_X12_isCross_66 (V) (x8) (x7) (x5) (x3)
  ) else (
  if x5 = (-1) then (
  f_X12_isCross_66 (V) (x8) (x7) (x5) (x3)
  ) else (
  if x7 = (-1) then (
  f_X12_isCross_66 (V) (x8) (x7) (x5) (x3)
  ) else (
  if x8 = (-1) then (
  f_X12_isCross_66 (V) (x8) (x7) (x5) (x3)
  ) else (
  f_X12_isCross_67 (V) (x8) (x7) (x5) (x3) (1)
  )
  )
  )
  )

noncomputable def f_X12_crosses_43 (V : dV) (a0 j4_2 j17_3 j17_1 s43_1 : Int) : Sum (dV × Int × Int × Int × Int) (Sum (dV × Int × Int × Int) (dP)) :=
  dv_b (dv_add (j17_1) (s43_1)) fun x6 =>
  dv_b (j17_3 + 1) fun x7 =>
  Sum.inl (V, a0, j4_2, x6, x7)

noncomputable def f_X12_crosses_17c (V : dV) (a0 j4_2 j17_1 j17_3 : Int) : Sum (dV × Int × Int × Int × Int) (Sum (dV × Int × Int × Int) (dP)) :=
  dv_b (V a0 2 (68)) fun x3 =>
  if x3 ≤ j17_3 then (
  dv_b (j4_2 + 1) fun x4 =>
  Sum.inr (Sum.inl (V, a0, j17_1, x4))
  ) else (
  dv_b2 (f_X12_isCross V (a0) (j4_2) (j17_3)) fun x5 _ =>
  if x5 = 0 then (
  f_X12_crosses_43 (V) (a0) (j4_2) (j17_3) (j17_1) (0)
  ) else (
  f_X12_crosses_43 (V) (a0) (j4_2) (j17_3) (j17_1) (1)
  )
  )
noncomputable def f_X12_crosses_17b (s : (dV × Int × Int × Int × Int)) : Sum (dV × Int × Int × Int × Int) (Sum (dV × Int × Int × Int) (dP)) := f_X12_crosses_17c (s.1) (s.2.1) (s.2.2.1) (s.2.2.2.1) (s.2.2.2.2)

theorem f_X12_crosses_17e (V : dV) (a0 j4_2 j17_1 j17_3 : Int) : f_X12_crosses_17b (V, a0, j4_2, j17_1, j17_3) = f_X12_crosses_17c V a0 j4_2 j17_1 j17_3 := rfl

noncomputable def f_X12_crosses_4c (V : dV) (a0 j4_1 j4_2 : Int) : Sum (dV × Int × Int × Int) (dP) :=
  dv_b (V a0 2 (67)) fun x2 =>
  if x2 ≤ j4_2 then (
  Sum.inr ((j4_1, ()))
  ) else (
  dv_lp (f_X12_crosses_17b) (V, a0, j4_2, j4_1, 1)
  )
noncomputable def f_X12_crosses_4b (s : (dV × Int × Int × Int)) : Sum (dV × Int × Int × Int) (dP) := f_X12_crosses_4c (s.1) (s.2.1) (s.2.2.1) (s.2.2.2)

theorem f_X12_crosses_4e (V : dV) (a0 j4_1 j4_2 : Int) : f_X12_crosses_4b (V, a0, j4_1, j4_2) = f_X12_crosses_4c V a0 j4_1 j4_2 := rfl

noncomputable def f_X12_crosses (V : dV) (a0 : Int) : dP :=
  dv_lp (f_X12_crosses_4b) (V, a0, 0, 1)

noncomputable def f_X12_currents_97 (V : dV) (a0 p1 p2 j31_4 j31_3 s97_1 : Int) : Sum (dV × Int × Int × Int × Int × Int) (dP) :=
  dv_b (dv_add (j31_3) (s97_1)) fun x7 =>
  dv_b (j31_4 + 1) fun x8 =>
  Sum.inl (V, a0, p1, p2, x7, x8)

noncomputable def f_X12_currents_96 (V : dV) (a0 p1 p2 j31_4 j31_3 : Int) : Sum (dV × Int × Int × Int × Int × Int) (dP) :=
  f_X12_currents_97 (V) (a0) (p1) (p2) (j31_4) (j31_3) (0)

noncomputable def f_X12_currents_78 (V : dV) (a0 p1 p2 j31_4 j31_3 x10 s78_2 : Int) : Sum (dV × Int × Int × Int × Int × Int) (dP) :=
  dv_b (dv_add (x10) (s78_2)) fun x11 =>
  if x11 ≠ p1 then (
  f_X12_currents_96 (V) (a0) (p1) (p2) (j31_4) (j31_3)
  ) else (
  dv_b (29 + j31_4) fun x12 =>
  dv_b (V a0 2 (x12)) fun x13 =>
  f_X12_currents_97 (V) (a0) (p1) (p2) (j31_4) (j31_3) (x13)
  )

noncomputable def f_X12_currents_31c (V : dV) (a0 p1 p2 j31_3 j31_4 : Int) : Sum (dV × Int × Int × Int × Int × Int) (dP) :=
  dv_b2 (f_X12_many V (a0)) fun x5 _ =>
  if x5 ≤ j31_4 then (
  Sum.inr ((j31_3, ()))
  ) else (
  dv_b2 (f_X12_isLaid V (a0) (j31_4)) fun x6 _ =>
  if x6 = 0 then (
  f_X12_currents_96 (V) (a0) (p1) (p2) (j31_4) (j31_3)
  ) else (
  dv_b (18 + j31_4) fun x9 =>
  dv_b (V a0 2 (x9)) fun x10 =>
  if p2 ≠ 0 then (
  dv_b (29 + j31_4) fun x14 =>
  dv_b (V a0 2 (x14)) fun x15 =>
  f_X12_currents_78 (V) (a0) (p1) (p2) (j31_4) (j31_3) (x10) (x15)
  ) else (
  f_X12_currents_78 (V) (a0) (p1) (p2) (j31_4) (j31_3) (x10) (0)
  )
  )
  )
noncomputable def f_X12_currents_31b (s : (dV × Int × Int × Int × Int × Int)) : Sum (dV × Int × Int × Int × Int × Int) (dP) := f_X12_currents_31c (s.1) (s.2.1) (s.2.2.1) (s.2.2.2.1) (s.2.2.2.2.1) (s.2.2.2.2.2)

theorem f_X12_currents_31e (V : dV) (a0 p1 p2 j31_3 j31_4 : Int) : f_X12_currents_31b (V, a0, p1, p2, j31_3, j31_4) = f_X12_currents_31c V a0 p1 p2 j31_3 j31_4 := rfl

noncomputable def f_X12_currents (V : dV) (a0 p1 p2 : Int) : dP :=
  dv_b (V a0 2 (68)) fun x2 =>
  dv_b2 (f_X12_lies V (p1) (0) (x2)) fun x3 _ =>
  if x3 = 0 then (
  ((-1), ())
  ) else (
  dv_b2 (f_X12_lies V (p2) (0) (1)) fun x4 _ =>
  if x4 ≠ 0 then (
  dv_lp (f_X12_currents_31b) (V, a0, p1, p2, 0, 0)
  ) else (
  ((-1), ())
  )
  )

noncomputable def f_X12_alike_67 (V : dV) (a0 j4_2 j16_3 j16_1 s67_1 : Int) : Sum (dV × Int × Int × Int × Int) (Sum (dV × Int × Int × Int) (dP)) :=
  dv_b (dv_add (j16_1) (s67_1)) fun x6 =>
  dv_b (j16_3 + 1) fun x7 =>
  Sum.inl (V, a0, j4_2, x6, x7)

noncomputable def f_X12_alike_66 (V : dV) (a0 j4_2 j16_3 j16_1 : Int) : Sum (dV × Int × Int × Int × Int) (Sum (dV × Int × Int × Int) (dP)) :=
  f_X12_alike_67 (V) (a0) (j4_2) (j16_3) (j16_1) (0)

noncomputable def f_X12_alike_16c (V : dV) (a0 j4_2 j16_1 j16_3 : Int) : Sum (dV × Int × Int × Int × Int) (Sum (dV × Int × Int × Int) (dP)) :=
  dv_b2 (f_X12_many V (a0)) fun x3 _ =>
  if x3 ≤ j16_3 then (
  dv_b (j4_2 + 1) fun x4 =>
  Sum.inr (Sum.inl (V, a0, j16_1, x4))
  ) else (
  dv_b2 (f_X12_isLaid V (a0) (j4_2)) fun x5 _ =>
  if x5 = 0 then (
  f_X12_alike_66 (V) (a0) (j4_2) (j16_3) (j16_1)
  ) else (
  dv_b2 (f_X12_isLaid V (a0) (j16_3)) fun x8 _ =>
  if x8 = 0 then (
  f_X12_alike_66 (V) (a0) (j4_2) (j16_3) (j16_1)
  ) else (
  dv_b (29 + j4_2) fun x10 =>
  dv_b (V a0 2 (x10)) fun x11 =>
  dv_b (29 + j16_3) fun x12 =>
  dv_b (V a0 2 (x12)) fun x13 =>
  if x11 ≠ x13 then (
  f_X12_alike_66 (V) (a0) (j4_2) (j16_3) (j16_1)
  ) else (
  f_X12_alike_67 (V) (a0) (j4_2) (j16_3) (j16_1) (1)
  )
  )
  )
  )
noncomputable def f_X12_alike_16b (s : (dV × Int × Int × Int × Int)) : Sum (dV × Int × Int × Int × Int) (Sum (dV × Int × Int × Int) (dP)) := f_X12_alike_16c (s.1) (s.2.1) (s.2.2.1) (s.2.2.2.1) (s.2.2.2.2)

theorem f_X12_alike_16e (V : dV) (a0 j4_2 j16_1 j16_3 : Int) : f_X12_alike_16b (V, a0, j4_2, j16_1, j16_3) = f_X12_alike_16c V a0 j4_2 j16_1 j16_3 := rfl

noncomputable def f_X12_alike_4c (V : dV) (a0 j4_1 j4_2 : Int) : Sum (dV × Int × Int × Int) (dP) :=
  dv_b2 (f_X12_many V (a0)) fun x1 _ =>
  if x1 ≤ j4_2 then (
  Sum.inr ((j4_1, ()))
  ) else (
  dv_b (j4_2 + 1) fun x2 =>
  dv_lp (f_X12_alike_16b) (V, a0, j4_2, j4_1, x2)
  )
noncomputable def f_X12_alike_4b (s : (dV × Int × Int × Int)) : Sum (dV × Int × Int × Int) (dP) := f_X12_alike_4c (s.1) (s.2.1) (s.2.2.1) (s.2.2.2)

theorem f_X12_alike_4e (V : dV) (a0 j4_1 j4_2 : Int) : f_X12_alike_4b (V, a0, j4_1, j4_2) = f_X12_alike_4c V a0 j4_1 j4_2 := rfl

noncomputable def f_X12_alike (V : dV) (a0 : Int) : dP :=
  dv_lp (f_X12_alike_4b) (V, a0, 0, 0)

noncomputable def f_X12_firstBare_10c (V : dV) (a0 p1 p2 j2_3 j10_4 : Int) : Sum (dV × Int × Int × Int × Int × Int) (Sum (dV × Int × Int × Int × Int) (dP)) :=
  if p1 ≤ j10_4 then (
  dv_b (j2_3 + 1) fun x1 =>
  Sum.inr (Sum.inl (V, a0, p1, p2, x1))
  ) else (
  dv_b (V a0 29 (j2_3)) fun x3 =>
  dv_b2 (f_X12_isIn V (x3) (j10_4)) fun x4 _ =>
  if x4 ≠ 0 then (
  dv_b (j10_4 + 1) fun x5 =>
  Sum.inl (V, a0, p1, p2, j2_3, x5)
  ) else (
  dv_b (12 * j2_3) fun x6 =>
  dv_b (x6 + j10_4) fun x7 =>
  Sum.inr (Sum.inr ((x7, ())))
  )
  )
noncomputable def f_X12_firstBare_10b (s : (dV × Int × Int × Int × Int × Int)) : Sum (dV × Int × Int × Int × Int × Int) (Sum (dV × Int × Int × Int × Int) (dP)) := f_X12_firstBare_10c (s.1) (s.2.1) (s.2.2.1) (s.2.2.2.1) (s.2.2.2.2.1) (s.2.2.2.2.2)

theorem f_X12_firstBare_10e (V : dV) (a0 p1 p2 j2_3 j10_4 : Int) : f_X12_firstBare_10b (V, a0, p1, p2, j2_3, j10_4) = f_X12_firstBare_10c V a0 p1 p2 j2_3 j10_4 := rfl

noncomputable def f_X12_firstBare_2c (V : dV) (a0 p1 p2 j2_3 : Int) : Sum (dV × Int × Int × Int × Int) (dP) :=
  if p2 ≤ j2_3 then (
  Sum.inr (((-1), ()))
  ) else (
  dv_lp (f_X12_firstBare_10b) (V, a0, p1, p2, j2_3, 0)
  )
noncomputable def f_X12_firstBare_2b (s : (dV × Int × Int × Int × Int)) : Sum (dV × Int × Int × Int × Int) (dP) := f_X12_firstBare_2c (s.1) (s.2.1) (s.2.2.1) (s.2.2.2.1) (s.2.2.2.2)

theorem f_X12_firstBare_2e (V : dV) (a0 p1 p2 j2_3 : Int) : f_X12_firstBare_2b (V, a0, p1, p2, j2_3) = f_X12_firstBare_2c V a0 p1 p2 j2_3 := rfl

noncomputable def f_X12_firstBare (V : dV) (a0 p1 p2 : Int) : dP :=
  dv_lp (f_X12_firstBare_2b) (V, a0, p1, p2, 0)

noncomputable def f_X12_isFree_26c (V : dV) (a0 p1 p2 p3 j26_6 j26_7 : Int) : Sum (dV × Int × Int × Int × Int × Int × Int) (dP) :=
  dv_b (p3 + p1) fun x2 =>
  if x2 ≤ j26_7 then (
  Sum.inr ((j26_6, ()))
  ) else (
  if j26_6 = 0 then (
  Sum.inr ((j26_6, ()))
  ) else (
  dv_b (V a0 29 (j26_7)) fun x4 =>
  dv_b (dv_shl (1) (p1)) fun x5 =>
  dv_b (dv_sub (x5) (1)) fun x6 =>
  dv_b (dv_shl (x6) (p2)) fun x7 =>
  dv_b (dv_and (x4) (x7)) fun x8 =>
  if x8 ≠ 0 then (
  dv_b (j26_7 + 1) fun x9 =>
  Sum.inl (V, a0, p1, p2, p3, 0, x9)
  ) else (
  dv_b (j26_7 + 1) fun x10 =>
  Sum.inl (V, a0, p1, p2, p3, 1, x10)
  )
  )
  )
noncomputable def f_X12_isFree_26b (s : (dV × Int × Int × Int × Int × Int × Int)) : Sum (dV × Int × Int × Int × Int × Int × Int) (dP) := f_X12_isFree_26c (s.1) (s.2.1) (s.2.2.1) (s.2.2.2.1) (s.2.2.2.2.1) (s.2.2.2.2.2.1) (s.2.2.2.2.2.2)

theorem f_X12_isFree_26e (V : dV) (a0 p1 p2 p3 j26_6 j26_7 : Int) : f_X12_isFree_26b (V, a0, p1, p2, p3, j26_6, j26_7) = f_X12_isFree_26c V a0 p1 p2 p3 j26_6 j26_7 := rfl

noncomputable def f_X12_isFree_21 (V : dV) (a0 p1 p2 p3 s21_0 : Int) : dP :=
  dv_lp (f_X12_isFree_26b) (V, a0, p1, p2, p3, s21_0, p3)

noncomputable def f_X12_isFree_20 (V : dV) (a0 p1 p2 p3 : Int) : dP :=
  f_X12_isFree_21 (V) (a0) (p1) (p2) (p3) (0)

noncomputable def f_X12_isFree (V : dV) (a0 p1 p2 p3 p4 p5 : Int) : dP :=
  dv_b (p2 + p1) fun x1 =>
  if p4 < x1 then (
  f_X12_isFree_20 (V) (a0) (p1) (p2) (p3)
  ) else (
  dv_b (p3 + p1) fun x11 =>
  if p5 < x11 then (
  f_X12_isFree_20 (V) (a0) (p1) (p2) (p3)
  ) else (
  f_X12_isFree_21 (V) (a0) (p1) (p2) (p3) (1)
  )
  )

noncomputable def f_X12_carpetBehind_104 (V : dV) (a0 p1 p2 p3 j11_5 s104_0 : Int) : Sum (dV × Int × Int × Int × Int × Int × Int) (dP) :=
  dv_b (j11_5 + 1) fun x13 =>
  Sum.inl (V, a0, p1, p2, p3, s104_0, x13)

noncomputable def f_X12_carpetBehind_85 (V : dV) (a0 p1 p2 p3 j11_4 j11_5 s85_0 : Int) : Sum (dV × Int × Int × Int × Int × Int × Int) (dP) :=
  if s85_0 = 0 then (
  f_X12_carpetBehind_104 (V) (a0) (p1) (p2) (p3) (j11_5) (j11_4)
  ) else (
  dv_b (V a0 35 (j11_5)) fun x14 =>
  f_X12_carpetBehind_104 (V) (a0) (p1) (p2) (p3) (j11_5) (x14)
  )

noncomputable def f_X12_carpetBehind_84 (V : dV) (a0 p1 p2 p3 j11_4 j11_5 : Int) : Sum (dV × Int × Int × Int × Int × Int × Int) (dP) :=
  f_X12_carpetBehind_85 (V) (a0) (p1) (p2) (p3) (j11_4) (j11_5) (0)

noncomputable def f_X12_carpetBehind_11c (V : dV) (a0 p1 p2 p3 j11_4 j11_5 : Int) : Sum (dV × Int × Int × Int × Int × Int × Int) (dP) :=
  if p1 ≤ j11_5 then (
  Sum.inr ((j11_4, ()))
  ) else (
  dv_b (V a0 35 (j11_5)) fun x4 =>
  dv_b (29 + x4) fun x5 =>
  dv_b (V a0 2 (x5)) fun x6 =>
  dv_b (V a0 36 (j11_5)) fun x8 =>
  dv_b (x8 % 12) fun x9 =>
  dv_b (dv_sub (p2) (x9)) fun x10 =>
  dv_b (x6 - 1) fun x11 =>
  dv_b2 (f_X12_lies V (x10) (0) (x11)) fun x12 _ =>
  if x12 = 0 then (
  f_X12_carpetBehind_84 (V) (a0) (p1) (p2) (p3) (j11_4) (j11_5)
  ) else (
  dv_b (V a0 36 (j11_5)) fun x15 =>
  dv_b (x15 / 12) fun x16 =>
  dv_b (dv_sub (p3) (x16)) fun x17 =>
  dv_b (x6 - 1) fun x18 =>
  dv_b2 (f_X12_lies V (x17) (0) (x18)) fun x19 _ =>
  if x19 = 0 then (
  f_X12_carpetBehind_84 (V) (a0) (p1) (p2) (p3) (j11_4) (j11_5)
  ) else (
  f_X12_carpetBehind_85 (V) (a0) (p1) (p2) (p3) (j11_4) (j11_5) (1)
  )
  )
  )
noncomputable def f_X12_carpetBehind_11b (s : (dV × Int × Int × Int × Int × Int × Int)) : Sum (dV × Int × Int × Int × Int × Int × Int) (dP) := f_X12_carpetBehind_11c (s.1) (s.2.1) (s.2.2.1) (s.2.2.2.1) (s.2.2.2.2.1) (s.2.2.2.2.2.1) (s.2.2.2.2.2.2)

theorem f_X12_carpetBehind_11e (V : dV) (a0 p1 p2 p3 j11_4 j11_5 : Int) : f_X12_carpetBehind_11b (V, a0, p1, p2, p3, j11_4, j11_5) = f_X12_carpetBehind_11c V a0 p1 p2 p3 j11_4 j11_5 := rfl

noncomputable def f_X12_carpetBehind (V : dV) (a0 p1 p2 p3 : Int) : dP :=
  dv_b2 (f_X12_at V (a0) (p2) (p3)) fun x1 _ =>
  dv_lp (f_X12_carpetBehind_11b) (V, a0, p1, p2, p3, x1, 0)

noncomputable def f_X12_isSeenSo_87 (V : dV) (a0 p1 j4_3 s87_0 : Int) : Sum (dV × Int × Int × Int × Int) (dP) :=
  dv_b (j4_3 + 1) fun x11 =>
  Sum.inl (V, a0, p1, s87_0, x11)

noncomputable def f_X12_isSeenSo_86 (V : dV) (a0 p1 j4_3 : Int) : Sum (dV × Int × Int × Int × Int) (dP) :=
  f_X12_isSeenSo_87 (V) (a0) (p1) (j4_3) (0)

noncomputable def f_X12_isSeenSo_4c (V : dV) (a0 p1 j4_2 j4_3 : Int) : Sum (dV × Int × Int × Int × Int) (dP) :=
  dv_b (V a0 2 (70)) fun x2 =>
  if x2 ≤ j4_3 then (
  Sum.inr ((j4_2, ()))
  ) else (
  if j4_2 = 0 then (
  Sum.inr ((j4_2, ()))
  ) else (
  dv_b (3 * j4_3) fun x3 =>
  dv_b (47 + x3) fun x4 =>
  dv_b (V a0 2 (x4)) fun x5 =>
  dv_b (3 * j4_3) fun x6 =>
  dv_b (47 + x6) fun x7 =>
  dv_b (x7 + 1) fun x8 =>
  dv_b (V a0 2 (x8)) fun x9 =>
  dv_b2 (f_X12_carpetBehind V (a0) (p1) (x5) (x9)) fun x10 _ =>
  if x10 = (-1) then (
  f_X12_isSeenSo_86 (V) (a0) (p1) (j4_3)
  ) else (
  dv_b (29 + x10) fun x12 =>
  dv_b (V a0 2 (x12)) fun x13 =>
  dv_b (3 * j4_3) fun x14 =>
  dv_b (47 + x14) fun x15 =>
  dv_b (x15 + 2) fun x16 =>
  dv_b (V a0 2 (x16)) fun x17 =>
  if x13 ≠ x17 then (
  f_X12_isSeenSo_86 (V) (a0) (p1) (j4_3)
  ) else (
  f_X12_isSeenSo_87 (V) (a0) (p1) (j4_3) (1)
  )
  )
  )
  )
noncomputable def f_X12_isSeenSo_4b (s : (dV × Int × Int × Int × Int)) : Sum (dV × Int × Int × Int × Int) (dP) := f_X12_isSeenSo_4c (s.1) (s.2.1) (s.2.2.1) (s.2.2.2.1) (s.2.2.2.2)

theorem f_X12_isSeenSo_4e (V : dV) (a0 p1 j4_2 j4_3 : Int) : f_X12_isSeenSo_4b (V, a0, p1, j4_2, j4_3) = f_X12_isSeenSo_4c V a0 p1 j4_2 j4_3 := rfl

noncomputable def f_X12_isSeenSo (V : dV) (a0 p1 : Int) : dP :=
  dv_lp (f_X12_isSeenSo_4b) (V, a0, p1, 1, 0)

noncomputable def f_X12_count (V : dV) (a0 p1 : Int) : dP :=
  if p1 = 0 then (
  dv_b2 (f_X12_many V (a0)) fun x1 _ =>
  (x1, ())
  ) else (
  if p1 = 1 then (
  dv_b2 (f_X12_laidMany V (a0)) fun x2 _ =>
  (x2, ())
  ) else (
  if p1 = 2 then (
  dv_b2 (f_X12_ragMany V (a0)) fun x3 _ =>
  (x3, ())
  ) else (
  if p1 = 3 then (
  dv_b (V a0 2 (27)) fun x5 =>
  (x5, ())
  ) else (
  if p1 = 4 then (
  dv_b (V a0 2 (70)) fun x7 =>
  (x7, ())
  ) else (
  if p1 = 5 then (
  dv_b (V a0 2 (71)) fun x9 =>
  (x9, ())
  ) else (
  if p1 = 6 then (
  dv_b (V a0 33 0) fun zz1 =>
  (zz1, ())
  ) else (
  if p1 = 7 then (
  dv_b (V a0 13 0) fun zz2 =>
  (zz2, ())
  ) else (
  if p1 = 8 then (
  dv_b (p1 - 7) fun x13 =>
  dv_b (V a0 1 (x13)) fun x14 =>
  (x14, ())
  ) else (
  if p1 = 9 then (
  dv_b (p1 - 7) fun x16 =>
  dv_b (V a0 1 (x16)) fun x17 =>
  (x17, ())
  ) else (
  if p1 = 10 then (
  dv_b (p1 - 7) fun x19 =>
  dv_b (V a0 1 (x19)) fun x20 =>
  (x20, ())
  ) else (
  if p1 = 11 then (
  dv_b (V a0 1 (5)) fun x22 =>
  (x22, ())
  ) else (
  if p1 = 12 then (
  dv_b (V a0 1 (6)) fun x24 =>
  (x24, ())
  ) else (
  if p1 = 13 then (
  dv_b (V a0 2 (72)) fun x26 =>
  (x26, ())
  ) else (
  if p1 = 14 then (
  dv_b (p1 - 14) fun x28 =>
  dv_b2 (f_X12_termAt V (x28)) fun x29 _ =>
  dv_b (V a0 2 (x29)) fun x30 =>
  (x30, ())
  ) else (
  if p1 = 15 then (
  dv_b (p1 - 14) fun x32 =>
  dv_b2 (f_X12_termAt V (x32)) fun x33 _ =>
  dv_b (V a0 2 (x33)) fun x34 =>
  (x34, ())
  ) else (
  if p1 = 16 then (
  dv_b (p1 - 14) fun x36 =>
  dv_b2 (f_X12_termAt V (x36)) fun x37 _ =>
  dv_b (V a0 2 (x37)) fun x38 =>
  (x38, ())
  ) else (
  if p1 = 17 then (
  dv_b (V a0 2 (67)) fun x40 =>
  (x40, ())
  ) else (
  if p1 = 18 then (
  dv_b (V a0 2 (68)) fun x42 =>
  (x42, ())
  ) else (
  ((-1), ())
  )))))))))))))))))))

noncomputable def f_X12_codeAt (V : dV) (a0 p1 : Int) : dP :=
  dv_b (V a0 23 0) fun zz1 =>
  if zz1 ≤ p1 then (
  (0, ())
  ) else (
  dv_b (80 + p1) fun x4 =>
  dv_b (V a0 2 (x4)) fun x5 =>
  (x5, ())
  )

noncomputable def f_X12_passes0 (V : dV) (a0 p1 : Int) : dR :=
  dv_b (V a0 22 0) fun zz1 =>
  dv_b2 (f_X12_codeAt V (a0) (zz1)) fun x3 _ =>
  if x3 ≠ p1 then (
  (V, 0)
  ) else (
  dv_b (V a0 22 0) fun zz2 =>
  dv_b (zz2 + 1) fun x5 =>
  dv_b (dv_u V a0 22 0 (x5)) fun V29 =>
  (V29, 1)
  )

noncomputable def f_X12_bounded_25 (V : dV) (a0 p1 : Int) : dR :=
  dv_b (V a0 24 0) fun zz1 =>
  if zz1 = 0 then (
  (V, p1)
  ) else (
  (V, 0)
  )

noncomputable def f_X12_bounded_20 (V : dV) (a0 p1 : Int) : dR :=
  dv_b (dv_u V a0 24 0 (1)) fun V22 =>
  f_X12_bounded_25 (V22) (a0) (p1)

noncomputable def f_X12_bounded (V : dV) (a0 p1 p2 : Int) : dR :=
  if p2 = 0 then (
  f_X12_bounded_25 (V) (a0) (p1)
  ) else (
  dv_b (dv_lcmp (p1) (1000000000)) fun x2 =>
  if 0 < x2 then (
  f_X12_bounded_20 (V) (a0) (p1)
  ) else (
  dv_b (dv_lcmp (p1) ((-1000000000))) fun x4 =>
  if 0 ≤ x4 then (
  f_X12_bounded_25 (V) (a0) (p1)
  ) else (
  f_X12_bounded_20 (V) (a0) (p1)
  )
  )
  )

noncomputable def f_X12_orderValue (V : dV) (a0 p1 p2 : Int) : dP :=
  if p1 = 14 then (
  dv_b2 (f_X12_isCarpet V (a0) (p2)) fun x1 _ =>
  if x1 = 0 then (
  ((-1), ())
  ) else (
  dv_b (0 + p2) fun x3 =>
  dv_b (V a0 2 (x3)) fun x4 =>
  (x4, ())
  )
  ) else (
  if p1 = 15 then (
  dv_b (V a0 2 (28)) fun x6 =>
  (x6, ())
  ) else (
  if p1 = 16 then (
  dv_b (V a0 27 0) fun zz1 =>
  (zz1, ())
  ) else (
  if p1 = 17 then (
  dv_b (V a0 28 0) fun zz2 =>
  (zz2, ())
  ) else (
  if p1 = 18 then (
  dv_b2 (f_X12_bareMany V (a0)) fun x9 _ =>
  (x9, ())
  ) else (
  if p1 = 19 then (
  dv_b (V a0 2 (27)) fun x11 =>
  (x11, ())
  ) else (
  if p1 = 20 then (
  dv_b2 (f_X12_isCarpet V (a0) (p2)) fun x12 _ =>
  if x12 ≠ 0 then (
  dv_b2 (f_X12_isLaid V (a0) (p2)) fun x13 _ =>
  if x13 = 0 then (
  (0, ())
  ) else (
  (1, ())
  )
  ) else (
  ((-1), ())
  )
  ) else (
  dv_b (V a0 2 (27)) fun x15 =>
  (x15, ())
  )))))))

noncomputable def f_X12_partOf_94 (d : Nat) (rc : dV → Int → Int → dR) (V : dV) (x5 a0 p1 j94_3 : Int) : dR :=
  if p1 = 0 then (
  (V, 0)
  ) else (
  dv_b (V a0 24 0) fun zz4 =>
  if zz4 = 0 then (
  if x5 ≠ 50 then (
  dv_b (V a0 25 0) fun zz5 =>
  if zz5 = 0 then (
  dv_b (x5 - 8) fun x17 =>
  dv_b (V a0 26 (x17)) fun x18 =>
  dv_b (x18) fun y19 =>
  (V, y19)
  ) else (
  dv_b2 (f_X12_orderValue V (a0) (x5) (j94_3)) fun x20 _ =>
  dv_b (x20) fun y21 =>
  (V, y21)
  )
  ) else (
  dv_b (V a0 22 0) fun zz6 =>
  dv_b (2880 + zz6) fun x25 =>
  dv_b (x25 - 1) fun x26 =>
  dv_b (V a0 2 (x26)) fun x27 =>
  dv_b (x27) fun y28 =>
  (V, y28)
  )
  ) else (
  (V, 0)
  )
  )

noncomputable def f_X12_partOf_70 (d : Nat) (rc : dV → Int → Int → dR) (V : dV) (x5 a0 p1 : Int) : dR :=
  dv_b (V a0 22 0) fun zz7 =>
  dv_b (2880 + zz7) fun x31 =>
  dv_b (V a0 2 (x31)) fun x32 =>
  dv_b (V a0 22 0) fun zz8 =>
  dv_b (zz8 + 1) fun x34 =>
  dv_b (dv_u V a0 22 0 (x34)) fun V91 =>
  f_X12_partOf_94 d rc (V91) (x5) (a0) (p1) (x32)

noncomputable def f_X12_partOf_B (d : Nat) (rc : dV → Int → Int → dR) (V : dV) (a0 p1 : Int) : dR :=
  dv_b2 (f_X12_sign V (91)) fun x1 _ =>
  dv_b2 (f_X12_passes0 V (a0) (x1)) fun V6 x2 =>
  if x2 = 0 then (
  dv_b (V6 a0 22 0) fun zz1 =>
  dv_b2 (f_X12_codeAt V6 (a0) (zz1)) fun x5 _ =>
  dv_b (V6 a0 22 0) fun zz2 =>
  dv_b (zz2 + 1) fun x7 =>
  dv_b (dv_u V6 a0 22 0 (x7)) fun V48 =>
  dv_b (V48 a0 25 0) fun zz3 =>
  if zz3 = 0 then (
  f_X12_partOf_94 d rc (V48) (x5) (a0) (p1) (0)
  ) else (
  if x5 = 14 then (
  f_X12_partOf_70 d rc (V48) (x5) (a0) (p1)
  ) else (
  if x5 ≠ 20 then (
  f_X12_partOf_94 d rc (V48) (x5) (a0) (p1) (0)
  ) else (
  f_X12_partOf_70 d rc (V48) (x5) (a0) (p1)
  )
  )
  )
  ) else (
  dv_b2 (rc V6 (a0) (p1)) fun V14 y38 =>
  dv_b (V14 a0 22 0) fun zz9 =>
  dv_b (zz9 + 1) fun x41 =>
  dv_b (dv_u V14 a0 22 0 (x41)) fun V25 =>
  (V25, y38)
  )

noncomputable def f_X12_termOf_160 (d : Nat) (rc : dV → Int → Int → dR) (V : dV) (a0 p1 s160_1 : Int) : Sum (dV × Int × Int × Int) (dR) :=
  dv_b2 (f_X12_bounded V (a0) (s160_1) (p1)) fun V161 y18 =>
  Sum.inl (V161, a0, p1, y18)

noncomputable def f_X12_termOf_121 (d : Nat) (rc : dV → Int → Int → dR) (V : dV) (x9 a0 p1 j6_2 j121_5 : Int) : Sum (dV × Int × Int × Int) (dR) :=
  dv_b2 (f_X12_sign V (42)) fun x17 _ =>
  if x9 ≠ x17 then (
  dv_b2 (f_X12_sign V (47)) fun x19 _ =>
  if x9 ≠ x19 then (
  dv_b (dv_lrem (j6_2) (j121_5)) fun y20 =>
  f_X12_termOf_160 d rc (V) (a0) (p1) (y20)
  ) else (
  dv_b (dv_ldiv (j6_2) (j121_5)) fun y21 =>
  f_X12_termOf_160 d rc (V) (a0) (p1) (y21)
  )
  ) else (
  dv_b (dv_lmul (j6_2) (j121_5)) fun y22 =>
  f_X12_termOf_160 d rc (V) (a0) (p1) (y22)
  )

noncomputable def f_X12_termOf_115 (d : Nat) (rc : dV → Int → Int → dR) (V : dV) (x9 a0 p1 j6_2 s115_1 : Int) : Sum (dV × Int × Int × Int) (dR) :=
  dv_b (dv_u V a0 24 0 (s115_1)) fun V115 =>
  f_X12_termOf_121 d rc (V115) (x9) (a0) (p1) (j6_2) (1)

noncomputable def f_X12_termOf_110 (d : Nat) (rc : dV → Int → Int → dR) (V : dV) (x9 a0 p1 j6_2 : Int) : Sum (dV × Int × Int × Int) (dR) :=
  f_X12_termOf_115 d rc (V) (x9) (a0) (p1) (j6_2) (1)

noncomputable def f_X12_termOf_54 (d : Nat) (rc : dV → Int → Int → dR) (V : dV) (a0 p1 j6_2 : Int) : Sum (dV × Int × Int × Int) (dR) :=
  dv_b (V a0 22 0) fun zz2 =>
  dv_b2 (f_X12_codeAt V (a0) (zz2)) fun x9 _ =>
  dv_b (V a0 22 0) fun zz3 =>
  dv_b (zz3 + 1) fun x11 =>
  dv_b (dv_u V a0 22 0 (x11)) fun V71 =>
  dv_b2 (rc V71 (a0) (p1)) fun V76 y13 =>
  dv_b2 (f_X12_sign V76 (42)) fun x14 _ =>
  if x9 = x14 then (
  f_X12_termOf_121 d rc (V76) (x9) (a0) (p1) (j6_2) (y13)
  ) else (
  dv_b (dv_lcmp (y13) (0)) fun x23 =>
  if x23 ≠ 0 then (
  f_X12_termOf_121 d rc (V76) (x9) (a0) (p1) (j6_2) (y13)
  ) else (
  dv_b (V76 a0 24 0) fun zz4 =>
  if zz4 ≠ 0 then (
  f_X12_termOf_110 d rc (V76) (x9) (a0) (p1) (j6_2)
  ) else (
  if p1 = 0 then (
  f_X12_termOf_115 d rc (V76) (x9) (a0) (p1) (j6_2) (0)
  ) else (
  f_X12_termOf_110 d rc (V76) (x9) (a0) (p1) (j6_2)
  )
  )
  )
  )

noncomputable def f_X12_termOf_6c (d : Nat) (rc : dV → Int → Int → dR) (V : dV) (a0 p1 j6_2 : Int) : Sum (dV × Int × Int × Int) (dR) :=
  dv_b (V a0 22 0) fun zz1 =>
  dv_b2 (f_X12_codeAt V (a0) (zz1)) fun x6 _ =>
  dv_b2 (f_X12_sign V (42)) fun x7 _ =>
  if x6 = x7 then (
  f_X12_termOf_54 d rc (V) (a0) (p1) (j6_2)
  ) else (
  dv_b (V a0 22 0) fun zz5 =>
  dv_b2 (f_X12_codeAt V (a0) (zz5)) fun x27 _ =>
  dv_b2 (f_X12_sign V (47)) fun x28 _ =>
  if x27 = x28 then (
  f_X12_termOf_54 d rc (V) (a0) (p1) (j6_2)
  ) else (
  dv_b (V a0 22 0) fun zz6 =>
  dv_b2 (f_X12_codeAt V (a0) (zz6)) fun x30 _ =>
  dv_b2 (f_X12_sign V (37)) fun x31 _ =>
  if x30 ≠ x31 then (
  Sum.inr ((V, j6_2))
  ) else (
  f_X12_termOf_54 d rc (V) (a0) (p1) (j6_2)
  )
  )
  )
noncomputable def f_X12_termOf_6b (d : Nat) (rc : dV → Int → Int → dR) (s : (dV × Int × Int × Int)) : Sum (dV × Int × Int × Int) (dR) := f_X12_termOf_6c d rc (s.1) (s.2.1) (s.2.2.1) (s.2.2.2)

theorem f_X12_termOf_6e (d : Nat) (rc : dV → Int → Int → dR) (V : dV) (a0 p1 j6_2 : Int) : f_X12_termOf_6b d rc (V, a0, p1, j6_2) = f_X12_termOf_6c d rc V a0 p1 j6_2 := rfl

noncomputable def f_X12_termOf_B (d : Nat) (rc : dV → Int → Int → dR) (V : dV) (a0 p1 : Int) : dR :=
  dv_b2 (rc V (a0) (p1)) fun V2 y1 =>
  dv_lp (f_X12_termOf_6b d rc) (V2, a0, p1, y1)

noncomputable def f_X12_sumOf_95 (d : Nat) (rc : dV → Int → Int → dR) (V : dV) (a0 p1 s95_1 : Int) : Sum (dV × Int × Int × Int) (dR) :=
  dv_b2 (f_X12_bounded V (a0) (s95_1) (p1)) fun V96 y15 =>
  Sum.inl (V96, a0, p1, y15)

noncomputable def f_X12_sumOf_59 (d : Nat) (rc : dV → Int → Int → dR) (V : dV) (a0 p1 j6_2 s59_0 : Int) : Sum (dV × Int × Int × Int) (dR) :=
  dv_b (V a0 22 0) fun zz3 =>
  dv_b (zz3 + 1) fun x12 =>
  dv_b (dv_u V a0 22 0 (x12)) fun V68 =>
  dv_b2 (rc V68 (a0) (p1)) fun V73 y14 =>
  if s59_0 = 0 then (
  dv_b (dv_lsub (j6_2) (y14)) fun y16 =>
  f_X12_sumOf_95 d rc (V73) (a0) (p1) (y16)
  ) else (
  dv_b (dv_ladd (j6_2) (y14)) fun y17 =>
  f_X12_sumOf_95 d rc (V73) (a0) (p1) (y17)
  )

noncomputable def f_X12_sumOf_38 (d : Nat) (rc : dV → Int → Int → dR) (V : dV) (a0 p1 j6_2 : Int) : Sum (dV × Int × Int × Int) (dR) :=
  dv_b (V a0 22 0) fun zz2 =>
  dv_b2 (f_X12_codeAt V (a0) (zz2)) fun x9 _ =>
  dv_b2 (f_X12_sign V (43)) fun x10 _ =>
  if x9 ≠ x10 then (
  f_X12_sumOf_59 d rc (V) (a0) (p1) (j6_2) (0)
  ) else (
  f_X12_sumOf_59 d rc (V) (a0) (p1) (j6_2) (1)
  )

noncomputable def f_X12_sumOf_6c (d : Nat) (rc : dV → Int → Int → dR) (V : dV) (a0 p1 j6_2 : Int) : Sum (dV × Int × Int × Int) (dR) :=
  dv_b (V a0 22 0) fun zz1 =>
  dv_b2 (f_X12_codeAt V (a0) (zz1)) fun x6 _ =>
  dv_b2 (f_X12_sign V (43)) fun x7 _ =>
  if x6 = x7 then (
  f_X12_sumOf_38 d rc (V) (a0) (p1) (j6_2)
  ) else (
  dv_b (V a0 22 0) fun zz4 =>
  dv_b2 (f_X12_codeAt V (a0) (zz4)) fun x19 _ =>
  dv_b2 (f_X12_sign V (45)) fun x20 _ =>
  if x19 ≠ x20 then (
  Sum.inr ((V, j6_2))
  ) else (
  f_X12_sumOf_38 d rc (V) (a0) (p1) (j6_2)
  )
  )
noncomputable def f_X12_sumOf_6b (d : Nat) (rc : dV → Int → Int → dR) (s : (dV × Int × Int × Int)) : Sum (dV × Int × Int × Int) (dR) := f_X12_sumOf_6c d rc (s.1) (s.2.1) (s.2.2.1) (s.2.2.2)

theorem f_X12_sumOf_6e (d : Nat) (rc : dV → Int → Int → dR) (V : dV) (a0 p1 j6_2 : Int) : f_X12_sumOf_6b d rc (V, a0, p1, j6_2) = f_X12_sumOf_6c d rc V a0 p1 j6_2 := rfl

noncomputable def f_X12_sumOf_B (d : Nat) (rc : dV → Int → Int → dR) (V : dV) (a0 p1 : Int) : dR :=
  dv_b2 (rc V (a0) (p1)) fun V2 y1 =>
  dv_lp (f_X12_sumOf_6b d rc) (V2, a0, p1, y1)

noncomputable def f_X12_sumOf : Nat → dV → Int → Int → dR
  | 0 => (f_X12_sumOf_B 0 (f_X12_termOf_B 0 (f_X12_partOf_B 0 (fun _ _ _ => dv_z))))
  | d + 1 => (f_X12_sumOf_B (d + 1) (f_X12_termOf_B (d + 1) (f_X12_partOf_B (d + 1) (f_X12_sumOf d))))

noncomputable def f_X12_partOf (d : Nat) : dV → Int → Int → dR := f_X12_partOf_B d (dv_pre (fun _ _ _ => dv_z) f_X12_sumOf d)

theorem f_X12_partOf_d (d : Nat) (V : dV) (a0 p1 : Int) : f_X12_partOf d V a0 p1 = f_X12_partOf_B d (dv_pre (fun _ _ _ => dv_z) f_X12_sumOf d) V a0 p1 := rfl

noncomputable def f_X12_termOf (d : Nat) : dV → Int → Int → dR := f_X12_termOf_B d (f_X12_partOf d)

theorem f_X12_termOf_d (d : Nat) (V : dV) (a0 p1 : Int) : f_X12_termOf d V a0 p1 = f_X12_termOf_B d (f_X12_partOf d) V a0 p1 := rfl

theorem f_X12_sumOf_d (d : Nat) (V : dV) (a0 p1 : Int) : f_X12_sumOf d V a0 p1 = f_X12_sumOf_B d (f_X12_termOf d) V a0 p1 := by cases d <;> rfl

noncomputable def f_X12_positiveOf_B (d : Nat) (rc : dV → Int → Int → dR) (V : dV) (a0 p1 : Int) : dR :=
  dv_b2 (f_X12_sign V (40)) fun x1 _ =>
  dv_b2 (f_X12_passes0 V (a0) (x1)) fun V6 x2 =>
  if x2 = 0 then (
  dv_b2 (f_X12_sumOf d V6 (a0) (p1)) fun V32 y3 =>
  dv_b (V32 a0 22 0) fun zz1 =>
  dv_b2 (f_X12_codeAt V32 (a0) (zz1)) fun x6 _ =>
  dv_b (V32 a0 22 0) fun zz2 =>
  dv_b (zz2 + 1) fun x8 =>
  dv_b (dv_u V32 a0 22 0 (x8)) fun V53 =>
  dv_b2 (f_X12_sumOf d V53 (a0) (p1)) fun V58 y9 =>
  if p1 = 0 then (
  (V58, 0)
  ) else (
  dv_b (V58 a0 24 0) fun zz3 =>
  if zz3 ≠ 0 then (
  (V58, 0)
  ) else (
  dv_b2 (f_X12_sign V58 (60)) fun x11 _ =>
  if x6 ≠ x11 then (
  dv_b2 (f_X12_sign V58 (62)) fun x12 _ =>
  if x6 ≠ x12 then (
  dv_b (dv_lcmp (y3) (y9)) fun x13 =>
  if x13 ≠ 0 then (
  (V58, 0)
  ) else (
  (V58, 1)
  )
  ) else (
  dv_b (dv_lcmp (y3) (y9)) fun x14 =>
  if x14 ≤ 0 then (
  (V58, 0)
  ) else (
  (V58, 1)
  )
  )
  ) else (
  dv_b (dv_lcmp (y3) (y9)) fun x15 =>
  if 0 ≤ x15 then (
  (V58, 0)
  ) else (
  (V58, 1)
  )
  )
  )
  )
  ) else (
  dv_b2 (rc V6 (a0) (p1)) fun V14 x16 =>
  dv_b (V14 a0 22 0) fun zz4 =>
  dv_b (zz4 + 1) fun x19 =>
  dv_b (dv_u V14 a0 22 0 (x19)) fun V25 =>
  (V25, x16)
  )

noncomputable def f_X12_plainOf_20 (d : Nat) (rc : dV → Int → Int → dR) (V : dV) (a0 p1 s20_0 : Int) : Sum (dV × Int × Int × Int) (dR) :=
  Sum.inl (V, a0, p1, s20_0)

noncomputable def f_X12_plainOf_2c (d : Nat) (rc : dV → Int → Int → dR) (V : dV) (a0 p1 j2_2 : Int) : Sum (dV × Int × Int × Int) (dR) :=
  dv_b2 (f_X12_passes0 V (a0) (7)) fun V5 x3 =>
  if x3 = 0 then (
  dv_b2 (rc V5 (a0) (p1)) fun V26 x4 =>
  if x4 = j2_2 then (
  Sum.inr ((V26, 0))
  ) else (
  Sum.inr ((V26, 1))
  )
  ) else (
  if j2_2 ≠ 0 then (
  f_X12_plainOf_20 d rc (V5) (a0) (p1) (0)
  ) else (
  f_X12_plainOf_20 d rc (V5) (a0) (p1) (1)
  )
  )
noncomputable def f_X12_plainOf_2b (d : Nat) (rc : dV → Int → Int → dR) (s : (dV × Int × Int × Int)) : Sum (dV × Int × Int × Int) (dR) := f_X12_plainOf_2c d rc (s.1) (s.2.1) (s.2.2.1) (s.2.2.2)

theorem f_X12_plainOf_2e (d : Nat) (rc : dV → Int → Int → dR) (V : dV) (a0 p1 j2_2 : Int) : f_X12_plainOf_2b d rc (V, a0, p1, j2_2) = f_X12_plainOf_2c d rc V a0 p1 j2_2 := rfl

noncomputable def f_X12_plainOf_B (d : Nat) (rc : dV → Int → Int → dR) (V : dV) (a0 p1 : Int) : dR :=
  dv_lp (f_X12_plainOf_2b d rc) (V, a0, p1, 0)

noncomputable def f_X12_bothOf_46 (d : Nat) (rc : dV → Int → Int → dR) (V : dV) (a0 p1 s46_0 : Int) : Sum (dV × Int × Int × Int) (dR) :=
  Sum.inl (V, a0, p1, s46_0)

noncomputable def f_X12_bothOf_45 (d : Nat) (rc : dV → Int → Int → dR) (V : dV) (a0 p1 : Int) : Sum (dV × Int × Int × Int) (dR) :=
  f_X12_bothOf_46 d rc (V) (a0) (p1) (0)

noncomputable def f_X12_bothOf_29 (d : Nat) (rc : dV → Int → Int → dR) (V : dV) (a0 p1 j6_2 s29_1 : Int) : Sum (dV × Int × Int × Int) (dR) :=
  dv_b2 (rc V (a0) (s29_1)) fun V29 x5 =>
  if j6_2 = 0 then (
  f_X12_bothOf_45 d rc (V29) (a0) (p1)
  ) else (
  if x5 = 0 then (
  f_X12_bothOf_45 d rc (V29) (a0) (p1)
  ) else (
  f_X12_bothOf_46 d rc (V29) (a0) (p1) (1)
  )
  )

noncomputable def f_X12_bothOf_28 (d : Nat) (rc : dV → Int → Int → dR) (V : dV) (a0 p1 j6_2 : Int) : Sum (dV × Int × Int × Int) (dR) :=
  f_X12_bothOf_29 d rc (V) (a0) (p1) (j6_2) (0)

noncomputable def f_X12_bothOf_6c (d : Nat) (rc : dV → Int → Int → dR) (V : dV) (a0 p1 j6_2 : Int) : Sum (dV × Int × Int × Int) (dR) :=
  dv_b2 (f_X12_passes0 V (a0) (6)) fun V9 x4 =>
  if x4 = 0 then (
  Sum.inr ((V9, j6_2))
  ) else (
  if p1 = 0 then (
  f_X12_bothOf_28 d rc (V9) (a0) (p1) (j6_2)
  ) else (
  if j6_2 = 0 then (
  f_X12_bothOf_28 d rc (V9) (a0) (p1) (j6_2)
  ) else (
  f_X12_bothOf_29 d rc (V9) (a0) (p1) (j6_2) (1)
  )
  )
  )
noncomputable def f_X12_bothOf_6b (d : Nat) (rc : dV → Int → Int → dR) (s : (dV × Int × Int × Int)) : Sum (dV × Int × Int × Int) (dR) := f_X12_bothOf_6c d rc (s.1) (s.2.1) (s.2.2.1) (s.2.2.2)

theorem f_X12_bothOf_6e (d : Nat) (rc : dV → Int → Int → dR) (V : dV) (a0 p1 j6_2 : Int) : f_X12_bothOf_6b d rc (V, a0, p1, j6_2) = f_X12_bothOf_6c d rc V a0 p1 j6_2 := rfl

noncomputable def f_X12_bothOf_B (d : Nat) (rc : dV → Int → Int → dR) (V : dV) (a0 p1 : Int) : dR :=
  dv_b2 (rc V (a0) (p1)) fun V2 x1 =>
  dv_lp (f_X12_bothOf_6b d rc) (V2, a0, p1, x1)

noncomputable def f_X12_testOf_45 (d : Nat) (rc : dV → Int → Int → dR) (V : dV) (a0 p1 s45_0 : Int) : Sum (dV × Int × Int × Int) (dR) :=
  Sum.inl (V, a0, p1, s45_0)

noncomputable def f_X12_testOf_40 (d : Nat) (rc : dV → Int → Int → dR) (V : dV) (a0 p1 : Int) : Sum (dV × Int × Int × Int) (dR) :=
  f_X12_testOf_45 d rc (V) (a0) (p1) (1)

noncomputable def f_X12_testOf_28 (d : Nat) (rc : dV → Int → Int → dR) (V : dV) (a0 p1 j6_2 s28_1 : Int) : Sum (dV × Int × Int × Int) (dR) :=
  dv_b2 (rc V (a0) (s28_1)) fun V28 x5 =>
  if j6_2 ≠ 0 then (
  f_X12_testOf_40 d rc (V28) (a0) (p1)
  ) else (
  if x5 = 0 then (
  f_X12_testOf_45 d rc (V28) (a0) (p1) (0)
  ) else (
  f_X12_testOf_40 d rc (V28) (a0) (p1)
  )
  )

noncomputable def f_X12_testOf_27 (d : Nat) (rc : dV → Int → Int → dR) (V : dV) (a0 p1 j6_2 : Int) : Sum (dV × Int × Int × Int) (dR) :=
  f_X12_testOf_28 d rc (V) (a0) (p1) (j6_2) (0)

noncomputable def f_X12_testOf_6c (d : Nat) (rc : dV → Int → Int → dR) (V : dV) (a0 p1 j6_2 : Int) : Sum (dV × Int × Int × Int) (dR) :=
  dv_b2 (f_X12_passes0 V (a0) (5)) fun V8 x4 =>
  if x4 = 0 then (
  Sum.inr ((V8, j6_2))
  ) else (
  if p1 = 0 then (
  f_X12_testOf_27 d rc (V8) (a0) (p1) (j6_2)
  ) else (
  if j6_2 ≠ 0 then (
  f_X12_testOf_27 d rc (V8) (a0) (p1) (j6_2)
  ) else (
  f_X12_testOf_28 d rc (V8) (a0) (p1) (j6_2) (1)
  )
  )
  )
noncomputable def f_X12_testOf_6b (d : Nat) (rc : dV → Int → Int → dR) (s : (dV × Int × Int × Int)) : Sum (dV × Int × Int × Int) (dR) := f_X12_testOf_6c d rc (s.1) (s.2.1) (s.2.2.1) (s.2.2.2)

theorem f_X12_testOf_6e (d : Nat) (rc : dV → Int → Int → dR) (V : dV) (a0 p1 j6_2 : Int) : f_X12_testOf_6b d rc (V, a0, p1, j6_2) = f_X12_testOf_6c d rc V a0 p1 j6_2 := rfl

noncomputable def f_X12_testOf_B (d : Nat) (rc : dV → Int → Int → dR) (V : dV) (a0 p1 : Int) : dR :=
  dv_b2 (rc V (a0) (p1)) fun V2 x1 =>
  dv_lp (f_X12_testOf_6b d rc) (V2, a0, p1, x1)

noncomputable def f_X12_testOf : Nat → dV → Int → Int → dR
  | 0 => (f_X12_testOf_B 0 (f_X12_bothOf_B 0 (f_X12_plainOf_B 0 (f_X12_positiveOf_B 0 (fun _ _ _ => dv_z)))))
  | d + 1 => (f_X12_testOf_B (d + 1) (f_X12_bothOf_B (d + 1) (f_X12_plainOf_B (d + 1) (f_X12_positiveOf_B (d + 1) (f_X12_testOf d)))))

noncomputable def f_X12_positiveOf (d : Nat) : dV → Int → Int → dR := f_X12_positiveOf_B d (dv_pre (fun _ _ _ => dv_z) f_X12_testOf d)

theorem f_X12_positiveOf_d (d : Nat) (V : dV) (a0 p1 : Int) : f_X12_positiveOf d V a0 p1 = f_X12_positiveOf_B d (dv_pre (fun _ _ _ => dv_z) f_X12_testOf d) V a0 p1 := rfl

noncomputable def f_X12_plainOf (d : Nat) : dV → Int → Int → dR := f_X12_plainOf_B d (f_X12_positiveOf d)

theorem f_X12_plainOf_d (d : Nat) (V : dV) (a0 p1 : Int) : f_X12_plainOf d V a0 p1 = f_X12_plainOf_B d (f_X12_positiveOf d) V a0 p1 := rfl

noncomputable def f_X12_bothOf (d : Nat) : dV → Int → Int → dR := f_X12_bothOf_B d (f_X12_plainOf d)

theorem f_X12_bothOf_d (d : Nat) (V : dV) (a0 p1 : Int) : f_X12_bothOf d V a0 p1 = f_X12_bothOf_B d (f_X12_plainOf d) V a0 p1 := rfl

theorem f_X12_testOf_d (d : Nat) (V : dV) (a0 p1 : Int) : f_X12_testOf d V a0 p1 = f_X12_testOf_B d (f_X12_bothOf d) V a0 p1 := by cases d <;> rfl

noncomputable def f_X12_setsAsked (V : dV) (a0 p1 p2 p3 : Int) : dR :=
  dv_b (dv_u V a0 26 (0) (p1)) fun V6 =>
  dv_b (29 + p1) fun x4 =>
  dv_b (V6 a0 2 (x4)) fun x5 =>
  dv_b (dv_u V6 a0 26 (1) (x5)) fun V21 =>
  dv_b (38 + p1) fun x8 =>
  dv_b (V21 a0 2 (x8)) fun x9 =>
  dv_b (dv_u V21 a0 26 (2) (x9)) fun V36 =>
  dv_b (dv_u V36 a0 26 (3) (p2)) fun V43 =>
  dv_b (dv_u V43 a0 26 (4) (p3)) fun V50 =>
  dv_b (V50 a0 2 (66)) fun x16 =>
  dv_b (dv_u V50 a0 26 (5) (x16)) fun V63 =>
  dv_b (0 + p1) fun x19 =>
  dv_b (V63 a0 2 (x19)) fun x20 =>
  dv_b (dv_u V63 a0 26 (6) (x20)) fun V78 =>
  dv_b (V78 a0 2 (28)) fun x23 =>
  dv_b (dv_u V78 a0 26 (7) (x23)) fun V92 =>
  (V92, 0)

noncomputable def f_X12_tells_211 (V : dV) (a0 p1 p5 j211_7 : Int) : Sum (dV × Int × Int × Int × Int) (dR) :=
  dv_b (V a0 22 0) fun zz7 =>
  dv_b (zz7 + 1) fun x40 =>
  dv_b (dv_u V a0 22 0 (x40)) fun V218 =>
  Sum.inl (V218, a0, p1, p5, j211_7)

noncomputable def f_X12_tells_156 (V : dV) (zz6 s122_0 x23 a0 p1 p5 j71_7 s156_0 : Int) : Sum (dV × Int × Int × Int × Int) (dR) :=
  if x23 ≠ p1 then (
  f_X12_tells_211 (V) (a0) (p1) (p5) (j71_7)
  ) else (
  if s156_0 = 0 then (
  f_X12_tells_211 (V) (a0) (p1) (p5) (j71_7)
  ) else (
  dv_b (V a0 24 0) fun zz8 =>
  if zz8 ≠ 0 then (
  f_X12_tells_211 (V) (a0) (p1) (p5) (j71_7)
  ) else (
  if zz6 ≠ 0 then (
  f_X12_tells_211 (V) (a0) (p1) (p5) (j71_7)
  ) else (
  dv_b (dv_lcmp (s122_0) (0)) fun x44 =>
  if 0 ≤ x44 then (
  dv_b (p5) fun y45 =>
  dv_b (dv_lcmp (s122_0) (y45)) fun x46 =>
  if x46 ≤ 0 then (
  f_X12_tells_211 (V) (a0) (p1) (p5) (s122_0)
  ) else (
  dv_b (p5) fun y47 =>
  f_X12_tells_211 (V) (a0) (p1) (p5) (y47)
  )
  ) else (
  f_X12_tells_211 (V) (a0) (p1) (p5) (0)
  )
  )
  )
  )
  )

noncomputable def f_X12_tells_151 (V : dV) (zz6 s122_0 x23 a0 p1 p5 j71_7 : Int) : Sum (dV × Int × Int × Int × Int) (dR) :=
  f_X12_tells_156 (V) (zz6) (s122_0) (x23) (a0) (p1) (p5) (j71_7) (1)

noncomputable def f_X12_tells_122 (V : dV) (x23 a0 p1 p5 j71_7 s122_0 : Int) : Sum (dV × Int × Int × Int × Int) (dR) :=
  dv_b (V a0 24 0) fun zz6 =>
  dv_b (dv_u V a0 24 0 (0)) fun V132 =>
  dv_b2 (f_X12_passes0 V132 (a0) (4)) fun V137 x35 =>
  if x35 = 0 then (
  f_X12_tells_151 (V137) (zz6) (s122_0) (x23) (a0) (p1) (p5) (j71_7)
  ) else (
  dv_b2 (f_X12_testOf 8 V137 (a0) (1)) fun V145 x48 =>
  if x48 = 0 then (
  f_X12_tells_156 (V145) (zz6) (s122_0) (x23) (a0) (p1) (p5) (j71_7) (0)
  ) else (
  f_X12_tells_151 (V145) (zz6) (s122_0) (x23) (a0) (p1) (p5) (j71_7)
  )
  )

noncomputable def f_X12_tells_71c (V : dV) (a0 p1 p5 j71_7 : Int) : Sum (dV × Int × Int × Int × Int) (dR) :=
  dv_b (V a0 22 0) fun zz2 =>
  dv_b (V a0 23 0) fun zz3 =>
  if zz3 ≤ zz2 then (
  dv_b (dv_l2i (j71_7)) fun x21 =>
  Sum.inr ((V, x21))
  ) else (
  dv_b (V a0 22 0) fun zz4 =>
  dv_b2 (f_X12_codeAt V (a0) (zz4)) fun x23 _ =>
  dv_b (dv_u V a0 24 0 (0)) fun V94 =>
  dv_b (V94 a0 22 0) fun zz5 =>
  dv_b (zz5 + 1) fun x28 =>
  dv_b (dv_u V94 a0 22 0 (x28)) fun V104 =>
  if x23 ≠ 3 then (
  dv_b2 (f_X12_sumOf 8 V104 (a0) (1)) fun V119 y50 =>
  f_X12_tells_122 (V119) (x23) (a0) (p1) (p5) (j71_7) (y50)
  ) else (
  f_X12_tells_122 (V104) (x23) (a0) (p1) (p5) (j71_7) (1)
  )
  )
noncomputable def f_X12_tells_71b (s : (dV × Int × Int × Int × Int)) : Sum (dV × Int × Int × Int × Int) (dR) := f_X12_tells_71c (s.1) (s.2.1) (s.2.2.1) (s.2.2.2.1) (s.2.2.2.2)

theorem f_X12_tells_71e (V : dV) (a0 p1 p5 j71_7 : Int) : f_X12_tells_71b (V, a0, p1, p5, j71_7) = f_X12_tells_71c V a0 p1 p5 j71_7 := rfl

noncomputable def f_X12_tells (V : dV) (a0 p1 p2 p3 p4 p5 p6 : Int) : dR :=
  dv_b (V a0 2 (72)) fun x2 =>
  if x2 ≠ (-1) then (
  dv_b2 (f_X12_setsAsked V (a0) (p2) (p3) (p4)) fun V19 _ =>
  dv_b (dv_u V19 a0 25 0 (0)) fun V24 =>
  dv_b (p6) fun y5 =>
  dv_b (V24 a0 2 (72)) fun x6 =>
  dv_b (400 * x6) fun x7 =>
  dv_b (dv_u V24 a0 22 0 (x7)) fun V44 =>
  dv_b (V44 a0 22 0) fun zz1 =>
  dv_b (V44 a0 2 (72)) fun x11 =>
  dv_b (73 + x11) fun x12 =>
  dv_b (V44 a0 2 (x12)) fun x13 =>
  dv_b (zz1 + x13) fun x14 =>
  dv_b (dv_u V44 a0 23 0 (x14)) fun V68 =>
  dv_lp (f_X12_tells_71b) (V68, a0, p1, p5, y5)
  ) else (
  (V, p6)
  )

noncomputable def f_X12_costsAt (V : dV) (a0 p1 p2 p3 : Int) : dR :=
  dv_b (29 + p1) fun x2 =>
  dv_b (V a0 2 (x2)) fun x3 =>
  dv_b2 (f_X12_tells V (a0) (1) (p1) (p2) (p3) (99) (x3)) fun V16 x4 =>
  (V16, x4)

noncomputable def f_X12_isBarred (V : dV) (a0 p1 p2 p3 : Int) : dR :=
  dv_b2 (f_X12_tells V (a0) (3) (p1) (p2) (p3) (1) (0)) fun V7 x1 =>
  if x1 ≠ 1 then (
  (V7, 0)
  ) else (
  (V7, 1)
  )

noncomputable def f_X12_wearsNow (V : dV) (a0 p1 : Int) : dR :=
  dv_b (9 + p1) fun x2 =>
  dv_b (V a0 2 (x2)) fun x3 =>
  dv_b (18 + p1) fun x4 =>
  dv_b (V a0 2 (x4)) fun x5 =>
  dv_b2 (f_X12_tells V (a0) (2) (p1) (x3) (x5) (9) (1)) fun V24 x6 =>
  (V24, x6)

noncomputable def f_X12_faults (V : dV) (a0 : Int) : dR :=
  dv_b2 (f_X12_fine V (a0)) fun x1 _ =>
  if x1 = 0 then (
  (V, 0)
  ) else (
  dv_b (V a0 19 0) fun zz1 =>
  dv_b (V a0 17 (zz1)) fun x4 =>
  dv_b (dv_u V a0 21 0 (x4)) fun V17 =>
  (V17, 0)
  )

noncomputable def f_X12_takes0 (V : dV) (a0 p1 : Int) : dR :=
  dv_b2 (f_X12_fine V (a0)) fun x1 _ =>
  if x1 = 0 then (
  (V, 0)
  ) else (
  dv_b (V a0 19 0) fun zz1 =>
  dv_b (V a0 15 (zz1)) fun x5 =>
  if x5 ≠ p1 then (
  (V, 0)
  ) else (
  dv_b (V a0 19 0) fun zz2 =>
  dv_b (zz2 + 1) fun x7 =>
  dv_b (dv_u V a0 19 0 (x7)) fun V37 =>
  (V37, 1)
  )
  )

noncomputable def f_X12_must (V : dV) (a0 p1 : Int) : dR :=
  dv_b2 (f_X12_takes0 V (a0) (p1)) fun V2 x1 =>
  if x1 ≠ 0 then (
  (V2, 0)
  ) else (
  dv_b2 (f_X12_faults V2 (a0)) fun V9 _ =>
  (V9, 0)
  )

noncomputable def f_X12_leaf (V : dV) (a0 : Int) : dR :=
  dv_b (V a0 20 0) fun zz1 =>
  if zz1 ≠ 50 then (
  dv_b (V a0 20 0) fun zz2 =>
  dv_b (dv_add (zz2) (1)) fun x2 =>
  dv_b (dv_u V a0 20 0 (x2)) fun V20 =>
  dv_b2 (f_X12_fine V20 (a0)) fun x3 _ =>
  if x3 = 0 then (
  (V20, 0)
  ) else (
  dv_b (V20 a0 19 0) fun zz3 =>
  dv_b (zz3 + 1) fun x6 =>
  dv_b (dv_u V20 a0 19 0 (x6)) fun V37 =>
  (V37, 0)
  )
  ) else (
  dv_b2 (f_X12_faults V (a0)) fun V10 _ =>
  dv_b (V10 a0 20 0) fun zz4 =>
  dv_b (zz4 + 1) fun x8 =>
  dv_b (dv_u V10 a0 20 0 (x8)) fun V20 =>
  dv_b2 (f_X12_fine V20 (a0)) fun x9 _ =>
  if x9 = 0 then (
  (V20, 0)
  ) else (
  dv_b (V20 a0 19 0) fun zz5 =>
  dv_b (zz5 + 1) fun x12 =>
  dv_b (dv_u V20 a0 19 0 (x12)) fun V37 =>
  (V37, 0)
  )
  )

noncomputable def f_X12_mustNumber (V : dV) (a0 p1 p2 : Int) : dR :=
  dv_b2 (f_X12_fine V (a0)) fun x1 _ =>
  if x1 = 0 then (
  dv_b2 (f_X12_fine V (a0)) fun x2 _ =>
  if x2 = 0 then (
  (V, 0)
  ) else (
  dv_b (V a0 19 0) fun zz1 =>
  dv_b (zz1 + 1) fun x5 =>
  dv_b (dv_u V a0 19 0 (x5)) fun V56 =>
  (V56, 0)
  )
  ) else (
  dv_b (V a0 19 0) fun zz2 =>
  dv_b (V a0 15 (zz2)) fun x9 =>
  if x9 ≠ 50 then (
  dv_b2 (f_X12_faults V (a0)) fun V39 _ =>
  dv_b2 (f_X12_fine V39 (a0)) fun x11 _ =>
  if x11 = 0 then (
  (V39, 0)
  ) else (
  dv_b (V39 a0 19 0) fun zz3 =>
  dv_b (zz3 + 1) fun x13 =>
  dv_b (dv_u V39 a0 19 0 (x13)) fun V56 =>
  (V56, 0)
  )
  ) else (
  dv_b (V a0 19 0) fun zz4 =>
  dv_b (V a0 16 (zz4)) fun x16 =>
  dv_b2 (f_X12_lies V (x16) (p1) (p2)) fun x17 _ =>
  if x17 ≠ 0 then (
  dv_b2 (f_X12_fine V (a0)) fun x18 _ =>
  if x18 = 0 then (
  (V, 0)
  ) else (
  dv_b (V a0 19 0) fun zz5 =>
  dv_b (zz5 + 1) fun x20 =>
  dv_b (dv_u V a0 19 0 (x20)) fun V56 =>
  (V56, 0)
  )
  ) else (
  dv_b2 (f_X12_faults V (a0)) fun V39 _ =>
  dv_b2 (f_X12_fine V39 (a0)) fun x22 _ =>
  if x22 = 0 then (
  (V39, 0)
  ) else (
  dv_b (V39 a0 19 0) fun zz6 =>
  dv_b (zz6 + 1) fun x24 =>
  dv_b (dv_u V39 a0 19 0 (x24)) fun V56 =>
  (V56, 0)
  )
  )
  )
  )

noncomputable def f_X12_readPart_134 (d : Nat) (rc : dV → Int → Int → dR) (V : dV) (a0 : Int) : dR :=
  dv_b2 (f_X12_mustNumber V (a0) (0) (8)) fun V138 _ =>
  (V138, 0)

noncomputable def f_X12_readPart_111 (d : Nat) (rc : dV → Int → Int → dR) (V : dV) (x5 a0 : Int) : dR :=
  dv_b2 (f_X12_leaf V (a0)) fun V112 _ =>
  dv_b (V112 a0 10 0) fun zz2 =>
  if zz2 = 0 then (
  (V112, 0)
  ) else (
  if x5 = 14 then (
  f_X12_readPart_134 d rc (V112) (a0)
  ) else (
  if x5 ≠ 20 then (
  (V112, 0)
  ) else (
  f_X12_readPart_134 d rc (V112) (a0)
  )
  )
  )

noncomputable def f_X12_readPart_144 (d : Nat) (rc : dV → Int → Int → dR) (V : dV) (a0 : Int) : dR :=
  dv_b2 (f_X12_faults V (a0)) fun V145 _ =>
  (V145, 0)

noncomputable def f_X12_readPart_95 (d : Nat) (rc : dV → Int → Int → dR) (V : dV) (x5 a0 : Int) : dR :=
  dv_b (V a0 8 0) fun zz3 =>
  if x5 < zz3 then (
  f_X12_readPart_144 d rc (V) (a0)
  ) else (
  dv_b (V a0 9 0) fun zz4 =>
  if zz4 < x5 then (
  f_X12_readPart_144 d rc (V) (a0)
  ) else (
  f_X12_readPart_111 d rc (V) (x5) (a0)
  )
  )

noncomputable def f_X12_readPart_37 (d : Nat) (rc : dV → Int → Int → dR) (V : dV) (a0 p1 : Int) : dR :=
  dv_b2 (f_X12_fine V (a0)) fun x21 _ =>
  if x21 ≠ 0 then (
  dv_b (V a0 19 0) fun zz6 =>
  dv_b (zz6 + 1) fun x23 =>
  dv_b (dv_u V a0 19 0 (x23)) fun V52 =>
  dv_b (p1 + 1) fun x24 =>
  dv_b2 (rc V52 (a0) (x24)) fun V59 _ =>
  dv_b2 (f_X12_sign V59 (93)) fun x25 _ =>
  dv_b2 (f_X12_must V59 (a0) (x25)) fun V68 _ =>
  (V68, 0)
  ) else (
  (V, 0)
  )

noncomputable def f_X12_readPart_B (d : Nat) (rc : dV → Int → Int → dR) (V : dV) (a0 p1 : Int) : dR :=
  dv_b2 (f_X12_fine V (a0)) fun x1 _ =>
  if x1 ≠ 0 then (
  dv_b (V a0 19 0) fun zz1 =>
  dv_b (V a0 15 (zz1)) fun x5 =>
  dv_b2 (f_X12_sign V (91)) fun x6 _ =>
  if x5 ≠ x6 then (
  if x5 ≠ 50 then (
  f_X12_readPart_95 d rc (V) (x5) (a0)
  ) else (
  dv_b (V a0 19 0) fun zz5 =>
  dv_b (V a0 16 (zz5)) fun x16 =>
  if x16 ≤ 1000 then (
  f_X12_readPart_111 d rc (V) (x5) (a0)
  ) else (
  f_X12_readPart_95 d rc (V) (x5) (a0)
  )
  )
  ) else (
  if p1 ≠ 8 then (
  f_X12_readPart_37 d rc (V) (a0) (p1)
  ) else (
  dv_b2 (f_X12_faults V (a0)) fun V34 _ =>
  f_X12_readPart_37 d rc (V34) (a0) (p1)
  )
  )
  ) else (
  (V, 0)
  )

noncomputable def f_X12_readTerm_5c (d : Nat) (rc : dV → Int → Int → dR) (V : dV) (a0 p1 : Int) : Sum (dV × Int × Int) (dR) :=
  dv_b2 (f_X12_sign V (42)) fun x2 _ =>
  dv_b2 (f_X12_takes0 V (a0) (x2)) fun V11 x3 =>
  if x3 ≠ 0 then (
  dv_b2 (rc V11 (a0) (p1)) fun V43 _ =>
  Sum.inl (V43, a0, p1)
  ) else (
  dv_b2 (f_X12_sign V11 (47)) fun x4 _ =>
  dv_b2 (f_X12_takes0 V11 (a0) (x4)) fun V23 x5 =>
  if x5 ≠ 0 then (
  dv_b2 (rc V23 (a0) (p1)) fun V43 _ =>
  Sum.inl (V43, a0, p1)
  ) else (
  dv_b2 (f_X12_sign V23 (37)) fun x6 _ =>
  dv_b2 (f_X12_takes0 V23 (a0) (x6)) fun V35 x7 =>
  if x7 = 0 then (
  Sum.inr ((V35, 0))
  ) else (
  dv_b2 (rc V35 (a0) (p1)) fun V43 _ =>
  Sum.inl (V43, a0, p1)
  )
  )
  )
noncomputable def f_X12_readTerm_5b (d : Nat) (rc : dV → Int → Int → dR) (s : (dV × Int × Int)) : Sum (dV × Int × Int) (dR) := f_X12_readTerm_5c d rc (s.1) (s.2.1) (s.2.2)

theorem f_X12_readTerm_5e (d : Nat) (rc : dV → Int → Int → dR) (V : dV) (a0 p1 : Int) : f_X12_readTerm_5b d rc (V, a0, p1) = f_X12_readTerm_5c d rc V a0 p1 := rfl

noncomputable def f_X12_readTerm_B (d : Nat) (rc : dV → Int → Int → dR) (V : dV) (a0 p1 : Int) : dR :=
  dv_b2 (rc V (a0) (p1)) fun V2 _ =>
  dv_lp (f_X12_readTerm_5b d rc) (V2, a0, p1)

noncomputable def f_X12_readSum_5c (d : Nat) (rc : dV → Int → Int → dR) (V : dV) (a0 p1 : Int) : Sum (dV × Int × Int) (dR) :=
  dv_b2 (f_X12_sign V (43)) fun x2 _ =>
  dv_b2 (f_X12_takes0 V (a0) (x2)) fun V11 x3 =>
  if x3 ≠ 0 then (
  dv_b2 (rc V11 (a0) (p1)) fun V31 _ =>
  Sum.inl (V31, a0, p1)
  ) else (
  dv_b2 (f_X12_sign V11 (45)) fun x4 _ =>
  dv_b2 (f_X12_takes0 V11 (a0) (x4)) fun V23 x5 =>
  if x5 = 0 then (
  Sum.inr ((V23, 0))
  ) else (
  dv_b2 (rc V23 (a0) (p1)) fun V31 _ =>
  Sum.inl (V31, a0, p1)
  )
  )
noncomputable def f_X12_readSum_5b (d : Nat) (rc : dV → Int → Int → dR) (s : (dV × Int × Int)) : Sum (dV × Int × Int) (dR) := f_X12_readSum_5c d rc (s.1) (s.2.1) (s.2.2)

theorem f_X12_readSum_5e (d : Nat) (rc : dV → Int → Int → dR) (V : dV) (a0 p1 : Int) : f_X12_readSum_5b d rc (V, a0, p1) = f_X12_readSum_5c d rc V a0 p1 := rfl

noncomputable def f_X12_readSum_B (d : Nat) (rc : dV → Int → Int → dR) (V : dV) (a0 p1 : Int) : dR :=
  dv_b2 (rc V (a0) (p1)) fun V2 _ =>
  dv_lp (f_X12_readSum_5b d rc) (V2, a0, p1)

noncomputable def f_X12_readSum : Nat → dV → Int → Int → dR
  | 0 => (f_X12_readSum_B 0 (f_X12_readTerm_B 0 (f_X12_readPart_B 0 (fun _ _ _ => dv_z))))
  | d + 1 => (f_X12_readSum_B (d + 1) (f_X12_readTerm_B (d + 1) (f_X12_readPart_B (d + 1) (f_X12_readSum d))))

noncomputable def f_X12_readPart (d : Nat) : dV → Int → Int → dR := f_X12_readPart_B d (dv_pre (fun _ _ _ => dv_z) f_X12_readSum d)

theorem f_X12_readPart_d (d : Nat) (V : dV) (a0 p1 : Int) : f_X12_readPart d V a0 p1 = f_X12_readPart_B d (dv_pre (fun _ _ _ => dv_z) f_X12_readSum d) V a0 p1 := rfl

noncomputable def f_X12_readTerm (d : Nat) : dV → Int → Int → dR := f_X12_readTerm_B d (f_X12_readPart d)

theorem f_X12_readTerm_d (d : Nat) (V : dV) (a0 p1 : Int) : f_X12_readTerm d V a0 p1 = f_X12_readTerm_B d (f_X12_readPart d) V a0 p1 := rfl

theorem f_X12_readSum_d (d : Nat) (V : dV) (a0 p1 : Int) : f_X12_readSum d V a0 p1 = f_X12_readSum_B d (f_X12_readTerm d) V a0 p1 := by cases d <;> rfl

noncomputable def f_X12_readPlain_53 (d : Nat) (rc : dV → Int → Int → dR) (V : dV) (a0 p1 : Int) : Sum (dV × Int × Int × Int) (dR) :=
  dv_b2 (f_X12_fine V (a0)) fun x14 _ =>
  if x14 ≠ 0 then (
  dv_b (V a0 19 0) fun zz2 =>
  dv_b (zz2 + 1) fun x16 =>
  dv_b (dv_u V a0 19 0 (x16)) fun V68 =>
  dv_b (p1 + 1) fun x17 =>
  dv_b2 (rc V68 (a0) (x17)) fun V75 _ =>
  dv_b2 (f_X12_sign V75 (41)) fun x18 _ =>
  dv_b2 (f_X12_must V75 (a0) (x18)) fun V84 _ =>
  Sum.inr ((V84, 0))
  ) else (
  Sum.inr ((V, 0))
  )

noncomputable def f_X12_readPlain_2c (d : Nat) (rc : dV → Int → Int → dR) (V : dV) (a0 p1 j2_2 : Int) : Sum (dV × Int × Int × Int) (dR) :=
  if j2_2 = 0 then (
  dv_b2 (f_X12_fine V (a0)) fun x2 _ =>
  if x2 ≠ 0 then (
  dv_b (V a0 19 0) fun zz1 =>
  dv_b (V a0 15 (zz1)) fun x6 =>
  dv_b2 (f_X12_sign V (40)) fun x7 _ =>
  if x6 ≠ x7 then (
  dv_b2 (f_X12_readSum d V (a0) (p1)) fun V92 _ =>
  dv_b2 (f_X12_sign V92 (60)) fun x8 _ =>
  dv_b2 (f_X12_takes0 V92 (a0) (x8)) fun V101 x9 =>
  if x9 ≠ 0 then (
  dv_b2 (f_X12_readSum d V101 (a0) (p1)) fun V130 _ =>
  Sum.inr ((V130, 0))
  ) else (
  dv_b2 (f_X12_sign V101 (62)) fun x10 _ =>
  dv_b2 (f_X12_takes0 V101 (a0) (x10)) fun V113 x11 =>
  if x11 ≠ 0 then (
  dv_b2 (f_X12_readSum d V113 (a0) (p1)) fun V130 _ =>
  Sum.inr ((V130, 0))
  ) else (
  dv_b2 (f_X12_sign V113 (61)) fun x12 _ =>
  dv_b2 (f_X12_must V113 (a0) (x12)) fun V125 _ =>
  dv_b2 (f_X12_readSum d V125 (a0) (p1)) fun V130 _ =>
  Sum.inr ((V130, 0))
  )
  )
  ) else (
  if p1 ≠ 8 then (
  f_X12_readPlain_53 d rc (V) (a0) (p1)
  ) else (
  dv_b2 (f_X12_faults V (a0)) fun V50 _ =>
  f_X12_readPlain_53 d rc (V50) (a0) (p1)
  )
  )
  ) else (
  Sum.inr ((V, 0))
  )
  ) else (
  dv_b2 (f_X12_takes0 V (a0) (7)) fun V9 x20 =>
  Sum.inl (V9, a0, p1, x20)
  )
noncomputable def f_X12_readPlain_2b (d : Nat) (rc : dV → Int → Int → dR) (s : (dV × Int × Int × Int)) : Sum (dV × Int × Int × Int) (dR) := f_X12_readPlain_2c d rc (s.1) (s.2.1) (s.2.2.1) (s.2.2.2)

theorem f_X12_readPlain_2e (d : Nat) (rc : dV → Int → Int → dR) (V : dV) (a0 p1 j2_2 : Int) : f_X12_readPlain_2b d rc (V, a0, p1, j2_2) = f_X12_readPlain_2c d rc V a0 p1 j2_2 := rfl

noncomputable def f_X12_readPlain_B (d : Nat) (rc : dV → Int → Int → dR) (V : dV) (a0 p1 : Int) : dR :=
  dv_lp (f_X12_readPlain_2b d rc) (V, a0, p1, 1)

noncomputable def f_X12_readBoth_5c (d : Nat) (rc : dV → Int → Int → dR) (V : dV) (a0 p1 : Int) : Sum (dV × Int × Int) (dR) :=
  dv_b2 (f_X12_takes0 V (a0) (6)) fun V8 x2 =>
  if x2 = 0 then (
  Sum.inr ((V8, 0))
  ) else (
  dv_b2 (rc V8 (a0) (p1)) fun V16 _ =>
  Sum.inl (V16, a0, p1)
  )
noncomputable def f_X12_readBoth_5b (d : Nat) (rc : dV → Int → Int → dR) (s : (dV × Int × Int)) : Sum (dV × Int × Int) (dR) := f_X12_readBoth_5c d rc (s.1) (s.2.1) (s.2.2)

theorem f_X12_readBoth_5e (d : Nat) (rc : dV → Int → Int → dR) (V : dV) (a0 p1 : Int) : f_X12_readBoth_5b d rc (V, a0, p1) = f_X12_readBoth_5c d rc V a0 p1 := rfl

noncomputable def f_X12_readBoth_B (d : Nat) (rc : dV → Int → Int → dR) (V : dV) (a0 p1 : Int) : dR :=
  dv_b2 (rc V (a0) (p1)) fun V2 _ =>
  dv_lp (f_X12_readBoth_5b d rc) (V2, a0, p1)

noncomputable def f_X12_readTest_5c (d : Nat) (rc : dV → Int → Int → dR) (V : dV) (a0 p1 : Int) : Sum (dV × Int × Int) (dR) :=
  dv_b2 (f_X12_takes0 V (a0) (5)) fun V7 x2 =>
  if x2 = 0 then (
  Sum.inr ((V7, 0))
  ) else (
  dv_b2 (rc V7 (a0) (p1)) fun V15 _ =>
  Sum.inl (V15, a0, p1)
  )
noncomputable def f_X12_readTest_5b (d : Nat) (rc : dV → Int → Int → dR) (s : (dV × Int × Int)) : Sum (dV × Int × Int) (dR) := f_X12_readTest_5c d rc (s.1) (s.2.1) (s.2.2)

theorem f_X12_readTest_5e (d : Nat) (rc : dV → Int → Int → dR) (V : dV) (a0 p1 : Int) : f_X12_readTest_5b d rc (V, a0, p1) = f_X12_readTest_5c d rc V a0 p1 := rfl

noncomputable def f_X12_readTest_B (d : Nat) (rc : dV → Int → Int → dR) (V : dV) (a0 p1 : Int) : dR :=
  dv_b2 (rc V (a0) (p1)) fun V2 _ =>
  dv_lp (f_X12_readTest_5b d rc) (V2, a0, p1)

noncomputable def f_X12_readTest : Nat → dV → Int → Int → dR
  | 0 => (f_X12_readTest_B 0 (f_X12_readBoth_B 0 (f_X12_readPlain_B 0 (fun _ _ _ => dv_z))))
  | d + 1 => (f_X12_readTest_B (d + 1) (f_X12_readBoth_B (d + 1) (f_X12_readPlain_B (d + 1) (f_X12_readTest d))))

noncomputable def f_X12_readPlain (d : Nat) : dV → Int → Int → dR := f_X12_readPlain_B d (dv_pre (fun _ _ _ => dv_z) f_X12_readTest d)

theorem f_X12_readPlain_d (d : Nat) (V : dV) (a0 p1 : Int) : f_X12_readPlain d V a0 p1 = f_X12_readPlain_B d (dv_pre (fun _ _ _ => dv_z) f_X12_readTest d) V a0 p1 := rfl

noncomputable def f_X12_readBoth (d : Nat) : dV → Int → Int → dR := f_X12_readBoth_B d (f_X12_readPlain d)

theorem f_X12_readBoth_d (d : Nat) (V : dV) (a0 p1 : Int) : f_X12_readBoth d V a0 p1 = f_X12_readBoth_B d (f_X12_readPlain d) V a0 p1 := rfl

theorem f_X12_readTest_d (d : Nat) (V : dV) (a0 p1 : Int) : f_X12_readTest d V a0 p1 = f_X12_readTest_B d (f_X12_readBoth d) V a0 p1 := by cases d <;> rfl

noncomputable def f_X12_readClause_29 (V : dV) (a0 : Int) : dR :=
  dv_b2 (f_X12_takes0 V (a0) (4)) fun V31 x3 =>
  if x3 = 0 then (
  (V31, 0)
  ) else (
  dv_b2 (f_X12_readTest 8 V31 (a0) (0)) fun V39 _ =>
  (V39, 0)
  )

noncomputable def f_X12_readClause_16 (V : dV) (a0 : Int) : dR :=
  dv_b2 (f_X12_readSum 8 V (a0) (0)) fun V18 _ =>
  f_X12_readClause_29 (V18) (a0)

noncomputable def f_X12_readClause (V : dV) (a0 : Int) : dR :=
  dv_b2 (f_X12_takes0 V (a0) (1)) fun V2 x1 =>
  if x1 ≠ 0 then (
  f_X12_readClause_16 (V2) (a0)
  ) else (
  dv_b2 (f_X12_takes0 V2 (a0) (2)) fun V10 x5 =>
  if x5 = 0 then (
  dv_b2 (f_X12_must V10 (a0) (3)) fun V26 _ =>
  f_X12_readClause_29 (V26) (a0)
  ) else (
  f_X12_readClause_16 (V10) (a0)
  )
  )

noncomputable def f_X12_readMore (V : dV) (a0 p1 : Int) : dR :=
  dv_b2 (f_X12_must V (a0) (p1)) fun V2 _ =>
  dv_b2 (f_X12_readSum 8 V2 (a0) (0)) fun V7 _ =>
  (V7, 0)

noncomputable def f_X12_readOrder_77 (V : dV) (a0 : Int) : dR :=
  dv_b2 (f_X12_takes0 V (a0) (4)) fun V79 x5 =>
  if x5 = 0 then (
  (V79, 0)
  ) else (
  dv_b2 (f_X12_readTest 8 V79 (a0) (0)) fun V87 _ =>
  (V87, 0)
  )

noncomputable def f_X12_readOrder_61 (V : dV) (a0 : Int) : dR :=
  dv_b2 (f_X12_takes0 V (a0) (27)) fun V64 x3 =>
  if x3 = 0 then (
  f_X12_readOrder_77 (V64) (a0)
  ) else (
  dv_b2 (f_X12_mustNumber V64 (a0) (1) (20)) fun V74 _ =>
  f_X12_readOrder_77 (V74) (a0)
  )

noncomputable def f_X12_readOrder (V : dV) (a0 : Int) : dR :=
  dv_b2 (f_X12_takes0 V (a0) (21)) fun V3 x1 =>
  if x1 = 0 then (
  dv_b2 (f_X12_takes0 V3 (a0) (24)) fun V32 x6 =>
  if x6 = 0 then (
  dv_b2 (f_X12_takes0 V32 (a0) (25)) fun V49 x7 =>
  if x7 ≠ 0 then (
  f_X12_readOrder_61 (V49) (a0)
  ) else (
  dv_b2 (f_X12_must V49 (a0) (26)) fun V58 _ =>
  f_X12_readOrder_61 (V58) (a0)
  )
  ) else (
  dv_b2 (f_X12_readSum 8 V32 (a0) (0)) fun V40 _ =>
  f_X12_readOrder_61 (V40) (a0)
  )
  ) else (
  dv_b2 (f_X12_readSum 8 V3 (a0) (0)) fun V11 _ =>
  dv_b2 (f_X12_readMore V11 (a0) (22)) fun V17 _ =>
  dv_b2 (f_X12_readMore V17 (a0) (23)) fun V23 _ =>
  f_X12_readOrder_61 (V23) (a0)
  )

noncomputable def f_X12_readOne (V : dV) (a0 : Int) : dR :=
  dv_b (V a0 10 0) fun zz1 =>
  if zz1 = 0 then (
  dv_b2 (f_X12_readClause V (a0)) fun V15 _ =>
  (V15, 0)
  ) else (
  dv_b2 (f_X12_readOrder V (a0)) fun V8 _ =>
  (V8, 0)
  )

noncomputable def f_X12_wordOf_104 (V : dV) (a0 p1 p2 j5_3 j5_4 j18_5 j57_6 : Int) : Sum (dV × Int × Int × Int × Int × Int × Int × Int × Int) (Sum (dV × Int × Int × Int × Int × Int × Int) (Sum (dV × Int × Int × Int × Int × Int) (dP))) :=
  if j57_6 = 0 then (
  dv_b (j18_5 + 1) fun x6 =>
  dv_b (j5_4 + x6) fun x7 =>
  dv_b (dv_add (j5_3) (1)) fun x8 =>
  Sum.inr (Sum.inr (Sum.inl (V, a0, p1, p2, x8, x7)))
  ) else (
  Sum.inr (Sum.inr (Sum.inr ((j5_3, ()))))
  )

noncomputable def f_X12_wordOf_57c (V : dV) (a0 p1 p2 j5_3 j5_4 j18_5 j57_6 j57_7 : Int) : Sum (dV × Int × Int × Int × Int × Int × Int × Int × Int) (Sum (dV × Int × Int × Int × Int × Int × Int) (Sum (dV × Int × Int × Int × Int × Int) (dP))) :=
  if j18_5 ≤ j57_7 then (
  f_X12_wordOf_104 (V) (a0) (p1) (p2) (j5_3) (j5_4) (j18_5) (j57_6)
  ) else (
  if j57_6 = 0 then (
  f_X12_wordOf_104 (V) (a0) (p1) (p2) (j5_3) (j5_4) (j18_5) (j57_6)
  ) else (
  dv_b (j5_4 + j57_7) fun x9 =>
  dv_b (V a0 7 (x9)) fun x10 =>
  dv_b (p1 + j57_7) fun x12 =>
  dv_b (V a0 11 (x12)) fun x13 =>
  if x10 ≠ x13 then (
  dv_b (j57_7 + 1) fun x14 =>
  Sum.inl (V, a0, p1, p2, j5_3, j5_4, j18_5, 0, x14)
  ) else (
  dv_b (j57_7 + 1) fun x15 =>
  Sum.inl (V, a0, p1, p2, j5_3, j5_4, j18_5, 1, x15)
  )
  )
  )
noncomputable def f_X12_wordOf_57b (s : (dV × Int × Int × Int × Int × Int × Int × Int × Int)) : Sum (dV × Int × Int × Int × Int × Int × Int × Int × Int) (Sum (dV × Int × Int × Int × Int × Int × Int) (Sum (dV × Int × Int × Int × Int × Int) (dP))) := f_X12_wordOf_57c (s.1) (s.2.1) (s.2.2.1) (s.2.2.2.1) (s.2.2.2.2.1) (s.2.2.2.2.2.1) (s.2.2.2.2.2.2.1) (s.2.2.2.2.2.2.2.1) (s.2.2.2.2.2.2.2.2)

theorem f_X12_wordOf_57e (V : dV) (a0 p1 p2 j5_3 j5_4 j18_5 j57_6 j57_7 : Int) : f_X12_wordOf_57b (V, a0, p1, p2, j5_3, j5_4, j18_5, j57_6, j57_7) = f_X12_wordOf_57c V a0 p1 p2 j5_3 j5_4 j18_5 j57_6 j57_7 := rfl

noncomputable def f_X12_wordOf_104x2 (V : dV) (a0 p1 p2 j5_3 j5_4 j18_5 j57_6 : Int) : Sum (dV × Int × Int × Int × Int × Int × Int × Int × Int) (Sum (dV × Int × Int × Int × Int × Int × Int) (Sum (dV × Int × Int × Int × Int × Int) (dP))) :=
  if j57_6 = 0 then (
  dv_b (j18_5 + 1) fun x16 =>
  dv_b (j5_4 + x16) fun x17 =>
  dv_b (dv_add (j5_3) (1)) fun x18 =>
  Sum.inr (Sum.inr (Sum.inl (V, a0, p1, p2, x18, x17)))
  ) else (
  Sum.inr (Sum.inr (Sum.inr ((j5_3, ()))))
  )

noncomputable def f_X12_wordOf_57x2c (V : dV) (a0 p1 p2 j5_3 j5_4 j18_5 j57_6 j57_7 : Int) : Sum (dV × Int × Int × Int × Int × Int × Int × Int × Int) (Sum (dV × Int × Int × Int × Int × Int × Int) (Sum (dV × Int × Int × Int × Int × Int) (dP))) :=
  if j18_5 ≤ j57_7 then (
  f_X12_wordOf_104x2 (V) (a0) (p1) (p2) (j5_3) (j5_4) (j18_5) (j57_6)
  ) else (
  if j57_6 = 0 then (
  f_X12_wordOf_104x2 (V) (a0) (p1) (p2) (j5_3) (j5_4) (j18_5) (j57_6)
  ) else (
  dv_b (j5_4 + j57_7) fun x19 =>
  dv_b (V a0 7 (x19)) fun x20 =>
  dv_b (p1 + j57_7) fun x22 =>
  dv_b (V a0 11 (x22)) fun x23 =>
  if x20 ≠ x23 then (
  dv_b (j57_7 + 1) fun x24 =>
  Sum.inl (V, a0, p1, p2, j5_3, j5_4, j18_5, 0, x24)
  ) else (
  dv_b (j57_7 + 1) fun x25 =>
  Sum.inl (V, a0, p1, p2, j5_3, j5_4, j18_5, 1, x25)
  )
  )
  )
noncomputable def f_X12_wordOf_57x2b (s : (dV × Int × Int × Int × Int × Int × Int × Int × Int)) : Sum (dV × Int × Int × Int × Int × Int × Int × Int × Int) (Sum (dV × Int × Int × Int × Int × Int × Int) (Sum (dV × Int × Int × Int × Int × Int) (dP))) := f_X12_wordOf_57x2c (s.1) (s.2.1) (s.2.2.1) (s.2.2.2.1) (s.2.2.2.2.1) (s.2.2.2.2.2.1) (s.2.2.2.2.2.2.1) (s.2.2.2.2.2.2.2.1) (s.2.2.2.2.2.2.2.2)

theorem f_X12_wordOf_57x2e (V : dV) (a0 p1 p2 j5_3 j5_4 j18_5 j57_6 j57_7 : Int) : f_X12_wordOf_57x2b (V, a0, p1, p2, j5_3, j5_4, j18_5, j57_6, j57_7) = f_X12_wordOf_57x2c V a0 p1 p2 j5_3 j5_4 j18_5 j57_6 j57_7 := rfl

noncomputable def f_X12_wordOf_18c (V : dV) (a0 p1 p2 j5_3 j5_4 j18_5 : Int) : Sum (dV × Int × Int × Int × Int × Int × Int) (Sum (dV × Int × Int × Int × Int × Int) (dP)) :=
  dv_b (j5_4 + j18_5) fun x3 =>
  dv_b (V a0 7 (x3)) fun x4 =>
  if x4 = 32 then (
  dv_b (p2 - p1) fun x5 =>
  if j18_5 ≠ x5 then (
  dv_lp (f_X12_wordOf_57b) (V, a0, p1, p2, j5_3, j5_4, j18_5, 0, 0)
  ) else (
  dv_lp (f_X12_wordOf_57x2b) (V, a0, p1, p2, j5_3, j5_4, j18_5, 1, 0)
  )
  ) else (
  dv_b (j18_5 + 1) fun x26 =>
  Sum.inl (V, a0, p1, p2, j5_3, j5_4, x26)
  )
noncomputable def f_X12_wordOf_18b (s : (dV × Int × Int × Int × Int × Int × Int)) : Sum (dV × Int × Int × Int × Int × Int × Int) (Sum (dV × Int × Int × Int × Int × Int) (dP)) := f_X12_wordOf_18c (s.1) (s.2.1) (s.2.2.1) (s.2.2.2.1) (s.2.2.2.2.1) (s.2.2.2.2.2.1) (s.2.2.2.2.2.2)

theorem f_X12_wordOf_18e (V : dV) (a0 p1 p2 j5_3 j5_4 j18_5 : Int) : f_X12_wordOf_18b (V, a0, p1, p2, j5_3, j5_4, j18_5) = f_X12_wordOf_18c V a0 p1 p2 j5_3 j5_4 j18_5 := rfl

noncomputable def f_X12_wordOf_5c (V : dV) (a0 p1 p2 j5_3 j5_4 : Int) : Sum (dV × Int × Int × Int × Int × Int) (dP) :=
  dv_b (127) fun x2 =>
  if x2 ≤ j5_4 then (
  Sum.inr ((0, ()))
  ) else (
  dv_lp (f_X12_wordOf_18b) (V, a0, p1, p2, j5_3, j5_4, 0)
  )
noncomputable def f_X12_wordOf_5b (s : (dV × Int × Int × Int × Int × Int)) : Sum (dV × Int × Int × Int × Int × Int) (dP) := f_X12_wordOf_5c (s.1) (s.2.1) (s.2.2.1) (s.2.2.2.1) (s.2.2.2.2.1) (s.2.2.2.2.2)

theorem f_X12_wordOf_5e (V : dV) (a0 p1 p2 j5_3 j5_4 : Int) : f_X12_wordOf_5b (V, a0, p1, p2, j5_3, j5_4) = f_X12_wordOf_5c V a0 p1 p2 j5_3 j5_4 := rfl

noncomputable def f_X12_wordOf (V : dV) (a0 p1 p2 : Int) : dP :=
  dv_lp (f_X12_wordOf_5b) (V, a0, p1, p2, 1, 0)

noncomputable def f_X12_splits_247 (V : dV) (a0 p1 j100_4 : Int) : Sum (dV × Int × Int × Int × Int × Int) (Sum (dV × Int × Int × Int) (dR)) :=
  dv_b (V a0 18 0) fun zz7 =>
  dv_b (zz7 + 1) fun x42 =>
  dv_b (dv_u V a0 18 0 (x42)) fun V254 =>
  Sum.inr (Sum.inl (V254, a0, p1, j100_4))

noncomputable def f_X12_splits_240 (V : dV) (x13 a0 p1 j100_4 j169_5 zz8 s240_2 : Int) : Sum (dV × Int × Int × Int × Int × Int) (Sum (dV × Int × Int × Int) (dR)) :=
  dv_b (dv_u V a0 16 (zz8) (s240_2)) fun V240 =>
  dv_b (j169_5 + 1) fun x57 =>
  Sum.inl (V240, x13, a0, p1, j100_4, x57)

noncomputable def f_X12_splits_169c (V : dV) (x13 a0 p1 j100_4 j169_5 : Int) : Sum (dV × Int × Int × Int × Int × Int) (Sum (dV × Int × Int × Int) (dR)) :=
  if j100_4 ≤ j169_5 then (
  f_X12_splits_247 (V) (a0) (p1) (j100_4)
  ) else (
  dv_b2 (f_X12_isDigit V (x13)) fun x48 _ =>
  if x48 = 0 then (
  f_X12_splits_247 (V) (a0) (p1) (j100_4)
  ) else (
  dv_b (V a0 18 0) fun zz8 =>
  dv_b (V a0 18 0) fun zz9 =>
  dv_b (V a0 16 (zz9)) fun x51 =>
  if x51 ≤ 1000000 then (
  dv_b (V a0 18 0) fun zz10 =>
  dv_b (V a0 16 (zz10)) fun x59 =>
  dv_b (dv_mul (10) (x59)) fun x60 =>
  dv_b (V a0 11 (j169_5)) fun x61 =>
  dv_b (dv_add (x60) (x61)) fun x62 =>
  dv_b (dv_sub (x62) (48)) fun x63 =>
  f_X12_splits_240 (V) (x13) (a0) (p1) (j100_4) (j169_5) (zz8) (x63)
  ) else (
  dv_b (V a0 18 0) fun zz11 =>
  dv_b (V a0 16 (zz11)) fun x65 =>
  f_X12_splits_240 (V) (x13) (a0) (p1) (j100_4) (j169_5) (zz8) (x65)
  )
  )
  )
noncomputable def f_X12_splits_169b (s : (dV × Int × Int × Int × Int × Int)) : Sum (dV × Int × Int × Int × Int × Int) (Sum (dV × Int × Int × Int) (dR)) := f_X12_splits_169c (s.1) (s.2.1) (s.2.2.1) (s.2.2.2.1) (s.2.2.2.2.1) (s.2.2.2.2.2)

theorem f_X12_splits_169e (V : dV) (x13 a0 p1 j100_4 j169_5 : Int) : f_X12_splits_169b (V, x13, a0, p1, j100_4, j169_5) = f_X12_splits_169c V x13 a0 p1 j100_4 j169_5 := rfl

noncomputable def f_X12_splits_165 (V : dV) (x13 a0 p1 j7_2 j100_4 zz6 s165_2 : Int) : Sum (dV × Int × Int × Int) (dR) :=
  dv_b (dv_u V a0 15 (zz6) (s165_2)) fun V165 =>
  dv_lp (f_X12_splits_169b) (V165, x13, a0, p1, j100_4, j7_2)

noncomputable def f_X12_splits_100 (V : dV) (x13 a0 p1 j7_2 j100_4 : Int) : Sum (dV × Int × Int × Int) (dR) :=
  dv_b (V a0 18 0) fun zz4 =>
  dv_b (dv_u V a0 17 (zz4) (j7_2)) fun V109 =>
  dv_b (V109 a0 18 0) fun zz5 =>
  dv_b (dv_u V109 a0 16 (zz5) (0)) fun V119 =>
  dv_b (V119 a0 18 0) fun zz6 =>
  dv_b2 (f_X12_isSmall V119 (x13)) fun x31 _ =>
  if x31 = 0 then (
  dv_b2 (f_X12_isDigit V119 (x13)) fun x66 _ =>
  if x66 = 0 then (
  dv_b (dv_and (x13) (255)) fun x67 =>
  dv_b (100 + x67) fun x68 =>
  f_X12_splits_165 (V119) (x13) (a0) (p1) (j7_2) (j100_4) (zz6) (x68)
  ) else (
  f_X12_splits_165 (V119) (x13) (a0) (p1) (j7_2) (j100_4) (zz6) (50)
  )
  ) else (
  dv_b2 (f_X12_wordOf V119 (a0) (j7_2) (j100_4)) fun x69 _ =>
  f_X12_splits_165 (V119) (x13) (a0) (p1) (j7_2) (j100_4) (zz6) (x69)
  )

noncomputable def f_X12_splits_75c (V : dV) (x13 a0 p1 j7_2 j75_4 : Int) : Sum (dV × Int × Int × Int × Int × Int) (Sum (dV × Int × Int × Int) (dR)) :=
  if p1 ≤ j75_4 then (
  Sum.inr (f_X12_splits_100 (V) (x13) (a0) (p1) (j7_2) (j75_4))
  ) else (
  dv_b (V a0 11 (j75_4)) fun x70 =>
  dv_b2 (f_X12_isDigit V (x70)) fun x71 _ =>
  if x71 = 0 then (
  Sum.inr (f_X12_splits_100 (V) (x13) (a0) (p1) (j7_2) (j75_4))
  ) else (
  dv_b (j75_4 + 1) fun x72 =>
  Sum.inl (V, x13, a0, p1, j7_2, x72)
  )
  )
noncomputable def f_X12_splits_75b (s : (dV × Int × Int × Int × Int × Int)) : Sum (dV × Int × Int × Int × Int × Int) (Sum (dV × Int × Int × Int) (dR)) := f_X12_splits_75c (s.1) (s.2.1) (s.2.2.1) (s.2.2.2.1) (s.2.2.2.2.1) (s.2.2.2.2.2)

theorem f_X12_splits_75e (V : dV) (x13 a0 p1 j7_2 j75_4 : Int) : f_X12_splits_75b (V, x13, a0, p1, j7_2, j75_4) = f_X12_splits_75c V x13 a0 p1 j7_2 j75_4 := rfl

noncomputable def f_X12_splits_68 (V : dV) (x13 a0 p1 j7_2 j68_4 : Int) : Sum (dV × Int × Int × Int) (dR) :=
  dv_b2 (f_X12_isDigit V (x13)) fun x16 _ =>
  if x16 = 0 then (
  f_X12_splits_100 (V) (x13) (a0) (p1) (j7_2) (j68_4)
  ) else (
  dv_lp (f_X12_splits_75b) (V, x13, a0, p1, j7_2, j68_4)
  )

noncomputable def f_X12_splits_43c (V : dV) (x13 a0 p1 j7_2 j43_4 : Int) : Sum (dV × Int × Int × Int × Int × Int) (Sum (dV × Int × Int × Int) (dR)) :=
  if p1 ≤ j43_4 then (
  Sum.inr (f_X12_splits_68 (V) (x13) (a0) (p1) (j7_2) (j43_4))
  ) else (
  dv_b (V a0 11 (j43_4)) fun x73 =>
  dv_b2 (f_X12_isSmall V (x73)) fun x74 _ =>
  if x74 = 0 then (
  Sum.inr (f_X12_splits_68 (V) (x13) (a0) (p1) (j7_2) (j43_4))
  ) else (
  dv_b (j43_4 + 1) fun x75 =>
  Sum.inl (V, x13, a0, p1, j7_2, x75)
  )
  )
noncomputable def f_X12_splits_43b (s : (dV × Int × Int × Int × Int × Int)) : Sum (dV × Int × Int × Int × Int × Int) (Sum (dV × Int × Int × Int) (dR)) := f_X12_splits_43c (s.1) (s.2.1) (s.2.2.1) (s.2.2.2.1) (s.2.2.2.2.1) (s.2.2.2.2.2)

theorem f_X12_splits_43e (V : dV) (x13 a0 p1 j7_2 j43_4 : Int) : f_X12_splits_43b (V, x13, a0, p1, j7_2, j43_4) = f_X12_splits_43c V x13 a0 p1 j7_2 j43_4 := rfl

noncomputable def f_X12_splits_7c (V : dV) (a0 p1 j7_2 : Int) : Sum (dV × Int × Int × Int) (dR) :=
  if p1 ≤ j7_2 then (
  dv_b (V a0 18 0) fun zz1 =>
  dv_b (dv_u V a0 17 (zz1) (p1)) fun V272 =>
  dv_b (V272 a0 18 0) fun zz2 =>
  dv_b (dv_u V272 a0 15 (zz2) (0)) fun V282 =>
  dv_b (V282 a0 18 0) fun zz3 =>
  dv_b (dv_u V282 a0 16 (zz3) (0)) fun V292 =>
  Sum.inr ((V292, 0))
  ) else (
  dv_b (V a0 11 (j7_2)) fun x13 =>
  if x13 ≠ 32 then (
  dv_b (j7_2 + 1) fun x14 =>
  dv_b2 (f_X12_isSmall V (x13)) fun x15 _ =>
  if x15 = 0 then (
  f_X12_splits_68 (V) (x13) (a0) (p1) (j7_2) (x14)
  ) else (
  dv_lp (f_X12_splits_43b) (V, x13, a0, p1, j7_2, x14)
  )
  ) else (
  dv_b (j7_2 + 1) fun x76 =>
  Sum.inl (V, a0, p1, x76)
  )
  )
noncomputable def f_X12_splits_7b (s : (dV × Int × Int × Int)) : Sum (dV × Int × Int × Int) (dR) := f_X12_splits_7c (s.1) (s.2.1) (s.2.2.1) (s.2.2.2)

theorem f_X12_splits_7e (V : dV) (a0 p1 j7_2 : Int) : f_X12_splits_7b (V, a0, p1, j7_2) = f_X12_splits_7c V a0 p1 j7_2 := rfl

noncomputable def f_X12_splits (V : dV) (a0 p1 : Int) : dR :=
  dv_b (dv_u V a0 18 0 (0)) fun V2 =>
  dv_lp (f_X12_splits_7b) (V2, a0, p1, 0)

noncomputable def f_X12_reads_34c (V : dV) (a0 j34_1 : Int) : Sum (dV × Int × Int) (dR) :=
  dv_b2 (f_X12_sign V (59)) fun x6 _ =>
  dv_b2 (f_X12_takes0 V (a0) (x6)) fun V40 x7 =>
  if x7 = 0 then (
  dv_b2 (f_X12_fine V40 (a0)) fun x8 _ =>
  if x8 = 0 then (
  dv_b (V40 a0 21 0) fun zz2 =>
  dv_b (dv_u V40 a0 14 0 (zz2)) fun V100 =>
  dv_b2 (f_X12_fine V100 (a0)) fun x11 _ =>
  Sum.inr ((V100, x11))
  ) else (
  dv_b (V40 a0 19 0) fun zz3 =>
  dv_b (V40 a0 18 0) fun zz4 =>
  if zz4 ≤ zz3 then (
  dv_b (V40 a0 21 0) fun zz5 =>
  dv_b (dv_u V40 a0 14 0 (zz5)) fun V100 =>
  dv_b2 (f_X12_fine V100 (a0)) fun x18 _ =>
  Sum.inr ((V100, x18))
  ) else (
  dv_b2 (f_X12_faults V40 (a0)) fun V92 _ =>
  dv_b (V92 a0 21 0) fun zz6 =>
  dv_b (dv_u V92 a0 14 0 (zz6)) fun V100 =>
  dv_b2 (f_X12_fine V100 (a0)) fun x21 _ =>
  Sum.inr ((V100, x21))
  )
  )
  ) else (
  if j34_1 ≠ 12 then (
  dv_b2 (f_X12_fine V40 (a0)) fun x22 _ =>
  if x22 = 0 then (
  dv_b (dv_add (j34_1) (1)) fun x23 =>
  Sum.inl (V40, a0, x23)
  ) else (
  dv_b2 (f_X12_readOne V40 (a0)) fun V64 _ =>
  dv_b (dv_add (j34_1) (1)) fun x24 =>
  Sum.inl (V64, a0, x24)
  )
  ) else (
  dv_b2 (f_X12_faults V40 (a0)) fun V53 _ =>
  dv_b2 (f_X12_fine V53 (a0)) fun x25 _ =>
  if x25 = 0 then (
  dv_b (j34_1 + 1) fun x26 =>
  Sum.inl (V53, a0, x26)
  ) else (
  dv_b2 (f_X12_readOne V53 (a0)) fun V64 _ =>
  dv_b (j34_1 + 1) fun x27 =>
  Sum.inl (V64, a0, x27)
  )
  )
  )
noncomputable def f_X12_reads_34b (s : (dV × Int × Int)) : Sum (dV × Int × Int) (dR) := f_X12_reads_34c (s.1) (s.2.1) (s.2.2)

theorem f_X12_reads_34e (V : dV) (a0 j34_1 : Int) : f_X12_reads_34b (V, a0, j34_1) = f_X12_reads_34c V a0 j34_1 := rfl

noncomputable def f_X12_reads (V : dV) (a0 : Int) : dR :=
  dv_b (V a0 13 0) fun zz1 =>
  dv_b2 (f_X12_splits V (a0) (zz1)) fun V5 _ =>
  dv_b (dv_u V5 a0 13 0 (0)) fun V10 =>
  dv_b (dv_u V10 a0 19 0 (0)) fun V15 =>
  dv_b (dv_u V15 a0 20 0 (0)) fun V20 =>
  dv_b (dv_u V20 a0 21 0 ((-1))) fun V25 =>
  dv_b2 (f_X12_readOne V25 (a0)) fun V29 _ =>
  dv_lp (f_X12_reads_34b) (V29, a0, 1)


noncomputable def f_X12_good (V : dV) (a0 p1 : Int) : dR :=
  dv_b (dv_u V a0 0 0 (0)) fun V2 =>
  (V2, p1)

noncomputable def f_X12_refuses (V : dV) (a0 p1 : Int) : dR :=
  dv_b (dv_u V a0 0 0 (p1)) fun V2 =>
  dv_b (dv_neg (p1)) fun x2 =>
  dv_b (V2 a0 1 (x2)) fun x3 =>
  dv_b (dv_add (x3) (1)) fun x4 =>
  dv_b (dv_u V2 a0 1 (x2) (x4)) fun V15 =>
  (V15, p1)

noncomputable def f_X12_goodOr (V : dV) (a0 p1 : Int) : dR :=
  if 0 ≤ p1 then (
  dv_b2 (f_X12_good V (a0) (p1)) fun V14 x1 =>
  (V14, x1)
  ) else (
  dv_b2 (f_X12_refuses V (a0) (p1)) fun V6 x2 =>
  (V6, x2)
  )

noncomputable def f_X12_settled (V : dV) (a0 p1 : Int) : dR :=
  dv_b (dv_u V a0 33 0 (0)) fun V2 =>
  dv_b2 (f_X12_good V2 (a0) (p1)) fun V7 x1 =>
  (V7, x1)

noncomputable def f_X12_small (V : dV) (p1 : Int) : dP :=
  dv_b (dv_lcmp (p1) (0)) fun x1 =>
  if x1 < 0 then (
  ((-1), ())
  ) else (
  dv_b (dv_lcmp (p1) (1000000)) fun x2 =>
  if x2 ≤ 0 then (
  dv_b (dv_l2i (p1)) fun x3 =>
  (x3, ())
  ) else (
  ((-1), ())
  )
  )

noncomputable def f_X12_end (V : dV) (a0 p1 : Int) : dR :=
  dv_b (V a0 13 0) fun zz1 =>
  dv_b2 (f_X12_lies V (p1) (0) (zz1)) fun x2 _ =>
  if x2 ≠ 0 then (
  dv_b (dv_u V a0 13 0 (p1)) fun V16 =>
  (V16, p1)
  ) else (
  (V, (-1))
  )

noncomputable def f_X12_feed_55c (V : dV) (a0 j55_6 : Int) : Sum (dV × Int × Int) (dR) :=
  if 20 ≤ j55_6 then (
  dv_b (V a0 13 0) fun zz2 =>
  dv_b (zz2 + 20) fun x17 =>
  dv_b (dv_u V a0 13 0 (x17)) fun V109 =>
  dv_b (V109 a0 13 0) fun zz3 =>
  Sum.inr ((V109, zz3))
  ) else (
  dv_b (V a0 13 0) fun zz4 =>
  dv_b (zz4 + j55_6) fun x23 =>
  dv_b (j55_6 / 4) fun x24 =>
  dv_b (V a0 12 (x24)) fun x25 =>
  dv_b (j55_6 % 4) fun x26 =>
  dv_b (8 * x26) fun x27 =>
  dv_b (24 - x27) fun x28 =>
  dv_b (dv_shr (x25) (x28)) fun x29 =>
  dv_b (dv_i2b (x29)) fun x30 =>
  dv_b (dv_u V a0 11 (x23) (dv_i2b (x30))) fun V94 =>
  dv_b (j55_6 + 1) fun x34 =>
  Sum.inl (V94, a0, x34)
  )
noncomputable def f_X12_feed_55b (s : (dV × Int × Int)) : Sum (dV × Int × Int) (dR) := f_X12_feed_55c (s.1) (s.2.1) (s.2.2)

theorem f_X12_feed_55e (V : dV) (a0 j55_6 : Int) : f_X12_feed_55b (V, a0, j55_6) = f_X12_feed_55c V a0 j55_6 := rfl

noncomputable def f_X12_feed (V : dV) (a0 p1 p2 p3 p4 p5 : Int) : dR :=
  dv_b (V a0 13 0) fun zz1 =>
  dv_b (zz1 + 20) fun x3 =>
  if x3 ≤ 400 then (
  dv_b (dv_u V a0 12 (0) (p1)) fun V21 =>
  dv_b (dv_u V21 a0 12 (1) (p2)) fun V28 =>
  dv_b (dv_u V28 a0 12 (2) (p3)) fun V35 =>
  dv_b (dv_u V35 a0 12 (3) (p4)) fun V43 =>
  dv_b (dv_u V43 a0 12 (4) (p5)) fun V51 =>
  dv_lp (f_X12_feed_55b) (V51, a0, 0)
  ) else (
  (V, (-1))
  )

noncomputable def f_X12_draws (V : dV) (a0 p1 : Int) : dR :=
  dv_b (V a0 56 0) fun zz1 =>
  dv_b (zz1) fun y2 =>
  dv_b (dv_lmul (1103) (y2)) fun y3 =>
  dv_b (dv_ladd (y3) (12345)) fun y4 =>
  dv_b (dv_lrem (y4) (1000003)) fun y5 =>
  dv_b (dv_l2i (y5)) fun x6 =>
  dv_b (dv_u V a0 56 0 (x6)) fun V19 =>
  dv_b (V19 a0 56 0) fun zz2 =>
  dv_b (zz2 % p1) fun x8 =>
  (V19, x8)

noncomputable def f_X12_turnsSquare_3c (V : dV) (a0 p1 p2 p3 j3_4 : Int) : Sum (dV × Int × Int × Int × Int × Int) (dR) :=
  dv_b (p3 + p1) fun x1 =>
  if x1 ≤ j3_4 then (
  Sum.inr ((V, 0))
  ) else (
  dv_b (V a0 29 (j3_4)) fun x3 =>
  dv_b (dv_shl (1) (p1)) fun x4 =>
  dv_b (dv_sub (x4) (1)) fun x5 =>
  dv_b (dv_shl (x5) (p2)) fun x6 =>
  dv_b (dv_xor (x3) (x6)) fun x7 =>
  dv_b (dv_u V a0 29 (j3_4) (x7)) fun V27 =>
  dv_b (j3_4 + 1) fun x9 =>
  Sum.inl (V27, a0, p1, p2, p3, x9)
  )
noncomputable def f_X12_turnsSquare_3b (s : (dV × Int × Int × Int × Int × Int)) : Sum (dV × Int × Int × Int × Int × Int) (dR) := f_X12_turnsSquare_3c (s.1) (s.2.1) (s.2.2.1) (s.2.2.2.1) (s.2.2.2.2.1) (s.2.2.2.2.2)

theorem f_X12_turnsSquare_3e (V : dV) (a0 p1 p2 p3 j3_4 : Int) : f_X12_turnsSquare_3b (V, a0, p1, p2, p3, j3_4) = f_X12_turnsSquare_3c V a0 p1 p2 p3 j3_4 := rfl

noncomputable def f_X12_turnsSquare (V : dV) (a0 p1 p2 p3 : Int) : dR :=
  dv_lp (f_X12_turnsSquare_3b) (V, a0, p1, p2, p3, p3)

noncomputable def f_X12_laysCovered_23c (V : dV) (a0 j23_1 : Int) : Sum (dV × Int × Int) (Sum (dV × Int × Int) (dR)) :=
  dv_b2 (f_X12_many V (a0)) fun x1 _ =>
  if x1 ≤ j23_1 then (
  Sum.inr (Sum.inr ((V, 0)))
  ) else (
  dv_b2 (f_X12_isLaid V (a0) (j23_1)) fun x2 _ =>
  if x2 = 0 then (
  dv_b (j23_1 + 1) fun x3 =>
  Sum.inl (V, a0, x3)
  ) else (
  dv_b (29 + j23_1) fun x5 =>
  dv_b (V a0 2 (x5)) fun x6 =>
  dv_b (9 + j23_1) fun x7 =>
  dv_b (V a0 2 (x7)) fun x8 =>
  dv_b (18 + j23_1) fun x9 =>
  dv_b (V a0 2 (x9)) fun x10 =>
  dv_b2 (f_X12_turnsSquare V (a0) (x6) (x8) (x10)) fun V67 _ =>
  dv_b (j23_1 + 1) fun x12 =>
  Sum.inl (V67, a0, x12)
  )
  )
noncomputable def f_X12_laysCovered_23b (s : (dV × Int × Int)) : Sum (dV × Int × Int) (Sum (dV × Int × Int) (dR)) := f_X12_laysCovered_23c (s.1) (s.2.1) (s.2.2)

theorem f_X12_laysCovered_23e (V : dV) (a0 j23_1 : Int) : f_X12_laysCovered_23b (V, a0, j23_1) = f_X12_laysCovered_23c V a0 j23_1 := rfl

noncomputable def f_X12_laysCovered_2c (V : dV) (a0 j2_1 : Int) : Sum (dV × Int × Int) (dR) :=
  if 12 ≤ j2_1 then (
  dv_lp (f_X12_laysCovered_23b) (V, a0, 0)
  ) else (
  dv_b (dv_u V a0 29 (j2_1) (0)) fun V14 =>
  dv_b (j2_1 + 1) fun x15 =>
  Sum.inl (V14, a0, x15)
  )
noncomputable def f_X12_laysCovered_2b (s : (dV × Int × Int)) : Sum (dV × Int × Int) (dR) := f_X12_laysCovered_2c (s.1) (s.2.1) (s.2.2)

theorem f_X12_laysCovered_2e (V : dV) (a0 j2_1 : Int) : f_X12_laysCovered_2b (V, a0, j2_1) = f_X12_laysCovered_2c V a0 j2_1 := rfl

noncomputable def f_X12_laysCovered (V : dV) (a0 : Int) : dR :=
  dv_lp (f_X12_laysCovered_2b) (V, a0, 0)

noncomputable def f_X12_canLay (V : dV) (a0 p1 p2 p3 : Int) : dR :=
  dv_b2 (f_X12_isLaid V (a0) (p1)) fun x1 _ =>
  if x1 ≠ 0 then (
  (V, 0)
  ) else (
  dv_b2 (f_X12_isWhole V (a0) (p1)) fun x2 _ =>
  if x2 ≠ 0 then (
  dv_b2 (f_X12_laysCovered V (a0)) fun V19 _ =>
  dv_b (29 + p1) fun x4 =>
  dv_b (V19 a0 2 (x4)) fun x5 =>
  dv_b (V19 a0 2 (67)) fun x6 =>
  dv_b (V19 a0 2 (68)) fun x7 =>
  dv_b2 (f_X12_isFree V19 (a0) (x5) (p2) (p3) (x6) (x7)) fun x8 _ =>
  if x8 = 0 then (
  (V19, 0)
  ) else (
  dv_b2 (f_X12_isBarred V19 (a0) (p1) (p2) (p3)) fun V58 x9 =>
  if x9 ≠ 0 then (
  (V58, 0)
  ) else (
  (V58, 1)
  )
  )
  ) else (
  (V, 0)
  )
  )

noncomputable def f_X12_rolls (V : dV) (a0 p1 : Int) : dR :=
  dv_b (9 + p1) fun x2 =>
  dv_b (dv_u V a0 2 (x2) ((-1))) fun V9 =>
  dv_b (18 + p1) fun x4 =>
  dv_b (dv_u V9 a0 2 (x4) ((-1))) fun V19 =>
  (V19, 0)

noncomputable def f_X12_laysAt (V : dV) (a0 p1 p2 p3 : Int) : dR :=
  dv_b2 (f_X12_costsAt V (a0) (p1) (p2) (p3)) fun V4 x1 =>
  dv_b (9 + p1) fun x3 =>
  dv_b (dv_u V4 a0 2 (x3) (p2)) fun V18 =>
  dv_b (18 + p1) fun x5 =>
  dv_b (dv_u V18 a0 2 (x5) (p3)) fun V28 =>
  dv_b (V28 a0 2 (27)) fun x7 =>
  dv_b (dv_add (x7) (x1)) fun x8 =>
  dv_b2 (f_X12_lesser V28 (9999) (x8)) fun x9 _ =>
  dv_b (dv_u V28 a0 2 (27) (x9)) fun V51 =>
  (V51, x1)

noncomputable def f_X12_yearPasses_43c (V : dV) (a0 j43_1 j43_2 : Int) : Sum (dV × Int × Int × Int) (Sum (dV × Int × Int) (dR)) :=
  dv_b2 (f_X12_many V (a0)) fun x2 _ =>
  if x2 ≤ j43_2 then (
  dv_b (V a0 2 (28)) fun x4 =>
  dv_b (dv_add (x4) (1)) fun x5 =>
  dv_b (dv_u V a0 2 (28) (x5)) fun V124 =>
  Sum.inr (Sum.inr ((V124, j43_1)))
  ) else (
  dv_b2 (f_X12_isLaid V (a0) (j43_2)) fun x6 _ =>
  if x6 ≠ 0 then (
  dv_b (0 + j43_2) fun x8 =>
  dv_b (0 + j43_2) fun x9 =>
  dv_b (V a0 2 (x9)) fun x10 =>
  dv_b (V a0 30 (j43_2)) fun x12 =>
  dv_b (dv_sub (x10) (x12)) fun x13 =>
  dv_b2 (f_X12_greater V (0) (x13)) fun x14 _ =>
  dv_b (dv_u V a0 2 (x8) (x14)) fun V88 =>
  dv_b2 (f_X12_isWhole V88 (a0) (j43_2)) fun x17 _ =>
  if x17 = 0 then (
  dv_b2 (f_X12_rolls V88 (a0) (j43_2)) fun V102 _ =>
  dv_b (j43_1 + 1) fun x20 =>
  dv_b (j43_2 + 1) fun x21 =>
  Sum.inl (V102, a0, x20, x21)
  ) else (
  dv_b (j43_2 + 1) fun x22 =>
  Sum.inl (V88, a0, j43_1, x22)
  )
  ) else (
  dv_b (j43_2 + 1) fun x23 =>
  Sum.inl (V, a0, j43_1, x23)
  )
  )
noncomputable def f_X12_yearPasses_43b (s : (dV × Int × Int × Int)) : Sum (dV × Int × Int × Int) (Sum (dV × Int × Int) (dR)) := f_X12_yearPasses_43c (s.1) (s.2.1) (s.2.2.1) (s.2.2.2)

theorem f_X12_yearPasses_43e (V : dV) (a0 j43_1 j43_2 : Int) : f_X12_yearPasses_43b (V, a0, j43_1, j43_2) = f_X12_yearPasses_43c V a0 j43_1 j43_2 := rfl

noncomputable def f_X12_yearPasses_4c (V : dV) (a0 j4_2 : Int) : Sum (dV × Int × Int) (dR) :=
  dv_b2 (f_X12_many V (a0)) fun x1 _ =>
  if x1 ≤ j4_2 then (
  dv_lp (f_X12_yearPasses_43b) (V, a0, 0, 0)
  ) else (
  dv_b2 (f_X12_isLaid V (a0) (j4_2)) fun x25 _ =>
  if x25 = 0 then (
  dv_b (dv_u V a0 30 (j4_2) (0)) fun V34 =>
  dv_b (j4_2 + 1) fun x27 =>
  Sum.inl (V34, a0, x27)
  ) else (
  dv_b2 (f_X12_wearsNow V (a0) (j4_2)) fun V27 x28 =>
  dv_b (dv_u V27 a0 30 (j4_2) (x28)) fun V34 =>
  dv_b (j4_2 + 1) fun x31 =>
  Sum.inl (V34, a0, x31)
  )
  )
noncomputable def f_X12_yearPasses_4b (s : (dV × Int × Int)) : Sum (dV × Int × Int) (dR) := f_X12_yearPasses_4c (s.1) (s.2.1) (s.2.2)

theorem f_X12_yearPasses_4e (V : dV) (a0 j4_2 : Int) : f_X12_yearPasses_4b (V, a0, j4_2) = f_X12_yearPasses_4c V a0 j4_2 := rfl

noncomputable def f_X12_yearPasses (V : dV) (a0 : Int) : dR :=
  dv_lp (f_X12_yearPasses_4b) (V, a0, 0)

noncomputable def f_X12_adds (V : dV) (a0 p1 p2 p3 : Int) : dR :=
  dv_b2 (f_X12_many V (a0)) fun x1 _ =>
  dv_b (29 + x1) fun x3 =>
  dv_b (dv_u V a0 2 (x3) (p1)) fun V16 =>
  dv_b (38 + x1) fun x5 =>
  dv_b (dv_u V16 a0 2 (x5) (p2)) fun V27 =>
  dv_b (0 + x1) fun x7 =>
  dv_b (dv_u V27 a0 2 (x7) (p3)) fun V37 =>
  dv_b2 (f_X12_rolls V37 (a0) (x1)) fun V41 _ =>
  dv_b (V41 a0 2 (69)) fun x10 =>
  dv_b (x10 + 1) fun x11 =>
  dv_b (dv_u V41 a0 2 (69) (x11)) fun V54 =>
  (V54, 0)

noncomputable def f_X12_hall_14 (V : dV) (a0 : Int) : dR :=
  dv_b2 (f_X12_refuses V (a0) ((-1))) fun V16 x2 =>
  (V16, x2)

noncomputable def f_X12_hall (V : dV) (a0 p1 p2 : Int) : dR :=
  dv_b2 (f_X12_isSide V (p1)) fun x1 _ =>
  if x1 = 0 then (
  f_X12_hall_14 (V) (a0)
  ) else (
  dv_b2 (f_X12_isSide V (p2)) fun x3 _ =>
  if x3 ≠ 0 then (
  dv_b2 (f_X12_laidMany V (a0)) fun x4 _ =>
  if x4 ≤ 0 then (
  dv_b (dv_u V a0 2 (67) (p1)) fun V41 =>
  dv_b (dv_u V41 a0 2 (68) (p2)) fun V49 =>
  dv_b (p1 * p2) fun x8 =>
  dv_b2 (f_X12_settled V49 (a0) (x8)) fun V54 x10 =>
  (V54, x10)
  ) else (
  dv_b2 (f_X12_refuses V (a0) ((-3))) fun V30 x12 =>
  (V30, x12)
  )
  ) else (
  f_X12_hall_14 (V) (a0)
  )
  )

noncomputable def f_X12_carpet (V : dV) (a0 p1 p2 p3 : Int) : dR :=
  dv_b2 (f_X12_canBe V (p1) (p2) (p3)) fun x1 _ =>
  if x1 ≠ 0 then (
  dv_b2 (f_X12_many V (a0)) fun x2 _ =>
  if x2 ≠ 9 then (
  dv_b2 (f_X12_adds V (a0) (p1) (p2) (p3)) fun V35 _ =>
  dv_b2 (f_X12_many V35 (a0)) fun x3 _ =>
  dv_b (x3 - 1) fun x4 =>
  dv_b2 (f_X12_settled V35 (a0) (x4)) fun V45 x5 =>
  (V45, x5)
  ) else (
  dv_b2 (f_X12_refuses V (a0) ((-5))) fun V27 x6 =>
  (V27, x6)
  )
  ) else (
  dv_b2 (f_X12_refuses V (a0) ((-1))) fun V11 x7 =>
  (V11, x7)
  )

noncomputable def f_X12_terms (V : dV) (a0 p1 p2 : Int) : dR :=
  dv_b2 (f_X12_isTerm V (p1) (p2)) fun x1 _ =>
  if x1 ≠ 0 then (
  dv_b2 (f_X12_termAt V (p1)) fun x3 _ =>
  dv_b (V a0 2 (x3)) fun x4 =>
  dv_b2 (f_X12_termAt V (p1)) fun x5 _ =>
  dv_b (dv_u V a0 2 (x5) (p2)) fun V33 =>
  dv_b2 (f_X12_settled V33 (a0) (x4)) fun V36 x7 =>
  (V36, x7)
  ) else (
  dv_b2 (f_X12_refuses V (a0) ((-1))) fun V10 x9 =>
  (V10, x9)
  )

noncomputable def f_X12_row_122 (V : dV) (zz1 a0 j40_2 j40_3 : Int) : Sum (dV × Int × Int × Int × Int) (dR) :=
  dv_b (j40_2 + 0) fun x7 =>
  dv_b (V a0 6 0) fun zz2 =>
  dv_b (dv_add (zz2) (1)) fun x9 =>
  dv_b (dv_u V a0 6 0 (x9)) fun V151 =>
  dv_b (j40_3 + 3) fun x11 =>
  Sum.inl (V151, zz1, a0, x7, x11)

noncomputable def f_X12_row_122x2 (V : dV) (zz1 a0 j40_2 j40_3 : Int) : Sum (dV × Int × Int × Int × Int) (dR) :=
  dv_b (j40_2 + 0) fun x20 =>
  dv_b (V a0 6 0) fun zz3 =>
  dv_b (dv_add (zz3) (1)) fun x22 =>
  dv_b (dv_u V a0 6 0 (x22)) fun V151 =>
  dv_b (j40_3 + 3) fun x25 =>
  Sum.inl (V151, zz1, a0, x20, x25)

noncomputable def f_X12_row_122x3 (V : dV) (zz1 a0 j40_2 j40_3 : Int) : Sum (dV × Int × Int × Int × Int) (dR) :=
  dv_b (dv_add (j40_2) (1)) fun x27 =>
  dv_b (V a0 6 0) fun zz4 =>
  dv_b (zz4 + 0) fun x29 =>
  dv_b (dv_u V a0 6 0 (x29)) fun V151 =>
  dv_b (j40_3 + 3) fun x32 =>
  Sum.inl (V151, zz1, a0, x27, x32)

noncomputable def f_X12_row_40c (V : dV) (zz1 a0 j40_2 j40_3 : Int) : Sum (dV × Int × Int × Int × Int) (dR) :=
  dv_b (j40_3 + 3) fun x4 =>
  if zz1 < x4 then (
  dv_b2 (f_X12_settled V (a0) (j40_2)) fun V162 x5 =>
  Sum.inr ((V162, x5))
  ) else (
  dv_b2 (f_X12_many V (a0)) fun x6 _ =>
  if 9 ≤ x6 then (
  f_X12_row_122 (V) (zz1) (a0) (j40_2) (j40_3)
  ) else (
  dv_b (V a0 11 (j40_3)) fun x13 =>
  dv_b (j40_3 + 1) fun x14 =>
  dv_b (V a0 11 (x14)) fun x15 =>
  dv_b (j40_3 + 2) fun x16 =>
  dv_b (V a0 11 (x16)) fun x17 =>
  dv_b2 (f_X12_canBe V (x13) (x15) (x17)) fun x18 _ =>
  if x18 = 0 then (
  f_X12_row_122x2 (V) (zz1) (a0) (j40_2) (j40_3)
  ) else (
  dv_b (V a0 11 (j40_3)) fun x33 =>
  dv_b (j40_3 + 1) fun x34 =>
  dv_b (V a0 11 (x34)) fun x35 =>
  dv_b (j40_3 + 2) fun x36 =>
  dv_b (V a0 11 (x36)) fun x37 =>
  dv_b2 (f_X12_adds V (a0) (x33) (x35) (x37)) fun V119 _ =>
  f_X12_row_122x3 (V119) (zz1) (a0) (j40_2) (j40_3)
  )
  )
  )
noncomputable def f_X12_row_40b (s : (dV × Int × Int × Int × Int)) : Sum (dV × Int × Int × Int × Int) (dR) := f_X12_row_40c (s.1) (s.2.1) (s.2.2.1) (s.2.2.2.1) (s.2.2.2.2)

theorem f_X12_row_40e (V : dV) (zz1 a0 j40_2 j40_3 : Int) : f_X12_row_40b (V, zz1, a0, j40_2, j40_3) = f_X12_row_40c V zz1 a0 j40_2 j40_3 := rfl

noncomputable def f_X12_row_35 (V : dV) (zz1 a0 s35_1 : Int) : dR :=
  dv_b (dv_u V a0 6 0 (s35_1)) fun V35 =>
  dv_lp (f_X12_row_40b) (V35, zz1, a0, 0, 0)

noncomputable def f_X12_row (V : dV) (a0 : Int) : dR :=
  dv_b (V a0 13 0) fun zz1 =>
  dv_b (dv_u V a0 13 0 (0)) fun V7 =>
  if zz1 ≠ 0 then (
  dv_b (zz1 % 3) fun x2 =>
  if x2 ≠ 0 then (
  f_X12_row_35 (V7) (zz1) (a0) (1)
  ) else (
  f_X12_row_35 (V7) (zz1) (a0) (0)
  )
  ) else (
  dv_b2 (f_X12_refuses V7 (a0) ((-6))) fun V17 x39 =>
  (V17, x39)
  )

noncomputable def f_X12_image_17c (V : dV) (a0 p1 j17_2 : Int) : Sum (dV × Int × Int × Int) (dR) :=
  if 5680 ≤ j17_2 then (
  dv_b (dv_u V a0 4 (p1) (1)) fun V54 =>
  dv_b2 (f_X12_good V54 (a0) (0)) fun V57 x4 =>
  Sum.inr ((V57, x4))
  ) else (
  dv_b (5680 * p1) fun x6 =>
  dv_b (x6 + j17_2) fun x7 =>
  dv_b (V a0 2 (j17_2)) fun x9 =>
  dv_b (dv_u V a0 3 (x7) (x9)) fun V41 =>
  dv_b (j17_2 + 1) fun x12 =>
  Sum.inl (V41, a0, p1, x12)
  )
noncomputable def f_X12_image_17b (s : (dV × Int × Int × Int)) : Sum (dV × Int × Int × Int) (dR) := f_X12_image_17c (s.1) (s.2.1) (s.2.2.1) (s.2.2.2)

theorem f_X12_image_17e (V : dV) (a0 p1 j17_2 : Int) : f_X12_image_17b (V, a0, p1, j17_2) = f_X12_image_17c V a0 p1 j17_2 := rfl

noncomputable def f_X12_image (V : dV) (a0 p1 : Int) : dR :=
  dv_b2 (f_X12_lies V (p1) (0) (1)) fun x1 _ =>
  if x1 ≠ 0 then (
  dv_lp (f_X12_image_17b) (V, a0, p1, 0)
  ) else (
  dv_b2 (f_X12_refuses V (a0) ((-1))) fun V11 x13 =>
  (V11, x13)
  )

noncomputable def f_X12_back_33c (V : dV) (a0 p1 j33_2 : Int) : Sum (dV × Int × Int × Int) (dR) :=
  if 5680 ≤ j33_2 then (
  dv_b2 (f_X12_settled V (a0) (0)) fun V66 x4 =>
  Sum.inr ((V66, x4))
  ) else (
  dv_b (5680 * p1) fun x7 =>
  dv_b (x7 + j33_2) fun x8 =>
  dv_b (V a0 3 (x8)) fun x9 =>
  dv_b (dv_u V a0 2 (j33_2) (x9)) fun V57 =>
  dv_b (j33_2 + 1) fun x12 =>
  Sum.inl (V57, a0, p1, x12)
  )
noncomputable def f_X12_back_33b (s : (dV × Int × Int × Int)) : Sum (dV × Int × Int × Int) (dR) := f_X12_back_33c (s.1) (s.2.1) (s.2.2.1) (s.2.2.2)

theorem f_X12_back_33e (V : dV) (a0 p1 j33_2 : Int) : f_X12_back_33b (V, a0, p1, j33_2) = f_X12_back_33c V a0 p1 j33_2 := rfl

noncomputable def f_X12_back (V : dV) (a0 p1 : Int) : dR :=
  dv_b2 (f_X12_lies V (p1) (0) (1)) fun x1 _ =>
  if x1 ≠ 0 then (
  dv_b (V a0 4 (p1)) fun x3 =>
  if x3 ≠ 0 then (
  dv_lp (f_X12_back_33b) (V, a0, p1, 0)
  ) else (
  dv_b2 (f_X12_refuses V (a0) ((-2))) fun V27 x13 =>
  (V27, x13)
  )
  ) else (
  dv_b2 (f_X12_refuses V (a0) ((-1))) fun V11 x14 =>
  (V11, x14)
  )

noncomputable def f_X12_force (V : dV) (a0 p1 : Int) : dR :=
  dv_b2 (f_X12_isLaw V (a0) (p1)) fun x1 _ =>
  if x1 ≠ 0 then (
  dv_b (V a0 2 (72)) fun x3 =>
  dv_b (dv_u V a0 2 (72) (p1)) fun V30 =>
  dv_b2 (f_X12_good V30 (a0) (x3)) fun V33 x5 =>
  (V33, x5)
  ) else (
  dv_b2 (f_X12_refuses V (a0) ((-2))) fun V11 x7 =>
  (V11, x7)
  )

noncomputable def f_X12_seen_21 (V : dV) (a0 : Int) : dR :=
  dv_b2 (f_X12_refuses V (a0) ((-1))) fun V23 x2 =>
  (V23, x2)

noncomputable def f_X12_seen (V : dV) (a0 p1 p2 p3 : Int) : dR :=
  dv_b2 (f_X12_isAlong V (p1)) fun x1 _ =>
  if x1 = 0 then (
  f_X12_seen_21 (V) (a0)
  ) else (
  dv_b2 (f_X12_isAlong V (p2)) fun x3 _ =>
  if x3 = 0 then (
  f_X12_seen_21 (V) (a0)
  ) else (
  dv_b2 (f_X12_isSide V (p3)) fun x4 _ =>
  if x4 ≠ 0 then (
  dv_b (V a0 2 (70)) fun x6 =>
  dv_b (3 * x6) fun x7 =>
  dv_b (47 + x7) fun x8 =>
  dv_b (V a0 2 (70)) fun x9 =>
  if x9 ≠ 6 then (
  dv_b (dv_u V a0 2 (x8) (p1)) fun V67 =>
  dv_b (x8 + 1) fun x11 =>
  dv_b (dv_u V67 a0 2 (x11) (p2)) fun V77 =>
  dv_b (x8 + 2) fun x13 =>
  dv_b (dv_u V77 a0 2 (x13) (p3)) fun V87 =>
  dv_b (V87 a0 2 (70)) fun x15 =>
  dv_b (x15 + 1) fun x16 =>
  dv_b (dv_u V87 a0 2 (70) (x16)) fun V98 =>
  dv_b (V98 a0 2 (70)) fun x18 =>
  dv_b2 (f_X12_good V98 (a0) (x18)) fun V107 x19 =>
  (V107, x19)
  ) else (
  dv_b2 (f_X12_refuses V (a0) ((-5))) fun V56 x21 =>
  (V56, x21)
  )
  ) else (
  f_X12_seen_21 (V) (a0)
  )
  )
  )

noncomputable def f_X12_forget (V : dV) (a0 : Int) : dR :=
  dv_b (V a0 2 (70)) fun x2 =>
  dv_b (dv_u V a0 2 (70) (0)) fun V15 =>
  (V15, x2)

noncomputable def f_X12_laysAside_2c (V : dV) (a0 p1 j2_2 : Int) : Sum (dV × Int × Int × Int) (dR) :=
  if 29 ≤ j2_2 then (
  Sum.inr ((V, 0))
  ) else (
  dv_b (29 * p1) fun x2 =>
  dv_b (x2 + j2_2) fun x3 =>
  dv_b (V a0 2 (j2_2)) fun x5 =>
  dv_b (dv_u V a0 5 (x3) (x5)) fun V24 =>
  dv_b (j2_2 + 1) fun x8 =>
  Sum.inl (V24, a0, p1, x8)
  )
noncomputable def f_X12_laysAside_2b (s : (dV × Int × Int × Int)) : Sum (dV × Int × Int × Int) (dR) := f_X12_laysAside_2c (s.1) (s.2.1) (s.2.2.1) (s.2.2.2)

theorem f_X12_laysAside_2e (V : dV) (a0 p1 j2_2 : Int) : f_X12_laysAside_2b (V, a0, p1, j2_2) = f_X12_laysAside_2c V a0 p1 j2_2 := rfl

noncomputable def f_X12_laysAside (V : dV) (a0 p1 : Int) : dR :=
  dv_lp (f_X12_laysAside_2b) (V, a0, p1, 0)

noncomputable def f_X12_takesBack_2c (V : dV) (a0 p1 j2_2 : Int) : Sum (dV × Int × Int × Int) (dR) :=
  if 29 ≤ j2_2 then (
  Sum.inr ((V, 0))
  ) else (
  dv_b (29 * p1) fun x3 =>
  dv_b (x3 + j2_2) fun x4 =>
  dv_b (V a0 5 (x4)) fun x5 =>
  dv_b (dv_u V a0 2 (j2_2) (x5)) fun V24 =>
  dv_b (j2_2 + 1) fun x8 =>
  Sum.inl (V24, a0, p1, x8)
  )
noncomputable def f_X12_takesBack_2b (s : (dV × Int × Int × Int)) : Sum (dV × Int × Int × Int) (dR) := f_X12_takesBack_2c (s.1) (s.2.1) (s.2.2.1) (s.2.2.2)

theorem f_X12_takesBack_2e (V : dV) (a0 p1 j2_2 : Int) : f_X12_takesBack_2b (V, a0, p1, j2_2) = f_X12_takesBack_2c V a0 p1 j2_2 := rfl

noncomputable def f_X12_takesBack (V : dV) (a0 p1 : Int) : dR :=
  dv_lp (f_X12_takesBack_2b) (V, a0, p1, 0)

noncomputable def f_X12_keeps_54c (V : dV) (a0 p1 j54_3 : Int) : Sum (dV × Int × Int × Int) (dR) :=
  if 29 ≤ j54_3 then (
  dv_b (V a0 33 0) fun zz2 =>
  dv_b (30 * zz2) fun x6 =>
  dv_b (x6 + 29) fun x7 =>
  dv_b (dv_u V a0 31 (x7) (p1)) fun V99 =>
  dv_b (V99 a0 33 0) fun zz3 =>
  dv_b (zz3 + 1) fun x10 =>
  dv_b (dv_u V99 a0 33 0 (x10)) fun V107 =>
  Sum.inr ((V107, 0))
  ) else (
  dv_b (V a0 33 0) fun zz4 =>
  dv_b (30 * zz4) fun x14 =>
  dv_b (x14 + j54_3) fun x15 =>
  dv_b (V a0 2 (j54_3)) fun x17 =>
  dv_b (dv_u V a0 31 (x15) (x17)) fun V78 =>
  dv_b (j54_3 + 1) fun x21 =>
  Sum.inl (V78, a0, p1, x21)
  )
noncomputable def f_X12_keeps_54b (s : (dV × Int × Int × Int)) : Sum (dV × Int × Int × Int) (dR) := f_X12_keeps_54c (s.1) (s.2.1) (s.2.2.1) (s.2.2.2)

theorem f_X12_keeps_54e (V : dV) (a0 p1 j54_3 : Int) : f_X12_keeps_54b (V, a0, p1, j54_3) = f_X12_keeps_54c V a0 p1 j54_3 := rfl

noncomputable def f_X12_keeps_52 (V : dV) (a0 p1 : Int) : dR :=
  dv_lp (f_X12_keeps_54b) (V, a0, p1, 0)

noncomputable def f_X12_keeps_14c (V : dV) (a0 p1 j14_3 : Int) : Sum (dV × Int × Int × Int) (dR) :=
  dv_b (15 * 30) fun x22 =>
  if x22 ≤ j14_3 then (
  dv_b (V a0 33 0) fun zz5 =>
  dv_b (zz5 - 1) fun x24 =>
  dv_b (dv_u V a0 33 0 (x24)) fun V49 =>
  Sum.inr (f_X12_keeps_52 (V49) (a0) (p1))
  ) else (
  dv_b (j14_3 + 30) fun x27 =>
  dv_b (V a0 31 (x27)) fun x28 =>
  dv_b (dv_u V a0 31 (j14_3) (x28)) fun V35 =>
  dv_b (j14_3 + 1) fun x31 =>
  Sum.inl (V35, a0, p1, x31)
  )
noncomputable def f_X12_keeps_14b (s : (dV × Int × Int × Int)) : Sum (dV × Int × Int × Int) (dR) := f_X12_keeps_14c (s.1) (s.2.1) (s.2.2.1) (s.2.2.2)

theorem f_X12_keeps_14e (V : dV) (a0 p1 j14_3 : Int) : f_X12_keeps_14b (V, a0, p1, j14_3) = f_X12_keeps_14c V a0 p1 j14_3 := rfl

noncomputable def f_X12_keeps (V : dV) (a0 p1 : Int) : dR :=
  dv_b (V a0 33 0) fun zz1 =>
  if zz1 ≠ 16 then (
  f_X12_keeps_52 (V) (a0) (p1)
  ) else (
  dv_lp (f_X12_keeps_14b) (V, a0, p1, 0)
  )

noncomputable def f_X12_undo_34c (V : dV) (x7 a0 j34_2 : Int) : Sum (dV × Int × Int × Int) (dR) :=
  if 29 ≤ j34_2 then (
  dv_b (x7 + 29) fun x9 =>
  dv_b (V a0 31 (x9)) fun x10 =>
  dv_b2 (f_X12_good V (a0) (x10)) fun V70 x11 =>
  Sum.inr ((V70, x11))
  ) else (
  dv_b (x7 + j34_2) fun x14 =>
  dv_b (V a0 31 (x14)) fun x15 =>
  dv_b (dv_u V a0 2 (j34_2) (x15)) fun V53 =>
  dv_b (j34_2 + 1) fun x18 =>
  Sum.inl (V53, x7, a0, x18)
  )
noncomputable def f_X12_undo_34b (s : (dV × Int × Int × Int)) : Sum (dV × Int × Int × Int) (dR) := f_X12_undo_34c (s.1) (s.2.1) (s.2.2.1) (s.2.2.2)

theorem f_X12_undo_34e (V : dV) (x7 a0 j34_2 : Int) : f_X12_undo_34b (V, x7, a0, j34_2) = f_X12_undo_34c V x7 a0 j34_2 := rfl

noncomputable def f_X12_undo (V : dV) (a0 : Int) : dR :=
  dv_b (V a0 33 0) fun zz1 =>
  if zz1 ≠ 0 then (
  dv_b (V a0 33 0) fun zz2 =>
  dv_b (zz2 - 1) fun x4 =>
  dv_b (dv_u V a0 33 0 (x4)) fun V21 =>
  dv_b (V21 a0 33 0) fun zz3 =>
  dv_b (30 * zz3) fun x7 =>
  dv_lp (f_X12_undo_34b) (V21, x7, a0, 0)
  ) else (
  dv_b2 (f_X12_refuses V (a0) ((-3))) fun V10 x19 =>
  (V10, x19)
  )

noncomputable def f_X12_laysKept (V : dV) (a0 p1 p2 p3 : Int) : dR :=
  dv_b2 (f_X12_isAlong V (p2)) fun x1 _ =>
  if x1 = 0 then (
  (V, (-1))
  ) else (
  dv_b2 (f_X12_isAlong V (p3)) fun x2 _ =>
  if x2 ≠ 0 then (
  dv_b2 (f_X12_isCarpet V (a0) (p1)) fun x3 _ =>
  if x3 ≠ 0 then (
  dv_b2 (f_X12_canLay V (a0) (p1) (p2) (p3)) fun V31 x4 =>
  if x4 ≠ 0 then (
  dv_b2 (f_X12_keeps V31 (a0) (0)) fun V42 _ =>
  dv_b2 (f_X12_laysAt V42 (a0) (p1) (p2) (p3)) fun V49 x5 =>
  (V49, x5)
  ) else (
  (V31, (-3))
  )
  ) else (
  (V, (-2))
  )
  ) else (
  (V, (-1))
  )
  )

noncomputable def f_X12_rollsKept (V : dV) (a0 p1 : Int) : dR :=
  dv_b2 (f_X12_isCarpet V (a0) (p1)) fun x1 _ =>
  if x1 ≠ 0 then (
  dv_b2 (f_X12_isLaid V (a0) (p1)) fun x2 _ =>
  if x2 ≠ 0 then (
  dv_b2 (f_X12_keeps V (a0) (1)) fun V24 _ =>
  dv_b2 (f_X12_rolls V24 (a0) (p1)) fun V29 _ =>
  dv_b2 (f_X12_bareMany V29 (a0)) fun x3 _ =>
  (V29, x3)
  ) else (
  (V, (-3))
  )
  ) else (
  (V, (-2))
  )

noncomputable def f_X12_mirrorsKept_7c (V : dV) (a0 j7_1 : Int) : Sum (dV × Int × Int) (dR) :=
  dv_b2 (f_X12_many V (a0)) fun x1 _ =>
  if x1 ≤ j7_1 then (
  dv_b2 (f_X12_laidMany V (a0)) fun x2 _ =>
  Sum.inr ((V, x2))
  ) else (
  dv_b (9 + j7_1) fun x4 =>
  dv_b2 (f_X12_isLaid V (a0) (j7_1)) fun x5 _ =>
  if x5 = 0 then (
  dv_b (dv_u V a0 2 (x4) ((-1))) fun V62 =>
  dv_b (j7_1 + 1) fun x7 =>
  Sum.inl (V62, a0, x7)
  ) else (
  dv_b (V a0 2 (67)) fun x8 =>
  dv_b (9 + j7_1) fun x9 =>
  dv_b (V a0 2 (x9)) fun x10 =>
  dv_b (x8 - x10) fun x11 =>
  dv_b (29 + j7_1) fun x12 =>
  dv_b (V a0 2 (x12)) fun x13 =>
  dv_b (x11 - x13) fun x14 =>
  dv_b (dv_u V a0 2 (x4) (x14)) fun V62 =>
  dv_b (j7_1 + 1) fun x16 =>
  Sum.inl (V62, a0, x16)
  )
  )
noncomputable def f_X12_mirrorsKept_7b (s : (dV × Int × Int)) : Sum (dV × Int × Int) (dR) := f_X12_mirrorsKept_7c (s.1) (s.2.1) (s.2.2)

theorem f_X12_mirrorsKept_7e (V : dV) (a0 j7_1 : Int) : f_X12_mirrorsKept_7b (V, a0, j7_1) = f_X12_mirrorsKept_7c V a0 j7_1 := rfl

noncomputable def f_X12_mirrorsKept (V : dV) (a0 : Int) : dR :=
  dv_b2 (f_X12_keeps V (a0) (2)) fun V2 _ =>
  dv_lp (f_X12_mirrorsKept_7b) (V2, a0, 0)

noncomputable def f_X12_passesKept (V : dV) (a0 : Int) : dR :=
  dv_b (V a0 2 (28)) fun x2 =>
  if x2 ≠ 999 then (
  dv_b2 (f_X12_keeps V (a0) (3)) fun V18 _ =>
  dv_b2 (f_X12_yearPasses V18 (a0)) fun V22 x3 =>
  (V22, x3)
  ) else (
  (V, (-3))
  )

noncomputable def f_X12_lay (V : dV) (a0 p1 p2 p3 : Int) : dR :=
  dv_b2 (f_X12_laysKept V (a0) (p1) (p2) (p3)) fun V5 x1 =>
  dv_b2 (f_X12_goodOr V5 (a0) (x1)) fun V8 x2 =>
  (V8, x2)

noncomputable def f_X12_roll (V : dV) (a0 p1 : Int) : dR :=
  dv_b2 (f_X12_rollsKept V (a0) (p1)) fun V3 x1 =>
  dv_b2 (f_X12_goodOr V3 (a0) (x1)) fun V6 x2 =>
  (V6, x2)

noncomputable def f_X12_mirror (V : dV) (a0 : Int) : dR :=
  dv_b2 (f_X12_mirrorsKept V (a0)) fun V2 x1 =>
  dv_b2 (f_X12_goodOr V2 (a0) (x1)) fun V5 x2 =>
  (V5, x2)

noncomputable def f_X12_pass (V : dV) (a0 : Int) : dR :=
  dv_b2 (f_X12_passesKept V (a0)) fun V2 x1 =>
  dv_b2 (f_X12_goodOr V2 (a0) (x1)) fun V5 x2 =>
  (V5, x2)

noncomputable def f_X12_laysPrices_82 (V : dV) (a0 p1 j2_2 : Int) : Sum (dV × Int × Int × Int × Int) (Sum (dV × Int × Int × Int) (dR)) :=
  dv_b (j2_2 + 1) fun x2 =>
  Sum.inr (Sum.inl (V, a0, p1, x2))

noncomputable def f_X12_laysPrices_12c (V : dV) (a0 p1 j2_2 j12_3 : Int) : Sum (dV × Int × Int × Int × Int) (Sum (dV × Int × Int × Int) (dR)) :=
  if 144 ≤ j12_3 then (
  f_X12_laysPrices_82 (V) (a0) (p1) (j2_2)
  ) else (
  dv_b2 (f_X12_isIn V (p1) (j2_2)) fun x3 _ =>
  if x3 = 0 then (
  f_X12_laysPrices_82 (V) (a0) (p1) (j2_2)
  ) else (
  dv_b (j12_3 % 12) fun x4 =>
  dv_b (j12_3 / 12) fun x5 =>
  dv_b (144 * j2_2) fun x7 =>
  dv_b (x7 + j12_3) fun x8 =>
  dv_b2 (f_X12_isBarred V (a0) (j2_2) (x4) (x5)) fun V56 x9 =>
  if x9 = 0 then (
  dv_b2 (f_X12_costsAt V56 (a0) (j2_2) (x4) (x5)) fun V72 x11 =>
  dv_b (dv_u V72 a0 34 (x8) (x11)) fun V75 =>
  dv_b (j12_3 + 1) fun x14 =>
  Sum.inl (V75, a0, p1, j2_2, x14)
  ) else (
  dv_b (dv_u V56 a0 34 (x8) ((-1))) fun V75 =>
  dv_b (j12_3 + 1) fun x16 =>
  Sum.inl (V75, a0, p1, j2_2, x16)
  )
  )
  )
noncomputable def f_X12_laysPrices_12b (s : (dV × Int × Int × Int × Int)) : Sum (dV × Int × Int × Int × Int) (Sum (dV × Int × Int × Int) (dR)) := f_X12_laysPrices_12c (s.1) (s.2.1) (s.2.2.1) (s.2.2.2.1) (s.2.2.2.2)

theorem f_X12_laysPrices_12e (V : dV) (a0 p1 j2_2 j12_3 : Int) : f_X12_laysPrices_12b (V, a0, p1, j2_2, j12_3) = f_X12_laysPrices_12c V a0 p1 j2_2 j12_3 := rfl

noncomputable def f_X12_laysPrices_2c (V : dV) (a0 p1 j2_2 : Int) : Sum (dV × Int × Int × Int) (dR) :=
  dv_b2 (f_X12_many V (a0)) fun x1 _ =>
  if x1 ≤ j2_2 then (
  Sum.inr ((V, 0))
  ) else (
  dv_lp (f_X12_laysPrices_12b) (V, a0, p1, j2_2, 0)
  )
noncomputable def f_X12_laysPrices_2b (s : (dV × Int × Int × Int)) : Sum (dV × Int × Int × Int) (dR) := f_X12_laysPrices_2c (s.1) (s.2.1) (s.2.2.1) (s.2.2.2)

theorem f_X12_laysPrices_2e (V : dV) (a0 p1 j2_2 : Int) : f_X12_laysPrices_2b (V, a0, p1, j2_2) = f_X12_laysPrices_2c V a0 p1 j2_2 := rfl

noncomputable def f_X12_laysPrices (V : dV) (a0 p1 : Int) : dR :=
  dv_lp (f_X12_laysPrices_2b) (V, a0, p1, 0)

noncomputable def f_X12_countsRow_25c (V : dV) (x5 a0 p1 j2_2 j25_4 : Int) : Sum (dV × Int × Int × Int × Int × Int) (Sum (dV × Int × Int × Int) (dR)) :=
  dv_b (x5 * x5) fun x8 =>
  if x8 ≤ j25_4 then (
  dv_b (j2_2 + 1) fun x10 =>
  Sum.inr (Sum.inl (V, a0, p1, x10))
  ) else (
  dv_b (V a0 36 (j2_2)) fun x13 =>
  dv_b (j25_4 / x5) fun x14 =>
  dv_b (x14 * 12) fun x15 =>
  dv_b (x13 + x15) fun x16 =>
  dv_b (j25_4 % x5) fun x17 =>
  dv_b (x16 + x17) fun x18 =>
  dv_b (9 * x18) fun x19 =>
  dv_b (V a0 35 (j2_2)) fun x20 =>
  dv_b (x19 + x20) fun x21 =>
  dv_b (V a0 38 (x21)) fun x22 =>
  dv_b (dv_add (x22) (1)) fun x23 =>
  dv_b (dv_u V a0 38 (x21) (x23)) fun V70 =>
  dv_b (j25_4 + 1) fun x28 =>
  Sum.inl (V70, x5, a0, p1, j2_2, x28)
  )
noncomputable def f_X12_countsRow_25b (s : (dV × Int × Int × Int × Int × Int)) : Sum (dV × Int × Int × Int × Int × Int) (Sum (dV × Int × Int × Int) (dR)) := f_X12_countsRow_25c (s.1) (s.2.1) (s.2.2.1) (s.2.2.2.1) (s.2.2.2.2.1) (s.2.2.2.2.2)

theorem f_X12_countsRow_25e (V : dV) (x5 a0 p1 j2_2 j25_4 : Int) : f_X12_countsRow_25b (V, x5, a0, p1, j2_2, j25_4) = f_X12_countsRow_25c V x5 a0 p1 j2_2 j25_4 := rfl

noncomputable def f_X12_countsRow_2c (V : dV) (a0 p1 j2_2 : Int) : Sum (dV × Int × Int × Int) (dR) :=
  if p1 ≤ j2_2 then (
  Sum.inr ((V, 0))
  ) else (
  dv_b (V a0 35 (j2_2)) fun x3 =>
  dv_b (29 + x3) fun x4 =>
  dv_b (V a0 2 (x4)) fun x5 =>
  dv_lp (f_X12_countsRow_25b) (V, x5, a0, p1, j2_2, 0)
  )
noncomputable def f_X12_countsRow_2b (s : (dV × Int × Int × Int)) : Sum (dV × Int × Int × Int) (dR) := f_X12_countsRow_2c (s.1) (s.2.1) (s.2.2.1) (s.2.2.2)

theorem f_X12_countsRow_2e (V : dV) (a0 p1 j2_2 : Int) : f_X12_countsRow_2b (V, a0, p1, j2_2) = f_X12_countsRow_2c V a0 p1 j2_2 := rfl

noncomputable def f_X12_countsRow (V : dV) (a0 p1 : Int) : dR :=
  dv_lp (f_X12_countsRow_2b) (V, a0, p1, 0)

noncomputable def f_X12_fills_66c (V : dV) (a0 p1 j66_3 : Int) : Sum (dV × Int × Int × Int) (dR) :=
  if p1 ≤ j66_3 then (
  Sum.inr ((V, 0))
  ) else (
  dv_b (V a0 35 (j66_3)) fun x13 =>
  dv_b (dv_u V a0 37 (j66_3) (x13)) fun V82 =>
  dv_b (j66_3 + 1) fun x16 =>
  Sum.inl (V82, a0, p1, x16)
  )
noncomputable def f_X12_fills_66b (s : (dV × Int × Int × Int)) : Sum (dV × Int × Int × Int) (dR) := f_X12_fills_66c (s.1) (s.2.1) (s.2.2.1) (s.2.2.2)

theorem f_X12_fills_66e (V : dV) (a0 p1 j66_3 : Int) : f_X12_fills_66b (V, a0, p1, j66_3) = f_X12_fills_66c V a0 p1 j66_3 := rfl

noncomputable def f_X12_fills_50 (V : dV) (a0 p1 : Int) : dR :=
  dv_b (V a0 41 0) fun zz5 =>
  if zz5 ≤ 1 then (
  dv_b (dv_u V a0 42 0 (p1)) fun V61 =>
  dv_lp (f_X12_fills_66b) (V61, a0, p1, 0)
  ) else (
  (V, 0)
  )

noncomputable def f_X12_fills_16 (V : dV) (a0 p1 p2 : Int) : dR :=
  dv_b (V a0 41 0) fun zz2 =>
  dv_b (dv_add (zz2) (1)) fun x3 =>
  dv_b (dv_u V a0 41 0 (x3)) fun V23 =>
  dv_b (V23 a0 43 0) fun zz3 =>
  dv_b2 (f_X12_lesser V23 (zz3) (p2)) fun x7 _ =>
  dv_b (dv_u V23 a0 43 0 (x7)) fun V35 =>
  dv_b (V35 a0 44 0) fun zz4 =>
  if zz4 = 0 then (
  f_X12_fills_50 (V35) (a0) (p1)
  ) else (
  dv_b2 (f_X12_countsRow V35 (a0) (p1)) fun V47 _ =>
  f_X12_fills_50 (V47) (a0) (p1)
  )

noncomputable def f_X12_fills (V : dV) (a0 p1 p2 : Int) : dR :=
  dv_b (V a0 44 0) fun zz1 =>
  if zz1 = 0 then (
  f_X12_fills_16 (V) (a0) (p1) (p2)
  ) else (
  dv_b2 (f_X12_isSeenSo V (a0) (p1)) fun x19 _ =>
  if x19 ≠ 0 then (
  f_X12_fills_16 (V) (a0) (p1) (p2)
  ) else (
  (V, 0)
  )
  )

noncomputable def f_X12_goesOn_59c (d : Nat) (rc : dV → Int → Int → Int → Int → dR) (V : dV) (x6 x5 x4 a0 p1 p2 p3 j59_7 : Int) : Sum (dV × Int × Int × Int × Int × Int × Int × Int × Int) (dR) :=
  dv_b2 (f_X12_many V (a0)) fun x9 _ =>
  if x9 ≤ j59_7 then (
  Sum.inr ((V, 0))
  ) else (
  dv_b2 (f_X12_isIn V (p1) (j59_7)) fun x10 _ =>
  if x10 = 0 then (
  dv_b (j59_7 + 1) fun x11 =>
  Sum.inl (V, x6, x5, x4, a0, p1, p2, p3, x11)
  ) else (
  dv_b2 (f_X12_priceAt V (a0) (j59_7) (x4)) fun x12 _ =>
  if x12 = (-1) then (
  dv_b (j59_7 + 1) fun x13 =>
  Sum.inl (V, x6, x5, x4, a0, p1, p2, p3, x13)
  ) else (
  dv_b (29 + j59_7) fun x15 =>
  dv_b (V a0 2 (x15)) fun x16 =>
  dv_b (V a0 39 0) fun zz4 =>
  dv_b (V a0 40 0) fun zz5 =>
  dv_b2 (f_X12_isFree V (a0) (x16) (x5) (x6) (zz4) (zz5)) fun x17 _ =>
  if x17 ≠ 0 then (
  dv_b (29 + j59_7) fun x18 =>
  dv_b (V a0 2 (x18)) fun x19 =>
  dv_b2 (f_X12_turnsSquare V (a0) (x19) (x5) (x6)) fun V136 _ =>
  dv_b (dv_u V136 a0 35 (p2) (j59_7)) fun V146 =>
  dv_b (dv_u V146 a0 36 (p2) (x4)) fun V154 =>
  dv_b (dv_shl (1) (j59_7)) fun x34 =>
  dv_b (dv_xor (x34) ((-1))) fun x35 =>
  dv_b (dv_and (p1) (x35)) fun x36 =>
  dv_b (p2 + 1) fun x37 =>
  dv_b2 (f_X12_priceAt V154 (a0) (j59_7) (x4)) fun x38 _ =>
  dv_b (dv_add (p3) (x38)) fun x39 =>
  dv_b2 (rc V154 (a0) (x36) (x37) (x39)) fun V177 _ =>
  dv_b (29 + j59_7) fun x45 =>
  dv_b (V177 a0 2 (x45)) fun x46 =>
  dv_b2 (f_X12_turnsSquare V177 (a0) (x46) (x5) (x6)) fun V195 _ =>
  dv_b (j59_7 + 1) fun x52 =>
  Sum.inl (V195, x6, x5, x4, a0, p1, p2, p3, x52)
  ) else (
  dv_b (j59_7 + 1) fun x53 =>
  Sum.inl (V, x6, x5, x4, a0, p1, p2, p3, x53)
  )
  )
  )
  )
noncomputable def f_X12_goesOn_59b (d : Nat) (rc : dV → Int → Int → Int → Int → dR) (s : (dV × Int × Int × Int × Int × Int × Int × Int × Int)) : Sum (dV × Int × Int × Int × Int × Int × Int × Int × Int) (dR) := f_X12_goesOn_59c d rc (s.1) (s.2.1) (s.2.2.1) (s.2.2.2.1) (s.2.2.2.2.1) (s.2.2.2.2.2.1) (s.2.2.2.2.2.2.1) (s.2.2.2.2.2.2.2.1) (s.2.2.2.2.2.2.2.2)

theorem f_X12_goesOn_59e (d : Nat) (rc : dV → Int → Int → Int → Int → dR) (V : dV) (x6 x5 x4 a0 p1 p2 p3 j59_7 : Int) : f_X12_goesOn_59b d rc (V, x6, x5, x4, a0, p1, p2, p3, j59_7) = f_X12_goesOn_59c d rc V x6 x5 x4 a0 p1 p2 p3 j59_7 := rfl

noncomputable def f_X12_goesOn_15 (d : Nat) (rc : dV → Int → Int → Int → Int → dR) (V : dV) (a0 p1 p2 p3 : Int) : dR :=
  dv_b (V a0 39 0) fun zz2 =>
  dv_b (V a0 40 0) fun zz3 =>
  dv_b2 (f_X12_firstBare V (a0) (zz2) (zz3)) fun x4 _ =>
  if x4 ≠ (-1) then (
  dv_b (x4 % 12) fun x5 =>
  dv_b (x4 / 12) fun x6 =>
  dv_lp (f_X12_goesOn_59b d rc) (V, x6, x5, x4, a0, p1, p2, p3, 0)
  ) else (
  dv_b2 (f_X12_fills V (a0) (p2) (p3)) fun V38 _ =>
  (V38, 0)
  )

noncomputable def f_X12_goesOn_B (d : Nat) (rc : dV → Int → Int → Int → Int → dR) (V : dV) (a0 p1 p2 p3 : Int) : dR :=
  dv_b (V a0 45 0) fun zz1 =>
  if zz1 = 0 then (
  f_X12_goesOn_15 d rc (V) (a0) (p1) (p2) (p3)
  ) else (
  dv_b (V a0 41 0) fun zz6 =>
  if zz6 ≤ 0 then (
  f_X12_goesOn_15 d rc (V) (a0) (p1) (p2) (p3)
  ) else (
  (V, 0)
  )
  )

noncomputable def f_X12_goesOn : Nat → dV → Int → Int → Int → Int → dR
  | 0 => f_X12_goesOn_B 0 (fun _ _ _ _ _ => dv_z)
  | d + 1 => f_X12_goesOn_B (d + 1) (f_X12_goesOn d)

theorem f_X12_goesOn_d (d : Nat) (V : dV) (a0 p1 p2 p3 : Int) : f_X12_goesOn d V a0 p1 p2 p3 = f_X12_goesOn_B d (dv_pre (fun _ _ _ _ _ => dv_z) f_X12_goesOn d) V a0 p1 p2 p3 := by cases d <;> rfl

noncomputable def f_X12_goesThrough (V : dV) (a0 p1 p2 p3 : Int) : dR :=
  dv_b (dv_u V a0 39 0 (p2)) fun V2 =>
  dv_b (dv_u V2 a0 40 0 (p3)) fun V7 =>
  dv_b (dv_u V7 a0 41 0 (0)) fun V12 =>
  dv_b (dv_u V12 a0 42 0 (0)) fun V17 =>
  dv_b (dv_u V17 a0 43 0 (1000000)) fun V23 =>
  dv_b2 (f_X12_goesOn 9 V23 (a0) (p1) (0) (0)) fun V30 _ =>
  (V30, 0)

noncomputable def f_X12_fillsNow (V : dV) (a0 p1 : Int) : dR :=
  dv_b2 (f_X12_rolledWhole V (a0)) fun x1 _ =>
  dv_b2 (f_X12_laysPrices V (a0) (x1)) fun V7 _ =>
  dv_b2 (f_X12_laysCovered V7 (a0)) fun V11 _ =>
  dv_b (dv_u V11 a0 44 0 (p1)) fun V16 =>
  dv_b (dv_u V16 a0 45 0 (0)) fun V21 =>
  dv_b (V21 a0 2 (67)) fun x3 =>
  dv_b (V21 a0 2 (68)) fun x4 =>
  dv_b2 (f_X12_goesThrough V21 (a0) (x1) (x3) (x4)) fun V40 _ =>
  (V40, 0)

noncomputable def f_X12_fill (V : dV) (a0 p1 : Int) : dR :=
  if (-1) ≤ p1 then (
  dv_b2 (f_X12_fillsNow V (a0) (0)) fun V9 _ =>
  dv_b (V9 a0 41 0) fun zz1 =>
  if zz1 ≠ 0 then (
  if p1 ≠ (-1) then (
  dv_b (V9 a0 42 0) fun zz2 =>
  if zz2 ≤ p1 then (
  (V9, (-1))
  ) else (
  dv_b (V9 a0 37 (p1)) fun x4 =>
  (V9, x4)
  )
  ) else (
  dv_b (V9 a0 42 0) fun zz3 =>
  (V9, zz3)
  )
  ) else (
  (V9, (-1))
  )
  ) else (
  (V, (-1))
  )

noncomputable def f_X12_ways (V : dV) (a0 : Int) : dR :=
  dv_b2 (f_X12_fillsNow V (a0) (0)) fun V2 _ =>
  dv_b (V2 a0 41 0) fun zz1 =>
  (V2, zz1)

noncomputable def f_X12_cheapest (V : dV) (a0 : Int) : dR :=
  dv_b2 (f_X12_fillsNow V (a0) (0)) fun V2 _ =>
  dv_b (V2 a0 41 0) fun zz1 =>
  if zz1 ≠ 0 then (
  dv_b (V2 a0 43 0) fun zz2 =>
  (V2, zz2)
  ) else (
  (V2, (-1))
  )

noncomputable def f_X12_canFill_3c (V : dV) (a0 p1 p2 p3 j3_4 : Int) : Sum (dV × Int × Int × Int × Int × Int) (dR) :=
  if 12 ≤ j3_4 then (
  dv_b2 (f_X12_goesThrough V (a0) (p1) (p2) (p3)) fun V28 _ =>
  dv_b (V28 a0 41 0) fun zz1 =>
  if zz1 ≤ 0 then (
  Sum.inr ((V28, 0))
  ) else (
  Sum.inr ((V28, 1))
  )
  ) else (
  dv_b (dv_u V a0 29 (j3_4) (0)) fun V17 =>
  dv_b (j3_4 + 1) fun x4 =>
  Sum.inl (V17, a0, p1, p2, p3, x4)
  )
noncomputable def f_X12_canFill_3b (s : (dV × Int × Int × Int × Int × Int)) : Sum (dV × Int × Int × Int × Int × Int) (dR) := f_X12_canFill_3c (s.1) (s.2.1) (s.2.2.1) (s.2.2.2.1) (s.2.2.2.2.1) (s.2.2.2.2.2)

theorem f_X12_canFill_3e (V : dV) (a0 p1 p2 p3 j3_4 : Int) : f_X12_canFill_3b (V, a0, p1, p2, p3, j3_4) = f_X12_canFill_3c V a0 p1 p2 p3 j3_4 := rfl

noncomputable def f_X12_canFill (V : dV) (a0 p1 p2 p3 : Int) : dR :=
  dv_lp (f_X12_canFill_3b) (V, a0, p1, p2, p3, 0)

noncomputable def f_X12_halls_156 (V : dV) (a0 p1 j14_2 j14_3 j93_5 j156_4 : Int) : Sum (dV × Int × Int × Int × Int × Int × Int) (Sum (dV × Int × Int × Int × Int × Int) (dR)) :=
  dv_b (j93_5 + 1) fun x5 =>
  Sum.inl (V, a0, p1, j14_2, j14_3, j156_4, x5)

noncomputable def f_X12_halls_93c (V : dV) (a0 p1 j14_2 j14_3 j93_4 j93_5 : Int) : Sum (dV × Int × Int × Int × Int × Int × Int) (Sum (dV × Int × Int × Int × Int × Int) (dR)) :=
  if 12 < j93_5 then (
  if p1 ≠ (-1) then (
  Sum.inr (Sum.inr ((V, (-1))))
  ) else (
  Sum.inr (Sum.inr ((V, j93_4)))
  )
  ) else (
  dv_b (j14_3 / j93_5) fun x2 =>
  dv_b (j93_5 * x2) fun x3 =>
  if j14_3 ≠ x3 then (
  f_X12_halls_156 (V) (a0) (p1) (j14_2) (j14_3) (j93_5) (j93_4)
  ) else (
  dv_b2 (f_X12_isSide V (x2)) fun x6 _ =>
  if x6 = 0 then (
  f_X12_halls_156 (V) (a0) (p1) (j14_2) (j14_3) (j93_5) (j93_4)
  ) else (
  dv_b2 (f_X12_canFill V (a0) (j14_2) (j93_5) (x2)) fun V129 x7 =>
  if x7 ≠ 0 then (
  if j93_4 ≠ p1 then (
  dv_b (dv_add (j93_4) (1)) fun x8 =>
  f_X12_halls_156 (V129) (a0) (p1) (j14_2) (j14_3) (j93_5) (x8)
  ) else (
  dv_b (100 * j93_5) fun x9 =>
  dv_b (x9 + x2) fun x10 =>
  Sum.inr (Sum.inr ((V129, x10)))
  )
  ) else (
  f_X12_halls_156 (V129) (a0) (p1) (j14_2) (j14_3) (j93_5) (j93_4)
  )
  )
  )
  )
noncomputable def f_X12_halls_93b (s : (dV × Int × Int × Int × Int × Int × Int)) : Sum (dV × Int × Int × Int × Int × Int × Int) (Sum (dV × Int × Int × Int × Int × Int) (dR)) := f_X12_halls_93c (s.1) (s.2.1) (s.2.2.1) (s.2.2.2.1) (s.2.2.2.2.1) (s.2.2.2.2.2.1) (s.2.2.2.2.2.2)

theorem f_X12_halls_93e (V : dV) (a0 p1 j14_2 j14_3 j93_4 j93_5 : Int) : f_X12_halls_93b (V, a0, p1, j14_2, j14_3, j93_4, j93_5) = f_X12_halls_93c V a0 p1 j14_2 j14_3 j93_4 j93_5 := rfl

noncomputable def f_X12_halls_66 (V : dV) (a0 p1 j14_4 j66_2 j66_3 : Int) : Sum (dV × Int × Int × Int × Int × Int) (dR) :=
  dv_b (j14_4 + 1) fun x12 =>
  Sum.inl (V, a0, p1, j66_2, j66_3, x12)

noncomputable def f_X12_halls_14c (V : dV) (a0 p1 j14_2 j14_3 j14_4 : Int) : Sum (dV × Int × Int × Int × Int × Int) (dR) :=
  dv_b2 (f_X12_many V (a0)) fun x1 _ =>
  if x1 ≤ j14_4 then (
  dv_b2 (f_X12_laysPrices V (a0) (j14_2)) fun V74 _ =>
  dv_b (dv_u V74 a0 44 0 (0)) fun V79 =>
  dv_b (dv_u V79 a0 45 0 (1)) fun V84 =>
  dv_lp (f_X12_halls_93b) (V84, a0, p1, j14_2, j14_3, 0, 1)
  ) else (
  dv_b2 (f_X12_isWhole V (a0) (j14_4)) fun x11 _ =>
  if x11 ≠ 0 then (
  dv_b (dv_shl (1) (j14_4)) fun x13 =>
  dv_b (dv_or (j14_2) (x13)) fun x14 =>
  dv_b (29 + j14_4) fun x16 =>
  dv_b (V a0 2 (x16)) fun x17 =>
  dv_b (29 + j14_4) fun x18 =>
  dv_b (V a0 2 (x18)) fun x19 =>
  dv_b (x17 * x19) fun x20 =>
  dv_b (j14_3 + x20) fun x22 =>
  f_X12_halls_66 (V) (a0) (p1) (j14_4) (x14) (x22)
  ) else (
  f_X12_halls_66 (V) (a0) (p1) (j14_4) (j14_2) (j14_3)
  )
  )
noncomputable def f_X12_halls_14b (s : (dV × Int × Int × Int × Int × Int)) : Sum (dV × Int × Int × Int × Int × Int) (dR) := f_X12_halls_14c (s.1) (s.2.1) (s.2.2.1) (s.2.2.2.1) (s.2.2.2.2.1) (s.2.2.2.2.2)

theorem f_X12_halls_14e (V : dV) (a0 p1 j14_2 j14_3 j14_4 : Int) : f_X12_halls_14b (V, a0, p1, j14_2, j14_3, j14_4) = f_X12_halls_14c V a0 p1 j14_2 j14_3 j14_4 := rfl

noncomputable def f_X12_halls (V : dV) (a0 p1 : Int) : dR :=
  if (-1) ≤ p1 then (
  dv_lp (f_X12_halls_14b) (V, a0, p1, 0, 0, 0)
  ) else (
  (V, (-1))
  )

noncomputable def f_X12_laysFloors_2c (V : dV) (a0 j2_1 : Int) : Sum (dV × Int × Int) (dR) :=
  if 1296 ≤ j2_1 then (
  dv_b2 (f_X12_fillsNow V (a0) (1)) fun V24 _ =>
  Sum.inr ((V24, 0))
  ) else (
  dv_b (dv_u V a0 38 (j2_1) (0)) fun V15 =>
  dv_b (j2_1 + 1) fun x3 =>
  Sum.inl (V15, a0, x3)
  )
noncomputable def f_X12_laysFloors_2b (s : (dV × Int × Int)) : Sum (dV × Int × Int) (dR) := f_X12_laysFloors_2c (s.1) (s.2.1) (s.2.2)

theorem f_X12_laysFloors_2e (V : dV) (a0 j2_1 : Int) : f_X12_laysFloors_2b (V, a0, j2_1) = f_X12_laysFloors_2c V a0 j2_1 := rfl

noncomputable def f_X12_laysFloors (V : dV) (a0 : Int) : dR :=
  dv_lp (f_X12_laysFloors_2b) (V, a0, 0)

noncomputable def f_X12_floors (V : dV) (a0 : Int) : dR :=
  dv_b2 (f_X12_laysFloors V (a0)) fun V1 _ =>
  dv_b (V1 a0 41 0) fun zz1 =>
  (V1, zz1)

noncomputable def f_X12_look_72 (V : dV) (p1 j23_2 j23_3 : Int) : Sum (dV × Int × Int × Int × Int × Int) (dR) :=
  if j23_2 ≠ (-1) then (
  if p1 ≠ 0 then (
  if p1 ≠ 1 then (
  Sum.inr ((V, j23_3))
  ) else (
  dv_b (j23_2 / 12) fun x2 =>
  Sum.inr ((V, x2))
  )
  ) else (
  dv_b (j23_2 % 12) fun x3 =>
  Sum.inr ((V, x3))
  )
  ) else (
  Sum.inr ((V, (-1)))
  )

noncomputable def f_X12_look_66 (V : dV) (a0 p1 j23_4 j66_2 j66_3 : Int) : Sum (dV × Int × Int × Int × Int × Int) (dR) :=
  dv_b (j23_4 + 1) fun x6 =>
  Sum.inl (V, a0, p1, j66_2, j66_3, x6)

noncomputable def f_X12_look_23c (V : dV) (a0 p1 j23_2 j23_3 j23_4 : Int) : Sum (dV × Int × Int × Int × Int × Int) (dR) :=
  if 144 ≤ j23_4 then (
  f_X12_look_72 (V) (p1) (j23_2) (j23_3)
  ) else (
  dv_b (V a0 41 0) fun zz1 =>
  if zz1 ≤ 0 then (
  f_X12_look_72 (V) (p1) (j23_2) (j23_3)
  ) else (
  dv_b2 (f_X12_mostAt V (a0) (j23_4)) fun x5 _ =>
  if x5 = 0 then (
  f_X12_look_66 (V) (a0) (p1) (j23_4) (j23_2) (j23_3)
  ) else (
  if x5 < j23_3 then (
  f_X12_look_66 (V) (a0) (p1) (j23_4) (j23_4) (x5)
  ) else (
  f_X12_look_66 (V) (a0) (p1) (j23_4) (j23_2) (j23_3)
  )
  )
  )
  )
noncomputable def f_X12_look_23b (s : (dV × Int × Int × Int × Int × Int)) : Sum (dV × Int × Int × Int × Int × Int) (dR) := f_X12_look_23c (s.1) (s.2.1) (s.2.2.1) (s.2.2.2.1) (s.2.2.2.2.1) (s.2.2.2.2.2)

theorem f_X12_look_23e (V : dV) (a0 p1 j23_2 j23_3 j23_4 : Int) : f_X12_look_23b (V, a0, p1, j23_2, j23_3, j23_4) = f_X12_look_23c V a0 p1 j23_2 j23_3 j23_4 := rfl

noncomputable def f_X12_look (V : dV) (a0 p1 : Int) : dR :=
  dv_b2 (f_X12_lies V (p1) (0) (2)) fun x1 _ =>
  if x1 ≠ 0 then (
  dv_b2 (f_X12_laysFloors V (a0)) fun V12 _ =>
  dv_lp (f_X12_look_23b) (V12, a0, p1, (-1), 1000000, 0)
  ) else (
  (V, (-1))
  )

noncomputable def f_X12_of (V : dV) (a0 p1 p2 : Int) : dR :=
  dv_b2 (f_X12_isCarpet V (a0) (p1)) fun x1 _ =>
  if x1 ≠ 0 then (
  if p2 = 0 then (
  dv_b (29 + p1) fun x3 =>
  dv_b (V a0 2 (x3)) fun x4 =>
  (V, x4)
  ) else (
  if p2 = 1 then (
  dv_b (38 + p1) fun x6 =>
  dv_b (V a0 2 (x6)) fun x7 =>
  (V, x7)
  ) else (
  if p2 = 2 then (
  dv_b (0 + p1) fun x9 =>
  dv_b (V a0 2 (x9)) fun x10 =>
  (V, x10)
  ) else (
  if p2 = 3 then (
  dv_b (9 + p1) fun x12 =>
  dv_b (V a0 2 (x12)) fun x13 =>
  (V, x13)
  ) else (
  if p2 = 4 then (
  dv_b (18 + p1) fun x15 =>
  dv_b (V a0 2 (x15)) fun x16 =>
  (V, x16)
  ) else (
  if p2 = 5 then (
  dv_b2 (f_X12_isLaid V (a0) (p1)) fun x17 _ =>
  if x17 = 0 then (
  (V, (-1))
  ) else (
  dv_b2 (f_X12_wearsNow V (a0) (p1)) fun V107 x18 =>
  (V107, x18)
  )
  ) else (
  (V, (-1))
  ))))))
  ) else (
  (V, (-1))
  )

noncomputable def f_X12_asks (V : dV) (a0 p1 p2 p3 p4 : Int) : dR :=
  dv_b2 (f_X12_isCarpet V (a0) (p1)) fun x1 _ =>
  if x1 = 0 then (
  (V, (-1))
  ) else (
  dv_b2 (f_X12_isAlong V (p2)) fun x2 _ =>
  if x2 = 0 then (
  (V, (-1))
  ) else (
  dv_b2 (f_X12_isAlong V (p3)) fun x3 _ =>
  if x3 ≠ 0 then (
  if p4 = 0 then (
  dv_b2 (f_X12_costsAt V (a0) (p1) (p2) (p3)) fun V56 x4 =>
  (V56, x4)
  ) else (
  if p4 = 1 then (
  dv_b2 (f_X12_isBarred V (a0) (p1) (p2) (p3)) fun V64 x5 =>
  if x5 = 0 then (
  (V64, 0)
  ) else (
  (V64, 1)
  )
  ) else (
  if p4 = 2 then (
  dv_b2 (f_X12_canLay V (a0) (p1) (p2) (p3)) fun V80 x6 =>
  if x6 = 0 then (
  (V80, 0)
  ) else (
  (V80, 1)
  )
  ) else (
  (V, (-1))
  )))
  ) else (
  (V, (-1))
  )
  )
  )

noncomputable def f_X12_bare (V : dV) (a0 p1 : Int) : dR :=
  dv_b2 (f_X12_lies V (p1) (0) (2)) fun x1 _ =>
  if x1 ≠ 0 then (
  if p1 ≠ 0 then (
  dv_b2 (f_X12_laysCovered V (a0)) fun V21 _ =>
  dv_b (V21 a0 2 (67)) fun x3 =>
  dv_b (V21 a0 2 (68)) fun x4 =>
  dv_b2 (f_X12_firstBare V21 (a0) (x3) (x4)) fun x5 _ =>
  if x5 ≠ (-1) then (
  if p1 ≠ 1 then (
  dv_b (x5 / 12) fun x6 =>
  (V21, x6)
  ) else (
  dv_b (x5 % 12) fun x7 =>
  (V21, x7)
  )
  ) else (
  (V21, (-1))
  )
  ) else (
  dv_b2 (f_X12_bareMany V (a0)) fun x8 _ =>
  (V, x8)
  )
  ) else (
  (V, (-1))
  )

noncomputable def f_X12_fitting_74 (V : dV) (a0 p1 j17_3 j31_4 j31_2 s74_1 : Int) : Sum (dV × Int × Int × Int × Int × Int) (Sum (dV × Int × Int × Int × Int) (dR)) :=
  dv_b (dv_add (j31_2) (s74_1)) fun x9 =>
  dv_b (j31_4 + 1) fun x10 =>
  Sum.inl (V, a0, p1, j17_3, x9, x10)

noncomputable def f_X12_fitting_31c (V : dV) (a0 p1 j17_3 j31_2 j31_4 : Int) : Sum (dV × Int × Int × Int × Int × Int) (Sum (dV × Int × Int × Int × Int) (dR)) :=
  dv_b (V a0 2 (68)) fun x4 =>
  if x4 ≤ j31_4 then (
  dv_b (j17_3 + 1) fun x5 =>
  Sum.inr (Sum.inl (V, a0, p1, j31_2, x5))
  ) else (
  dv_b (V a0 2 (67)) fun x6 =>
  dv_b (V a0 2 (68)) fun x7 =>
  dv_b2 (f_X12_isFree V (a0) (p1) (j17_3) (j31_4) (x6) (x7)) fun x8 _ =>
  if x8 = 0 then (
  f_X12_fitting_74 (V) (a0) (p1) (j17_3) (j31_4) (j31_2) (0)
  ) else (
  f_X12_fitting_74 (V) (a0) (p1) (j17_3) (j31_4) (j31_2) (1)
  )
  )
noncomputable def f_X12_fitting_31b (s : (dV × Int × Int × Int × Int × Int)) : Sum (dV × Int × Int × Int × Int × Int) (Sum (dV × Int × Int × Int × Int) (dR)) := f_X12_fitting_31c (s.1) (s.2.1) (s.2.2.1) (s.2.2.2.1) (s.2.2.2.2.1) (s.2.2.2.2.2)

theorem f_X12_fitting_31e (V : dV) (a0 p1 j17_3 j31_2 j31_4 : Int) : f_X12_fitting_31b (V, a0, p1, j17_3, j31_2, j31_4) = f_X12_fitting_31c V a0 p1 j17_3 j31_2 j31_4 := rfl

noncomputable def f_X12_fitting_17c (V : dV) (a0 p1 j17_2 j17_3 : Int) : Sum (dV × Int × Int × Int × Int) (dR) :=
  dv_b (V a0 2 (67)) fun x3 =>
  if x3 ≤ j17_3 then (
  Sum.inr ((V, j17_2))
  ) else (
  dv_lp (f_X12_fitting_31b) (V, a0, p1, j17_3, j17_2, 0)
  )
noncomputable def f_X12_fitting_17b (s : (dV × Int × Int × Int × Int)) : Sum (dV × Int × Int × Int × Int) (dR) := f_X12_fitting_17c (s.1) (s.2.1) (s.2.2.1) (s.2.2.2.1) (s.2.2.2.2)

theorem f_X12_fitting_17e (V : dV) (a0 p1 j17_2 j17_3 : Int) : f_X12_fitting_17b (V, a0, p1, j17_2, j17_3) = f_X12_fitting_17c V a0 p1 j17_2 j17_3 := rfl

noncomputable def f_X12_fitting (V : dV) (a0 p1 : Int) : dR :=
  dv_b2 (f_X12_isSide V (p1)) fun x1 _ =>
  if x1 ≠ 0 then (
  dv_b2 (f_X12_laysCovered V (a0)) fun V10 _ =>
  dv_lp (f_X12_fitting_17b) (V10, a0, p1, 0, 0)
  ) else (
  (V, (-1))
  )

noncomputable def f_X12_readsAs (V : dV) (a0 p1 : Int) : dR :=
  dv_b (dv_u V a0 10 0 (p1)) fun V2 =>
  if p1 = 0 then (
  dv_b (dv_u V2 a0 8 0 (8)) fun V17 =>
  if p1 = 0 then (
  dv_b (dv_u V17 a0 9 0 (15)) fun V32 =>
  dv_b2 (f_X12_reads V32 (a0)) fun V36 x1 =>
  (V36, x1)
  ) else (
  dv_z
  )
  ) else (
  dv_b (dv_u V2 a0 8 0 (14)) fun V17 =>
  if p1 = 0 then (
  dv_z
  ) else (
  dv_b (dv_u V17 a0 9 0 (20)) fun V32 =>
  dv_b2 (f_X12_reads V32 (a0)) fun V36 x2 =>
  (V36, x2)
  )
  )

noncomputable def f_X12_lays_15c (V : dV) (a0 p1 j15_2 : Int) : Sum (dV × Int × Int × Int) (dR) :=
  dv_b (V a0 18 0) fun zz2 =>
  if zz2 ≤ j15_2 then (
  Sum.inr ((V, 0))
  ) else (
  dv_b (400 * p1) fun x11 =>
  dv_b (80 + x11) fun x12 =>
  dv_b (x12 + j15_2) fun x13 =>
  dv_b (V a0 15 (j15_2)) fun x15 =>
  dv_b (dv_u V a0 2 (x13) (x15)) fun V43 =>
  dv_b (400 * p1) fun x19 =>
  dv_b (2880 + x19) fun x20 =>
  dv_b (x20 + j15_2) fun x21 =>
  dv_b (V43 a0 16 (j15_2)) fun x23 =>
  dv_b (dv_u V43 a0 2 (x21) (x23)) fun V65 =>
  dv_b (j15_2 + 1) fun x28 =>
  Sum.inl (V65, a0, p1, x28)
  )
noncomputable def f_X12_lays_15b (s : (dV × Int × Int × Int)) : Sum (dV × Int × Int × Int) (dR) := f_X12_lays_15c (s.1) (s.2.1) (s.2.2.1) (s.2.2.2)

theorem f_X12_lays_15e (V : dV) (a0 p1 j15_2 : Int) : f_X12_lays_15b (V, a0, p1, j15_2) = f_X12_lays_15c V a0 p1 j15_2 := rfl

noncomputable def f_X12_lays (V : dV) (a0 p1 : Int) : dR :=
  dv_b (73 + p1) fun x2 =>
  dv_b (V a0 18 0) fun zz1 =>
  dv_b (dv_u V a0 2 (x2) (zz1)) fun V12 =>
  dv_lp (f_X12_lays_15b) (V12, a0, p1, 0)

noncomputable def f_X12_law (V : dV) (a0 : Int) : dR :=
  dv_b (V a0 2 (71)) fun x2 =>
  if x2 ≠ 6 then (
  dv_b2 (f_X12_readsAs V (a0) (0)) fun V26 x3 =>
  if x3 ≠ 0 then (
  dv_b (V26 a0 2 (71)) fun x5 =>
  dv_b2 (f_X12_lays V26 (a0) (x5)) fun V47 _ =>
  dv_b (V47 a0 2 (71)) fun x7 =>
  dv_b (x7 + 1) fun x8 =>
  dv_b (dv_u V47 a0 2 (71) (x8)) fun V60 =>
  dv_b (V60 a0 2 (71)) fun x10 =>
  dv_b (x10 - 1) fun x11 =>
  dv_b2 (f_X12_good V60 (a0) (x11)) fun V71 x12 =>
  (V71, x12)
  ) else (
  dv_b2 (f_X12_refuses V26 (a0) ((-6))) fun V35 x14 =>
  (V35, x14)
  )
  ) else (
  dv_b (dv_u V a0 13 0 (0)) fun V14 =>
  dv_b2 (f_X12_refuses V14 (a0) ((-5))) fun V20 x17 =>
  (V20, x17)
  )

noncomputable def f_X12_years_20 (V : dV) (a0 : Int) : dR :=
  dv_b2 (f_X12_refuses V (a0) ((-1))) fun V22 x2 =>
  (V22, x2)

noncomputable def f_X12_years_182c (V : dV) (x7 a0 j182_4 : Int) : Sum (dV × Int × Int × Int) (Sum (dV × Int × Int × Int) (dR)) :=
  if 29 ≤ j182_4 then (
  dv_b2 (f_X12_takesBack V (a0) (0)) fun V211 _ =>
  dv_b2 (f_X12_good V211 (a0) (x7)) fun V216 x9 =>
  Sum.inr (Sum.inr ((V216, x9)))
  ) else (
  dv_b (V a0 2 (j182_4)) fun x12 =>
  dv_b (dv_u V a0 54 (j182_4) (x12)) fun V202 =>
  dv_b (j182_4 + 1) fun x15 =>
  Sum.inl (V202, x7, a0, x15)
  )
noncomputable def f_X12_years_182b (s : (dV × Int × Int × Int)) : Sum (dV × Int × Int × Int) (Sum (dV × Int × Int × Int) (dR)) := f_X12_years_182c (s.1) (s.2.1) (s.2.2.1) (s.2.2.2)

theorem f_X12_years_182e (V : dV) (x7 a0 j182_4 : Int) : f_X12_years_182b (V, x7, a0, j182_4) = f_X12_years_182c V x7 a0 j182_4 := rfl

noncomputable def f_X12_years_174 (V : dV) (a0 : Int) : Sum (dV × Int × Int × Int) (dR) :=
  dv_b2 (f_X12_bareMany V (a0)) fun x7 _ =>
  dv_lp (f_X12_years_182b) (V, x7, a0, 0)

noncomputable def f_X12_years_163 (V : dV) (a0 p2 j60_3 : Int) : Sum (dV × Int × Int × Int) (dR) :=
  dv_b2 (f_X12_yearPasses V (a0)) fun V164 x33 =>
  dv_b (j60_3 + 1) fun x35 =>
  Sum.inl (V164, a0, p2, x35)

noncomputable def f_X12_years_151 (V : dV) (x27 x19 a0 p2 j60_3 : Int) : Sum (dV × Int × Int × Int) (dR) :=
  if x27 ≠ 2 then (
  f_X12_years_163 (V) (a0) (p2) (j60_3)
  ) else (
  dv_b2 (f_X12_rolls V (a0) (x19)) fun V160 _ =>
  f_X12_years_163 (V160) (a0) (p2) (j60_3)
  )

noncomputable def f_X12_years_60c (V : dV) (a0 p2 j60_3 : Int) : Sum (dV × Int × Int × Int) (dR) :=
  if p2 ≤ j60_3 then (
  f_X12_years_174 (V) (a0)
  ) else (
  dv_b (V a0 2 (28)) fun x17 =>
  if 999 ≤ x17 then (
  f_X12_years_174 (V) (a0)
  ) else (
  dv_b2 (f_X12_many V (a0)) fun x18 _ =>
  dv_b2 (f_X12_draws V (a0) (x18)) fun V83 x19 =>
  dv_b (V83 a0 2 (67)) fun x21 =>
  dv_b2 (f_X12_draws V83 (a0) (x21)) fun V96 x22 =>
  dv_b (V96 a0 2 (68)) fun x24 =>
  dv_b2 (f_X12_draws V96 (a0) (x24)) fun V109 x25 =>
  dv_b2 (f_X12_draws V109 (a0) (3)) fun V116 x27 =>
  if 2 ≤ x27 then (
  f_X12_years_151 (V116) (x27) (x19) (a0) (p2) (j60_3)
  ) else (
  dv_b2 (f_X12_canLay V116 (a0) (x19) (x22) (x25)) fun V134 x37 =>
  if x37 = 0 then (
  f_X12_years_151 (V134) (x27) (x19) (a0) (p2) (j60_3)
  ) else (
  dv_b2 (f_X12_laysAt V134 (a0) (x19) (x22) (x25)) fun V147 x39 =>
  f_X12_years_151 (V147) (x27) (x19) (a0) (p2) (j60_3)
  )
  )
  )
  )
noncomputable def f_X12_years_60b (s : (dV × Int × Int × Int)) : Sum (dV × Int × Int × Int) (dR) := f_X12_years_60c (s.1) (s.2.1) (s.2.2.1) (s.2.2.2)

theorem f_X12_years_60e (V : dV) (a0 p2 j60_3 : Int) : f_X12_years_60b (V, a0, p2, j60_3) = f_X12_years_60c V a0 p2 j60_3 := rfl

noncomputable def f_X12_years (V : dV) (a0 p1 p2 : Int) : dR :=
  dv_b2 (f_X12_lies V (p1) (0) (1000000)) fun x1 _ =>
  if x1 = 0 then (
  f_X12_years_20 (V) (a0)
  ) else (
  dv_b2 (f_X12_lies V (p2) (1) (60)) fun x3 _ =>
  if x3 ≠ 0 then (
  dv_b2 (f_X12_many V (a0)) fun x4 _ =>
  if x4 ≠ 0 then (
  dv_b (dv_u V a0 56 0 (p1)) fun V42 =>
  dv_b2 (f_X12_many V42 (a0)) fun x5 _ =>
  dv_b (dv_u V42 a0 55 0 (x5)) fun V50 =>
  dv_b2 (f_X12_laysAside V50 (a0) (0)) fun V55 _ =>
  dv_lp (f_X12_years_60b) (V55, a0, p2, 0)
  ) else (
  dv_b2 (f_X12_refuses V (a0) ((-3))) fun V36 x41 =>
  (V36, x41)
  )
  ) else (
  f_X12_years_20 (V) (a0)
  )
  )

noncomputable def f_X12_isMovable (V : dV) (a0 p1 : Int) : dR :=
  dv_b (9 + p1) fun x2 =>
  dv_b (V a0 2 (x2)) fun x3 =>
  dv_b (18 + p1) fun x4 =>
  dv_b (V a0 2 (x4)) fun x5 =>
  dv_b2 (f_X12_rolls V (a0) (p1)) fun V22 _ =>
  dv_b2 (f_X12_fillsNow V22 (a0) (0)) fun V27 _ =>
  dv_b (9 + p1) fun x8 =>
  dv_b (dv_u V27 a0 2 (x8) (x3)) fun V39 =>
  dv_b (18 + p1) fun x10 =>
  dv_b (dv_u V39 a0 2 (x10) (x5)) fun V49 =>
  dv_b (V49 a0 41 0) fun zz1 =>
  if zz1 ≠ 1 then (
  (V49, 0)
  ) else (
  dv_b (V49 a0 42 0) fun zz2 =>
  if zz2 ≠ 1 then (
  (V49, 1)
  ) else (
  dv_b (V49 a0 37 (0)) fun x15 =>
  if x15 = p1 then (
  (V49, 0)
  ) else (
  (V49, 1)
  )
  )
  )

noncomputable def f_X12_free_4c (V : dV) (a0 j4_1 j4_2 : Int) : Sum (dV × Int × Int × Int) (dR) :=
  dv_b2 (f_X12_many V (a0)) fun x2 _ =>
  if x2 ≤ j4_2 then (
  Sum.inr ((V, j4_1))
  ) else (
  dv_b2 (f_X12_isLaid V (a0) (j4_2)) fun x3 _ =>
  if x3 = 0 then (
  dv_b (dv_or (j4_1) (0)) fun x4 =>
  dv_b (j4_2 + 1) fun x5 =>
  Sum.inl (V, a0, x4, x5)
  ) else (
  dv_b2 (f_X12_isMovable V (a0) (j4_2)) fun V23 x6 =>
  if x6 = 0 then (
  dv_b (dv_or (j4_1) (0)) fun x7 =>
  dv_b (j4_2 + 1) fun x8 =>
  Sum.inl (V23, a0, x7, x8)
  ) else (
  dv_b (dv_shl (1) (j4_2)) fun x9 =>
  dv_b (dv_or (j4_1) (x9)) fun x10 =>
  dv_b (j4_2 + 1) fun x11 =>
  Sum.inl (V23, a0, x10, x11)
  )
  )
  )
noncomputable def f_X12_free_4b (s : (dV × Int × Int × Int)) : Sum (dV × Int × Int × Int) (dR) := f_X12_free_4c (s.1) (s.2.1) (s.2.2.1) (s.2.2.2)

theorem f_X12_free_4e (V : dV) (a0 j4_1 j4_2 : Int) : f_X12_free_4b (V, a0, j4_1, j4_2) = f_X12_free_4c V a0 j4_1 j4_2 := rfl

noncomputable def f_X12_free (V : dV) (a0 : Int) : dR :=
  dv_lp (f_X12_free_4b) (V, a0, 0, 0)

noncomputable def f_X12_compare (V : dV) (a0 p1 : Int) : dR :=
  dv_b2 (f_X12_isLaw V (a0) (p1)) fun x1 _ =>
  if x1 ≠ 0 then (
  dv_b (V a0 2 (72)) fun x3 =>
  dv_b (dv_u V a0 2 (72) (p1)) fun V25 =>
  dv_b2 (f_X12_cheapest V25 (a0)) fun V27 x5 =>
  dv_b (dv_u V27 a0 2 (72) (x3)) fun V38 =>
  (V38, x5)
  ) else (
  (V, (-1))
  )

noncomputable def f_X12_goesAlong_234 (V : dV) (a0 s234_1 : Int) : Sum (dV × Int × Int × Int × Int) (dR) :=
  dv_b (dv_u V a0 52 0 (s234_1)) fun V234 =>
  dv_b (V234 a0 22 0) fun zz6 =>
  dv_b (zz6 + 1) fun x26 =>
  dv_b (dv_u V234 a0 22 0 (x26)) fun V244 =>
  Sum.inr ((V244, 0))

noncomputable def f_X12_goesAlong_233 (V : dV) (a0 : Int) : Sum (dV × Int × Int × Int × Int) (dR) :=
  f_X12_goesAlong_234 (V) (a0) (0)

noncomputable def f_X12_goesAlong_211 (V : dV) (a0 s211_1 : Int) : Sum (dV × Int × Int × Int × Int) (dR) :=
  dv_b (dv_u V a0 52 0 (s211_1)) fun V211 =>
  dv_b (V211 a0 52 0) fun zz5 =>
  if zz5 = 0 then (
  f_X12_goesAlong_233 (V211) (a0)
  ) else (
  dv_b (V211 a0 24 0) fun zz7 =>
  if zz7 ≠ 0 then (
  f_X12_goesAlong_233 (V211) (a0)
  ) else (
  f_X12_goesAlong_234 (V211) (a0) (1)
  )
  )

noncomputable def f_X12_goesAlong_206 (V : dV) (a0 : Int) : Sum (dV × Int × Int × Int × Int) (dR) :=
  f_X12_goesAlong_211 (V) (a0) (1)

noncomputable def f_X12_goesAlong_184 (V : dV) (a0 p2 : Int) : Sum (dV × Int × Int × Int × Int) (dR) :=
  dv_b (dv_u V a0 24 0 (0)) fun V186 =>
  dv_b2 (f_X12_passes0 V186 (a0) (4)) fun V192 x20 =>
  if x20 = 0 then (
  f_X12_goesAlong_206 (V192) (a0)
  ) else (
  dv_b2 (f_X12_testOf 8 V192 (a0) (p2)) fun V200 x29 =>
  if x29 = 0 then (
  f_X12_goesAlong_211 (V200) (a0) (0)
  ) else (
  f_X12_goesAlong_206 (V200) (a0)
  )
  )

noncomputable def f_X12_goesAlong_134 (V : dV) (s72_0 a0 p2 j76_4 s134_1 : Int) : Sum (dV × Int × Int × Int × Int) (dR) :=
  dv_b (dv_u V a0 51 0 (s134_1)) fun V134 =>
  dv_b (j76_4 + 1) fun x48 =>
  Sum.inl (V134, s72_0, a0, p2, x48)

noncomputable def f_X12_goesAlong_133 (V : dV) (s72_0 a0 p2 j76_4 : Int) : Sum (dV × Int × Int × Int × Int) (dR) :=
  f_X12_goesAlong_134 (V) (s72_0) (a0) (p2) (j76_4) (0)

noncomputable def f_X12_goesAlong_97 (V : dV) (s72_0 a0 p2 j76_4 : Int) : Sum (dV × Int × Int × Int × Int) (dR) :=
  dv_b (dv_u V a0 24 0 (0)) fun V99 =>
  dv_b2 (f_X12_sumOf 8 V99 (a0) (p2)) fun V110 y42 =>
  dv_b (dv_u V110 a0 53 (j76_4) (y42)) fun V113 =>
  dv_b (V113 a0 51 0) fun zz10 =>
  if zz10 = 0 then (
  f_X12_goesAlong_133 (V113) (s72_0) (a0) (p2) (j76_4)
  ) else (
  dv_b (V113 a0 24 0) fun zz11 =>
  if zz11 ≠ 0 then (
  f_X12_goesAlong_133 (V113) (s72_0) (a0) (p2) (j76_4)
  ) else (
  f_X12_goesAlong_134 (V113) (s72_0) (a0) (p2) (j76_4) (1)
  )
  )

noncomputable def f_X12_goesAlong_76c (V : dV) (s72_0 a0 p2 j76_4 : Int) : Sum (dV × Int × Int × Int × Int) (dR) :=
  if s72_0 ≤ j76_4 then (
  dv_b (dv_u V a0 49 0 (1)) fun V145 =>
  dv_b2 (f_X12_passes0 V145 (a0) (27)) fun V151 x17 =>
  if x17 = 0 then (
  f_X12_goesAlong_184 (V151) (a0) (p2)
  ) else (
  dv_b (V151 a0 22 0) fun zz8 =>
  dv_b (2880 + zz8) fun x33 =>
  dv_b (V151 a0 2 (x33)) fun x34 =>
  dv_b (dv_u V151 a0 49 0 (x34)) fun V171 =>
  dv_b (V171 a0 22 0) fun zz9 =>
  dv_b (zz9 + 1) fun x37 =>
  dv_b (dv_u V171 a0 22 0 (x37)) fun V181 =>
  f_X12_goesAlong_184 (V181) (a0) (p2)
  )
  ) else (
  if j76_4 ≤ 0 then (
  f_X12_goesAlong_97 (V) (s72_0) (a0) (p2) (j76_4)
  ) else (
  dv_b (V a0 22 0) fun zz12 =>
  dv_b (zz12 + 1) fun x52 =>
  dv_b (dv_u V a0 22 0 (x52)) fun V94 =>
  f_X12_goesAlong_97 (V94) (s72_0) (a0) (p2) (j76_4)
  )
  )
noncomputable def f_X12_goesAlong_76b (s : (dV × Int × Int × Int × Int)) : Sum (dV × Int × Int × Int × Int) (dR) := f_X12_goesAlong_76c (s.1) (s.2.1) (s.2.2.1) (s.2.2.2.1) (s.2.2.2.2)

theorem f_X12_goesAlong_76e (V : dV) (s72_0 a0 p2 j76_4 : Int) : f_X12_goesAlong_76b (V, s72_0, a0, p2, j76_4) = f_X12_goesAlong_76c V s72_0 a0 p2 j76_4 := rfl

noncomputable def f_X12_goesAlong_72 (V : dV) (a0 p2 s72_0 : Int) : dR :=
  dv_lp (f_X12_goesAlong_76b) (V, s72_0, a0, p2, 0)

noncomputable def f_X12_goesAlong (V : dV) (a0 p1 p2 : Int) : dR :=
  dv_b (dv_u V a0 25 0 (1)) fun V2 =>
  dv_b (dv_u V2 a0 23 0 (p1)) fun V7 =>
  dv_b (V7 a0 48 0) fun zz1 =>
  dv_b (dv_u V7 a0 22 0 (zz1)) fun V15 =>
  dv_b (V15 a0 22 0) fun zz2 =>
  dv_b2 (f_X12_codeAt V15 (a0) (zz2)) fun x5 _ =>
  dv_b (dv_u V15 a0 50 0 (x5)) fun V27 =>
  dv_b (V27 a0 22 0) fun zz3 =>
  dv_b (zz3 + 1) fun x9 =>
  dv_b (dv_u V27 a0 22 0 (x9)) fun V37 =>
  dv_b (dv_u V37 a0 51 0 (1)) fun V42 =>
  dv_b (V42 a0 50 0) fun zz4 =>
  if zz4 ≠ 21 then (
  dv_b (V42 a0 50 0) fun zz13 =>
  if zz13 ≠ 24 then (
  f_X12_goesAlong_72 (V42) (a0) (p2) (0)
  ) else (
  f_X12_goesAlong_72 (V42) (a0) (p2) (1)
  )
  ) else (
  f_X12_goesAlong_72 (V42) (a0) (p2) (3)
  )

noncomputable def f_X12_obeys_101 (V : dV) (x15 a0 s101_1 : Int) : dR :=
  dv_b (dv_u V a0 28 0 (s101_1)) fun V101 =>
  (V101, x15)

noncomputable def f_X12_obeys (V : dV) (a0 : Int) : dR :=
  dv_b (V a0 50 0) fun zz1 =>
  if zz1 = 24 then (
  dv_b (V a0 53 (0)) fun y3 =>
  dv_b2 (f_X12_small V (y3)) fun x4 _ =>
  dv_b2 (f_X12_rollsKept V (a0) (x4)) fun V42 x5 =>
  (V42, x5)
  ) else (
  if zz1 = 25 then (
  dv_b2 (f_X12_mirrorsKept V (a0)) fun V47 x6 =>
  (V47, x6)
  ) else (
  if zz1 = 26 then (
  dv_b2 (f_X12_passesKept V (a0)) fun V52 x7 =>
  (V52, x7)
  ) else (
  dv_b (V a0 53 (0)) fun y9 =>
  dv_b2 (f_X12_small V (y9)) fun x10 _ =>
  dv_b (V a0 53 (1)) fun y11 =>
  dv_b2 (f_X12_small V (y11)) fun x12 _ =>
  dv_b (V a0 53 (2)) fun y13 =>
  dv_b2 (f_X12_small V (y13)) fun x14 _ =>
  dv_b2 (f_X12_laysKept V (a0) (x10) (x12) (x14)) fun V84 x15 =>
  if 0 ≤ x15 then (
  f_X12_obeys_101 (V84) (x15) (a0) (x15)
  ) else (
  dv_b (V84 a0 28 0) fun zz2 =>
  f_X12_obeys_101 (V84) (x15) (a0) (zz2)
  )
  )))

noncomputable def f_X12_runs_67 (V : dV) (zz2 zz1 a0 p1 j19_4 : Int) : Sum (dV × Int × Int × Int × Int × Int) (dR) :=
  dv_b (j19_4 + 1) fun x5 =>
  Sum.inl (V, zz2, zz1, a0, p1, x5)

noncomputable def f_X12_runs_19c (V : dV) (zz2 zz1 a0 p1 j19_4 : Int) : Sum (dV × Int × Int × Int × Int × Int) (dR) :=
  if zz1 ≤ j19_4 then (
  dv_b (dv_u V a0 48 0 (zz2)) fun V75 =>
  Sum.inr ((V75, 1))
  ) else (
  dv_b2 (f_X12_goesAlong V (a0) (p1) (1)) fun V28 _ =>
  dv_b (V28 a0 52 0) fun zz3 =>
  if zz3 ≠ 0 then (
  dv_b (V28 a0 51 0) fun zz4 =>
  if zz4 = 0 then (
  Sum.inr ((V28, 0))
  ) else (
  dv_b2 (f_X12_obeys V28 (a0)) fun V49 x7 =>
  if 0 ≤ x7 then (
  dv_b (V49 a0 27 0) fun zz5 =>
  dv_b (dv_add (zz5) (1)) fun x11 =>
  dv_b (dv_u V49 a0 27 0 (x11)) fun V64 =>
  f_X12_runs_67 (V64) (zz2) (zz1) (a0) (p1) (j19_4)
  ) else (
  Sum.inr ((V49, 0))
  )
  )
  ) else (
  f_X12_runs_67 (V28) (zz2) (zz1) (a0) (p1) (j19_4)
  )
  )
noncomputable def f_X12_runs_19b (s : (dV × Int × Int × Int × Int × Int)) : Sum (dV × Int × Int × Int × Int × Int) (dR) := f_X12_runs_19c (s.1) (s.2.1) (s.2.2.1) (s.2.2.2.1) (s.2.2.2.2.1) (s.2.2.2.2.2)

theorem f_X12_runs_19e (V : dV) (zz2 zz1 a0 p1 j19_4 : Int) : f_X12_runs_19b (V, zz2, zz1, a0, p1, j19_4) = f_X12_runs_19c V zz2 zz1 a0 p1 j19_4 := rfl

noncomputable def f_X12_runs (V : dV) (a0 p1 : Int) : dR :=
  dv_b2 (f_X12_goesAlong V (a0) (p1) (0)) fun V3 _ =>
  dv_b (V3 a0 49 0) fun zz1 =>
  dv_b (V3 a0 22 0) fun zz2 =>
  dv_lp (f_X12_runs_19b) (V3, zz2, zz1, a0, p1, 0)

noncomputable def f_X12_orders_122c (V : dV) (zz1 a0 j95_3 j122_4 : Int) : Sum (dV × Int × Int × Int × Int) (Sum (dV × Int × Int × Int × Int) (Sum (dV × Int × Int) (dR))) :=
  if 480 ≤ j122_4 then (
  dv_b (dv_u V a0 33 0 (zz1)) fun V152 =>
  dv_b (dv_u V152 a0 47 0 (j95_3)) fun V157 =>
  dv_b2 (f_X12_refuses V157 (a0) ((-3))) fun V163 x18 =>
  Sum.inr (Sum.inr (Sum.inr ((V163, x18))))
  ) else (
  dv_b (V a0 32 (j122_4)) fun x21 =>
  dv_b (dv_u V a0 31 (j122_4) (x21)) fun V143 =>
  dv_b (j122_4 + 1) fun x24 =>
  Sum.inl (V143, zz1, a0, j95_3, x24)
  )
noncomputable def f_X12_orders_122b (s : (dV × Int × Int × Int × Int)) : Sum (dV × Int × Int × Int × Int) (Sum (dV × Int × Int × Int × Int) (Sum (dV × Int × Int) (dR))) := f_X12_orders_122c (s.1) (s.2.1) (s.2.2.1) (s.2.2.2.1) (s.2.2.2.2)

theorem f_X12_orders_122e (V : dV) (zz1 a0 j95_3 j122_4 : Int) : f_X12_orders_122b (V, zz1, a0, j95_3, j122_4) = f_X12_orders_122c V zz1 a0 j95_3 j122_4 := rfl

noncomputable def f_X12_orders_95c (V : dV) (x11 zz1 a0 j95_3 : Int) : Sum (dV × Int × Int × Int × Int) (Sum (dV × Int × Int) (dR)) :=
  dv_b (V a0 48 0) fun zz3 =>
  if x11 ≤ zz3 then (
  dv_b (V a0 27 0) fun zz4 =>
  dv_b2 (f_X12_good V (a0) (zz4)) fun V178 x15 =>
  Sum.inr (Sum.inr ((V178, x15)))
  ) else (
  dv_b2 (f_X12_runs V (a0) (x11)) fun V105 x17 =>
  if x17 = 0 then (
  dv_b2 (f_X12_takesBack V105 (a0) (1)) fun V116 _ =>
  dv_lp (f_X12_orders_122b) (V116, zz1, a0, j95_3, 0)
  ) else (
  dv_b (dv_add (j95_3) (1)) fun x25 =>
  Sum.inl (V105, x11, zz1, a0, x25)
  )
  )
noncomputable def f_X12_orders_95b (s : (dV × Int × Int × Int × Int)) : Sum (dV × Int × Int × Int × Int) (Sum (dV × Int × Int) (dR)) := f_X12_orders_95c (s.1) (s.2.1) (s.2.2.1) (s.2.2.2.1) (s.2.2.2.2)

theorem f_X12_orders_95e (V : dV) (x11 zz1 a0 j95_3 : Int) : f_X12_orders_95b (V, x11, zz1, a0, j95_3) = f_X12_orders_95c V x11 zz1 a0 j95_3 := rfl

noncomputable def f_X12_orders_27c (V : dV) (a0 j27_1 : Int) : Sum (dV × Int × Int) (dR) :=
  if 480 ≤ j27_1 then (
  dv_b (V a0 33 0) fun zz1 =>
  dv_b2 (f_X12_lays V (a0) (6)) fun V60 _ =>
  dv_b (dv_u V60 a0 27 0 (0)) fun V65 =>
  dv_b (dv_u V65 a0 28 0 ((-1))) fun V70 =>
  dv_b (dv_u V70 a0 48 0 (2400)) fun V77 =>
  dv_b (V77 a0 48 0) fun zz2 =>
  dv_b (V77 a0 2 (79)) fun x10 =>
  dv_b (2400 + x10) fun x11 =>
  dv_lp (f_X12_orders_95b) (V77, x11, zz1, a0, 0)
  ) else (
  dv_b (V a0 31 (j27_1)) fun x28 =>
  dv_b (dv_u V a0 32 (j27_1) (x28)) fun V45 =>
  dv_b (j27_1 + 1) fun x31 =>
  Sum.inl (V45, a0, x31)
  )
noncomputable def f_X12_orders_27b (s : (dV × Int × Int)) : Sum (dV × Int × Int) (dR) := f_X12_orders_27c (s.1) (s.2.1) (s.2.2)

theorem f_X12_orders_27e (V : dV) (a0 j27_1 : Int) : f_X12_orders_27b (V, a0, j27_1) = f_X12_orders_27c V a0 j27_1 := rfl

noncomputable def f_X12_orders (V : dV) (a0 : Int) : dR :=
  dv_b (dv_u V a0 47 0 ((-1))) fun V2 =>
  dv_b2 (f_X12_readsAs V2 (a0) (1)) fun V7 x1 =>
  if x1 ≠ 0 then (
  dv_b2 (f_X12_laysAside V7 (a0) (1)) fun V22 _ =>
  dv_lp (f_X12_orders_27b) (V22, a0, 0)
  ) else (
  dv_b2 (f_X12_refuses V7 (a0) ((-6))) fun V16 x32 =>
  (V16, x32)
  )




