section
abbrev th_sp : Type := Nat × Int × Int
abbrev th_De : Type := (Nat × List th_sp) ⊕ (Nat × Nat × Nat × (Nat → th_sp))
abbrev th_Ga : Type := Nat → Nat × Nat
abbrev th_G : Type := (va_G × (Nat → ClassId) × Nat) × (Int → Int → Prop)
/-- what a memo may say of a key -/
def th_pm (g : th_G) : Int → Int → Prop := Prod.snd g
/-- the same system, another such -/
def th_gp (g : th_G) (P : Int → Int → Prop) : th_G := (Prod.fst g, P)
def th_any : th_sp := (0, (-2147483648), 2147483647)
/-- a clause's marks: how often may be anything, all else is not below 0 -/
def th_esm (i : Nat) : th_sp := if i % 8 = 1 then (0, (-2147483648), 2147483647) else (0, 0, 2147483647)
def th_esk (i : Nat) : th_sp := if i < 29 then th_any else if i < 38 then (0, 0, 12) else if i < 67 then th_any else if i < 69 then (0, 0, 12) else if i = 69 then (0, 0, 9) else if i = 70 then (0, 0, 6) else if i = 71 then (0, 0, 6) else if i = 72 then (0, (-1), 5) else if i < 80 then (0, 0, 400) else th_any
def th_esi (i : Nat) : th_sp := th_esk (i % 5680)
def th_wl : List Int := [99, 111, 115, 116, 115, 32, 119, 101, 97, 114, 115, 32, 98, 97, 114, 115, 32, 105, 102, 32, 111, 114, 32, 97, 110, 100, 32, 110, 111, 116, 32, 99, 97, 114, 112, 101, 116, 32, 115, 105, 100, 101, 32, 107, 105, 110, 100, 32, 120, 32, 121, 32, 109, 111, 111, 100, 32, 112, 105, 108, 101, 32, 121, 101, 97, 114, 32, 100, 111, 110, 101, 32, 108, 97, 116, 101, 115, 116, 32, 98, 97, 114, 101, 32, 112, 97, 105, 100, 32, 108, 97, 105, 100, 32, 108, 97, 121, 32, 97, 116, 32, 98, 121, 32, 114, 111, 108, 108, 32, 109, 105, 114, 114, 111, 114, 32, 112, 97, 115, 115, 32, 116, 105, 109, 101, 115, 32]
def th_esw (i : Nat) : th_sp := (0, th_wl.getD i 0, th_wl.getD i 0)
abbrev th_f1 : List th_sp := [(4, 2, 0)]
abbrev th_f3 : List th_sp := [(4, 4, 0), (4, 5, 0), (4, 6, 0), (4, 7, 0), (4, 8, 0), (4, 9, 0), (4, 10, 0), (0, 0, 9), (0, 1, 12), (0, 1, 12), (0, (-2147483648), 2147483647)]
abbrev th_f11 : List th_sp := [(2, 23, 0)]
abbrev th_f12 : List th_sp := [(0, 10, 14), (5, 0, 0), (5, 0, 0), (5, 0, 0), (5, 0, 0), (0, 0, 8192), (0, 0, 1)]
abbrev th_f17 : List th_sp := [(4, 18, 0), (4, 19, 0), (2, 3, 0), (0, 0, 16), (0, 0, 16)]
abbrev th_f20 : List th_sp := [(4, 21, 0), (4, 22, 0), (3, 37, 0), (3, 39, 0), (0, 0, 1), (0, (-2147483648), 2147483647), (0, (-2147483648), 2147483647), (0, (-2147483648), 2147483647), (0, (-2147483648), 2147483647)]
abbrev th_f23 : List th_sp := [(4, 24, 0), (4, 25, 0), (4, 26, 0), (0, 0, 1)]
abbrev th_f27 : List th_sp := [(2, 12, 0), (4, 28, 0), (4, 29, 0), (4, 30, 0), (4, 31, 0), (0, (-2147483648), 2147483647), (0, (-2147483648), 2147483647), (3, 11, 0), (3, 3, 0), (3, 39, 0), (3, 32, 0), (0, (-2147483648), 2147483647), (0, 0, 1), (0, (-2147483648), 2147483647)]
abbrev th_f32 : List th_sp := [(2, 3, 0), (4, 33, 0), (4, 34, 0), (4, 35, 0), (4, 36, 0), (0, 0, 6), (0, (-2147483648), 2147483647), (0, 0, 6)]
abbrev th_f37 : List th_sp := [(4, 38, 0), (0, 0, 400)]
abbrev th_f39 : List th_sp := [(4, 40, 0), (4, 41, 0), (0, 0, 400), (0, 0, 12)]
abbrev th_f42 : List th_sp := [(2, 32, 0), (4, 43, 0), (4, 44, 0), (2, 3, 0), (2, 3, 0), (2, 37, 0), (2, 20, 0), (2, 39, 0), (2, 23, 0), (2, 11, 0), (2, 17, 0), (2, 27, 0), (2, 1, 0), (4, 45, 0), (0, (-2147483648), 2147483647), (0, (-2147483648), 2147483647), (0, (-2147483648), 2147483647), (0, (-2147483648), 2147483647)]
abbrev th_f46 : List th_sp := [(0, (-2147483648), 2147483647), (4, 47, 0), (4, 48, 0), (4, 49, 0), (4, 50, 0), (4, 51, 0), (0, (-2147483648), 2147483647), (4, 52, 0), (0, (-2147483648), 2147483647), (0, (-2147483648), 2147483647), (0, 0, 1), (4, 53, 0), (4, 54, 0), (0, 0, 400), (0, (-2147483648), 2147483647), (4, 55, 0), (4, 56, 0), (4, 57, 0), (0, 0, 400), (0, 0, 400), (0, (-2147483648), 2147483647), (0, (-1), 400), (0, (-2147483648), 2147483647), (0, (-2147483648), 2147483647), (0, 0, 1), (0, 0, 1), (4, 58, 0), (0, (-2147483648), 2147483647), (0, (-2147483648), 2147483647), (4, 59, 0), (4, 60, 0), (4, 61, 0), (4, 62, 0), (0, 0, 16), (4, 63, 0), (4, 64, 0), (4, 65, 0), (4, 66, 0), (4, 67, 0), (0, 0, 12), (0, 0, 12), (0, (-2147483648), 2147483647), (0, 0, 9), (0, (-2147483648), 2147483647), (0, 0, 1), (0, 0, 1), (4, 68, 0), (0, (-2147483648), 2147483647), (0, (-2147483648), 2147483647), (0, (-2147483648), 2147483647), (0, (-2147483648), 2147483647), (0, 0, 1), (0, 0, 1), (4, 69, 0), (4, 70, 0), (0, (-1), 9), (0, 0, 1000002)]
abbrev th_f71 : List th_sp := [(5, 0, 0)]
abbrev th_f72 : List th_sp := [(5, 0, 0), (5, 0, 0), (5, 0, 0), (5, 0, 0), (5, 0, 0), (5, 0, 0), (5, 0, 0), (5, 0, 0), (5, 0, 0), (5, 0, 0), (5, 0, 0)]
abbrev th_f73 : List th_sp := [(5, 0, 0)]
abbrev th_f74 : List th_sp := [(5, 0, 0), (5, 0, 0), (5, 0, 0), (5, 0, 0), (5, 0, 0), (5, 0, 0), (5, 0, 0)]
abbrev th_f75 : List th_sp := [(5, 0, 0), (5, 0, 0), (5, 0, 0), (5, 0, 0), (5, 0, 0)]
abbrev th_f76 : List th_sp := [(5, 0, 0), (5, 0, 0), (5, 0, 0), (5, 0, 0), (5, 0, 0), (5, 0, 0), (5, 0, 0), (5, 0, 0), (5, 0, 0)]
abbrev th_f77 : List th_sp := [(5, 0, 0), (5, 0, 0), (5, 0, 0), (5, 0, 0)]
abbrev th_f78 : List th_sp := [(5, 0, 0), (5, 0, 0), (5, 0, 0), (5, 0, 0), (5, 0, 0), (5, 0, 0), (5, 0, 0), (5, 0, 0), (5, 0, 0), (5, 0, 0), (5, 0, 0), (5, 0, 0), (5, 0, 0), (5, 0, 0)]
abbrev th_f79 : List th_sp := [(5, 0, 0), (5, 0, 0), (5, 0, 0), (5, 0, 0), (5, 0, 0), (5, 0, 0), (5, 0, 0), (5, 0, 0)]
abbrev th_f80 : List th_sp := [(5, 0, 0), (5, 0, 0)]
abbrev th_f81 : List th_sp := [(5, 0, 0), (5, 0, 0), (5, 0, 0), (5, 0, 0)]
abbrev th_f82 : List th_sp := [(5, 0, 0), (5, 0, 0), (5, 0, 0), (5, 0, 0), (5, 0, 0), (5, 0, 0), (5, 0, 0), (5, 0, 0), (5, 0, 0), (5, 0, 0), (5, 0, 0), (5, 0, 0), (5, 0, 0), (5, 0, 0), (5, 0, 0), (5, 0, 0), (5, 0, 0), (5, 0, 0)]
abbrev th_f83 : List th_sp := [(5, 0, 0), (5, 0, 0), (5, 0, 0), (5, 0, 0), (5, 0, 0), (5, 0, 0), (5, 0, 0), (5, 0, 0), (5, 0, 0), (5, 0, 0), (5, 0, 0), (5, 0, 0), (5, 0, 0), (5, 0, 0), (5, 0, 0), (5, 0, 0), (5, 0, 0), (5, 0, 0), (5, 0, 0), (5, 0, 0), (5, 0, 0), (5, 0, 0), (5, 0, 0), (5, 0, 0), (5, 0, 0), (5, 0, 0), (5, 0, 0), (5, 0, 0), (5, 0, 0), (5, 0, 0), (5, 0, 0), (5, 0, 0), (5, 0, 0), (5, 0, 0), (5, 0, 0), (5, 0, 0), (5, 0, 0), (5, 0, 0), (5, 0, 0), (5, 0, 0), (5, 0, 0), (5, 0, 0), (5, 0, 0), (5, 0, 0), (5, 0, 0), (5, 0, 0), (5, 0, 0), (5, 0, 0), (5, 0, 0), (5, 0, 0), (5, 0, 0), (5, 0, 0), (5, 0, 0), (5, 0, 0), (5, 0, 0), (5, 0, 0), (5, 0, 0)]
def th_rl : List th_De := [.inl (0, th_f1), .inr (1, 200, 200, fun _ => (1, (-9223372036854775808), 9223372036854775807)), .inl (1, th_f3), .inr (0, 9, 9, fun _ => (0, 0, 12)), .inr (0, 9, 9, fun _ => (0, (-2147483648), 2147483647)), .inr (0, 9, 9, fun _ => (0, (-2147483648), 2147483647)), .inr (0, 9, 9, fun _ => (0, (-2147483648), 2147483647)), .inr (0, 9, 9, fun _ => (0, (-2147483648), 2147483647)), .inr (0, 3, 3, fun _ => (0, (-2147483648), 2147483647)), .inr (0, 12, 12, fun _ => (0, (-2147483648), 2147483647)), .inl (2, th_f11), .inl (3, th_f12), .inr (1, 1024, 16384, fun _ => (1, (-9223372036854775808), 9223372036854775807)), .inr (0, 1024, 16384, fun _ => (0, (-2147483648), 2147483647)), .inr (0, 1024, 16384, fun _ => (0, (-2147483648), 2147483647)), .inr (0, 512, 8192, fun _ => (0, 0, 16383)), .inl (4, th_f17), .inr (0, 480, 480, fun _ => (0, (-2147483648), 2147483647)), .inr (0, 480, 480, fun _ => (0, (-2147483648), 2147483647)), .inl (5, th_f20), .inr (0, 401, 401, fun _ => (0, (-2147483648), 2147483647)), .inr (0, 401, 401, fun _ => (0, (-2147483648), 2147483647)), .inl (6, th_f23), .inr (1, 64, 64, fun _ => (1, (-9223372036854775808), 9223372036854775807)), .inr (0, 23, 23, fun _ => (0, (-2147483648), 2147483647)), .inr (0, 3, 3, fun _ => (0, (-2147483648), 2147483647)), .inl (7, th_f27), .inr (0, 1296, 1296, fun _ => (0, (-2147483648), 2147483647)), .inr (0, 1296, 1296, fun _ => (0, (-2147483648), 2147483647)), .inr (0, 1296, 1296, fun _ => (0, (-2147483648), 2147483647)), .inr (0, 9, 9, fun _ => (0, (-2147483648), 2147483647)), .inl (8, th_f32), .inr (4, 6, 6, fun _ => (2, 39, 0)), .inr (0, 6, 6, fun _ => (0, (-2147483648), 2147483647)), .inr (0, 6, 6, fun _ => (0, (-2147483648), 2147483647)), .inr (0, 6, 6, fun _ => (0, (-2147483648), 2147483647)), .inl (9, th_f37), .inr (0, 400, 400, fun _ => (0, (-2147483648), 2147483647)), .inl (10, th_f39), .inr (0, 400, 400, fun _ => (0, 0, 2147483647)), .inr (0, 96, 96, th_esm), .inl (11, th_f42), .inr (5, 2, 2, fun _ => (2, 32, 0)), .inr (2, 2, 2, fun _ => (0, 0, 1)), .inr (0, 5, 5, fun _ => (0, (-2147483648), 2147483647)), .inl (12, th_f46), .inr (0, 7, 7, fun _ => (0, (-2147483648), 2147483647)), .inr (0, 5680, 5680, th_esk), .inr (0, 11360, 11360, th_esi), .inr (2, 2, 2, fun _ => (0, 0, 1)), .inr (0, 58, 58, fun _ => (0, (-2147483648), 2147483647)), .inr (3, 127, 127, th_esw), .inr (3, 400, 400, fun _ => (0, (-128), 127)), .inr (0, 5, 5, fun _ => (0, (-2147483648), 2147483647)), .inr (0, 401, 401, fun _ => (0, (-2147483648), 2147483647)), .inr (0, 401, 401, fun _ => (0, (-2147483648), 2147483647)), .inr (0, 401, 401, fun _ => (0, 0, 400)), .inr (0, 8, 8, fun _ => (0, (-2147483648), 2147483647)), .inr (0, 12, 12, fun _ => (0, (-2147483648), 2147483647)), .inr (0, 9, 9, fun _ => (0, (-2147483648), 2147483647)), .inr (0, 480, 480, fun _ => (0, (-2147483648), 2147483647)), .inr (0, 480, 480, fun _ => (0, (-2147483648), 2147483647)), .inr (0, 1296, 1296, fun _ => (0, (-2147483648), 2147483647)), .inr (0, 9, 9, fun _ => (0, 0, 8)), .inr (0, 9, 9, fun _ => (0, 0, 143)), .inr (0, 9, 9, fun _ => (0, (-2147483648), 2147483647)), .inr (0, 1296, 1296, fun _ => (0, (-2147483648), 2147483647)), .inr (1, 21, 21, fun _ => (1, (-9223372036854775808), 9223372036854775807)), .inr (1, 3, 3, fun _ => (1, (-9223372036854775808), 9223372036854775807)), .inr (0, 29, 29, fun _ => (0, (-2147483648), 2147483647)), .inl (0, th_f71), .inl (1, th_f72), .inl (2, th_f73), .inl (3, th_f74), .inl (4, th_f75), .inl (5, th_f76), .inl (6, th_f77), .inl (7, th_f78), .inl (8, th_f79), .inl (9, th_f80), .inl (10, th_f81), .inl (11, th_f82), .inl (12, th_f83), .inr (4, 6, 6, fun _ => (5, 0, 0)), .inr (5, 2, 2, fun _ => (5, 0, 0)), .inr (0, 5680, 5680, fun _ => (5, 0, 0)), .inr (0, 11360, 11360, fun _ => (5, 0, 0)), .inr (3, 127, 127, fun _ => (5, 0, 0))]
def th_ro (r : Nat) : Option th_De := match r with | 0 => none | r + 1 => th_rl[r]?
theorem ro_1 : th_ro 1 = some (.inl (0, th_f1)) := rfl
theorem ro_2 : th_ro 2 = some (.inr (1, 200, 200, fun _ => (1, (-9223372036854775808), 9223372036854775807))) := rfl
theorem ro_3 : th_ro 3 = some (.inl (1, th_f3)) := rfl
theorem ro_4 : th_ro 4 = some (.inr (0, 9, 9, fun _ => (0, 0, 12))) := rfl
theorem ro_5 : th_ro 5 = some (.inr (0, 9, 9, fun _ => (0, (-2147483648), 2147483647))) := rfl
theorem ro_6 : th_ro 6 = some (.inr (0, 9, 9, fun _ => (0, (-2147483648), 2147483647))) := rfl
theorem ro_7 : th_ro 7 = some (.inr (0, 9, 9, fun _ => (0, (-2147483648), 2147483647))) := rfl
theorem ro_8 : th_ro 8 = some (.inr (0, 9, 9, fun _ => (0, (-2147483648), 2147483647))) := rfl
theorem ro_9 : th_ro 9 = some (.inr (0, 3, 3, fun _ => (0, (-2147483648), 2147483647))) := rfl
theorem ro_10 : th_ro 10 = some (.inr (0, 12, 12, fun _ => (0, (-2147483648), 2147483647))) := rfl
theorem ro_11 : th_ro 11 = some (.inl (2, th_f11)) := rfl
theorem ro_12 : th_ro 12 = some (.inl (3, th_f12)) := rfl
theorem ro_13 : th_ro 13 = some (.inr (1, 1024, 16384, fun _ => (1, (-9223372036854775808), 9223372036854775807))) := rfl
theorem ro_14 : th_ro 14 = some (.inr (0, 1024, 16384, fun _ => (0, (-2147483648), 2147483647))) := rfl
theorem ro_15 : th_ro 15 = some (.inr (0, 1024, 16384, fun _ => (0, (-2147483648), 2147483647))) := rfl
theorem ro_16 : th_ro 16 = some (.inr (0, 512, 8192, fun _ => (0, 0, 16383))) := rfl
theorem ro_17 : th_ro 17 = some (.inl (4, th_f17)) := rfl
theorem ro_18 : th_ro 18 = some (.inr (0, 480, 480, fun _ => (0, (-2147483648), 2147483647))) := rfl
theorem ro_19 : th_ro 19 = some (.inr (0, 480, 480, fun _ => (0, (-2147483648), 2147483647))) := rfl
theorem ro_20 : th_ro 20 = some (.inl (5, th_f20)) := rfl
theorem ro_21 : th_ro 21 = some (.inr (0, 401, 401, fun _ => (0, (-2147483648), 2147483647))) := rfl
theorem ro_22 : th_ro 22 = some (.inr (0, 401, 401, fun _ => (0, (-2147483648), 2147483647))) := rfl
theorem ro_23 : th_ro 23 = some (.inl (6, th_f23)) := rfl
theorem ro_24 : th_ro 24 = some (.inr (1, 64, 64, fun _ => (1, (-9223372036854775808), 9223372036854775807))) := rfl
theorem ro_25 : th_ro 25 = some (.inr (0, 23, 23, fun _ => (0, (-2147483648), 2147483647))) := rfl
theorem ro_26 : th_ro 26 = some (.inr (0, 3, 3, fun _ => (0, (-2147483648), 2147483647))) := rfl
theorem ro_27 : th_ro 27 = some (.inl (7, th_f27)) := rfl
theorem ro_28 : th_ro 28 = some (.inr (0, 1296, 1296, fun _ => (0, (-2147483648), 2147483647))) := rfl
theorem ro_29 : th_ro 29 = some (.inr (0, 1296, 1296, fun _ => (0, (-2147483648), 2147483647))) := rfl
theorem ro_30 : th_ro 30 = some (.inr (0, 1296, 1296, fun _ => (0, (-2147483648), 2147483647))) := rfl
theorem ro_31 : th_ro 31 = some (.inr (0, 9, 9, fun _ => (0, (-2147483648), 2147483647))) := rfl
theorem ro_32 : th_ro 32 = some (.inl (8, th_f32)) := rfl
theorem ro_33 : th_ro 33 = some (.inr (4, 6, 6, fun _ => (2, 39, 0))) := rfl
theorem ro_34 : th_ro 34 = some (.inr (0, 6, 6, fun _ => (0, (-2147483648), 2147483647))) := rfl
theorem ro_35 : th_ro 35 = some (.inr (0, 6, 6, fun _ => (0, (-2147483648), 2147483647))) := rfl
theorem ro_36 : th_ro 36 = some (.inr (0, 6, 6, fun _ => (0, (-2147483648), 2147483647))) := rfl
theorem ro_37 : th_ro 37 = some (.inl (9, th_f37)) := rfl
theorem ro_38 : th_ro 38 = some (.inr (0, 400, 400, fun _ => (0, (-2147483648), 2147483647))) := rfl
theorem ro_39 : th_ro 39 = some (.inl (10, th_f39)) := rfl
theorem ro_40 : th_ro 40 = some (.inr (0, 400, 400, fun _ => (0, 0, 2147483647))) := rfl
theorem ro_41 : th_ro 41 = some (.inr (0, 96, 96, th_esm)) := rfl
theorem ro_42 : th_ro 42 = some (.inl (11, th_f42)) := rfl
theorem ro_43 : th_ro 43 = some (.inr (5, 2, 2, fun _ => (2, 32, 0))) := rfl
theorem ro_44 : th_ro 44 = some (.inr (2, 2, 2, fun _ => (0, 0, 1))) := rfl
theorem ro_45 : th_ro 45 = some (.inr (0, 5, 5, fun _ => (0, (-2147483648), 2147483647))) := rfl
theorem ro_46 : th_ro 46 = some (.inl (12, th_f46)) := rfl
theorem ro_47 : th_ro 47 = some (.inr (0, 7, 7, fun _ => (0, (-2147483648), 2147483647))) := rfl
theorem ro_48 : th_ro 48 = some (.inr (0, 5680, 5680, th_esk)) := rfl
theorem ro_49 : th_ro 49 = some (.inr (0, 11360, 11360, th_esi)) := rfl
theorem ro_50 : th_ro 50 = some (.inr (2, 2, 2, fun _ => (0, 0, 1))) := rfl
theorem ro_51 : th_ro 51 = some (.inr (0, 58, 58, fun _ => (0, (-2147483648), 2147483647))) := rfl
theorem ro_52 : th_ro 52 = some (.inr (3, 127, 127, th_esw)) := rfl
theorem ro_53 : th_ro 53 = some (.inr (3, 400, 400, fun _ => (0, (-128), 127))) := rfl
theorem ro_54 : th_ro 54 = some (.inr (0, 5, 5, fun _ => (0, (-2147483648), 2147483647))) := rfl
theorem ro_55 : th_ro 55 = some (.inr (0, 401, 401, fun _ => (0, (-2147483648), 2147483647))) := rfl
theorem ro_56 : th_ro 56 = some (.inr (0, 401, 401, fun _ => (0, (-2147483648), 2147483647))) := rfl
theorem ro_57 : th_ro 57 = some (.inr (0, 401, 401, fun _ => (0, 0, 400))) := rfl
theorem ro_58 : th_ro 58 = some (.inr (0, 8, 8, fun _ => (0, (-2147483648), 2147483647))) := rfl
theorem ro_59 : th_ro 59 = some (.inr (0, 12, 12, fun _ => (0, (-2147483648), 2147483647))) := rfl
theorem ro_60 : th_ro 60 = some (.inr (0, 9, 9, fun _ => (0, (-2147483648), 2147483647))) := rfl
theorem ro_61 : th_ro 61 = some (.inr (0, 480, 480, fun _ => (0, (-2147483648), 2147483647))) := rfl
theorem ro_62 : th_ro 62 = some (.inr (0, 480, 480, fun _ => (0, (-2147483648), 2147483647))) := rfl
theorem ro_63 : th_ro 63 = some (.inr (0, 1296, 1296, fun _ => (0, (-2147483648), 2147483647))) := rfl
theorem ro_64 : th_ro 64 = some (.inr (0, 9, 9, fun _ => (0, 0, 8))) := rfl
theorem ro_65 : th_ro 65 = some (.inr (0, 9, 9, fun _ => (0, 0, 143))) := rfl
theorem ro_66 : th_ro 66 = some (.inr (0, 9, 9, fun _ => (0, (-2147483648), 2147483647))) := rfl
theorem ro_67 : th_ro 67 = some (.inr (0, 1296, 1296, fun _ => (0, (-2147483648), 2147483647))) := rfl
theorem ro_68 : th_ro 68 = some (.inr (1, 21, 21, fun _ => (1, (-9223372036854775808), 9223372036854775807))) := rfl
theorem ro_69 : th_ro 69 = some (.inr (1, 3, 3, fun _ => (1, (-9223372036854775808), 9223372036854775807))) := rfl
theorem ro_70 : th_ro 70 = some (.inr (0, 29, 29, fun _ => (0, (-2147483648), 2147483647))) := rfl
theorem ro_71 : th_ro 71 = some (.inl (0, th_f71)) := rfl
theorem ro_72 : th_ro 72 = some (.inl (1, th_f72)) := rfl
theorem ro_73 : th_ro 73 = some (.inl (2, th_f73)) := rfl
theorem ro_74 : th_ro 74 = some (.inl (3, th_f74)) := rfl
theorem ro_75 : th_ro 75 = some (.inl (4, th_f75)) := rfl
theorem ro_76 : th_ro 76 = some (.inl (5, th_f76)) := rfl
theorem ro_77 : th_ro 77 = some (.inl (6, th_f77)) := rfl
theorem ro_78 : th_ro 78 = some (.inl (7, th_f78)) := rfl
theorem ro_79 : th_ro 79 = some (.inl (8, th_f79)) := rfl
theorem ro_80 : th_ro 80 = some (.inl (9, th_f80)) := rfl
theorem ro_81 : th_ro 81 = some (.inl (10, th_f81)) := rfl
theorem ro_82 : th_ro 82 = some (.inl (11, th_f82)) := rfl
theorem ro_83 : th_ro 83 = some (.inl (12, th_f83)) := rfl
theorem ro_84 : th_ro 84 = some (.inr (4, 6, 6, fun _ => (5, 0, 0))) := rfl
theorem ro_85 : th_ro 85 = some (.inr (5, 2, 2, fun _ => (5, 0, 0))) := rfl
theorem ro_86 : th_ro 86 = some (.inr (0, 5680, 5680, fun _ => (5, 0, 0))) := rfl
theorem ro_87 : th_ro 87 = some (.inr (0, 11360, 11360, fun _ => (5, 0, 0))) := rfl
theorem ro_88 : th_ro 88 = some (.inr (3, 127, 127, fun _ => (5, 0, 0))) := rfl
abbrev th_cl : List vw_C := vwCl
def th_ty (cA : Nat → ClassId) : List (ClassId × FieldType) := [(cA 0, .int), (cA 1, .long), (cA 2, .boolean), (cA 3, .byte), (cA 4, .object "CarpetHalls$Text"), (cA 5, .object "CarpetHalls$Stand")]
end
section
section TH
/-- the value in slot i of the cell a -/
def th_sl (H : Heap) (a i : Nat) : Value := ((H[a]?).bind (fun c => c.slots[i]?)).getD .null
def th_ln (H : Heap) (a : Nat) : Nat := ((H[a]?).map (fun c => c.slots.size)).getD 0
/-- what a value must be: an int, a long of a range; a reference to a role; null or one; a reference to a role that the cell a owns; anything -/
def th_sat (Γ : th_Ga) (a : Nat) (q : th_sp) (v : Value) : Prop := match q.1 with
  | 0 => ∃ x : Int32, v = .int x ∧ q.2.1 ≤ x.toInt ∧ x.toInt ≤ q.2.2
  | 1 => ∃ x : Int64, v = .long x ∧ q.2.1 ≤ x.toInt ∧ x.toInt ≤ q.2.2
  | 2 => ∃ b : Nat, v = .ref b ∧ Γ b = (q.2.1.toNat, 0)
  | 3 => v = .null ∨ ∃ b : Nat, v = .ref b ∧ Γ b = (q.2.1.toNat, 0)
  | 4 => ∃ b : Nat, v = .ref b ∧ Γ b = (q.2.1.toNat, a)
  | _ => True
/-- the cell a is as its role says -/
def th_ok (G : th_G) (Γ : th_Ga) (H : Heap) (a : Nat) (d : th_De) : Prop := match d with
  | .inl (k, fs) => t_OB a (G.1.1.1 k) fs.length (G.1.1.2 k) H (fun j => th_sl H a (G.1.1.2 k j)) ∧ ∀ (j : Nat) (q : th_sp), fs[j]? = some q → th_sat Γ a q (th_sl H a (G.1.1.2 k j))
  | .inr (t, n1, n2, es) => ∃ n : Nat, n1 ≤ n ∧ n ≤ n2 ∧ H[a]? = some (arrV (G.1.2.1 t) n (th_sl H a)) ∧ ∀ i : Nat, i < n → th_sat Γ a (es i) (th_sl H a i)
def th_I (G : th_G) (Γ : th_Ga) (H : Heap) : Prop := ∀ (a r o : Nat) (d : th_De), Γ a = (r, o) → th_ro r = some d → G.1.2.2 ≤ a ∧ th_ok G Γ H a d
def th_in (L : List (Nat × Nat)) (r j : Nat) : Bool := L.contains (r, j)
/-- from H to H1 nothing has changed of what Γ names but the fields and arrays of L -/
def th_F (G : th_G) (Γ : th_Ga) (L : List (Nat × Nat)) (H H1 : Heap) : Prop := H.size ≤ H1.size ∧ ∀ (a r o : Nat) (d : th_De), Γ a = (r, o) → th_ro r = some d → th_ln H1 a = th_ln H a ∧ (match d with
  | .inl (k, fs) => ∀ j : Nat, j < fs.length → th_in L r j = false → th_sl H1 a (G.1.1.2 k j) = th_sl H a (G.1.1.2 k j)
  | .inr _ => th_in L r 0 = false → ∀ i : Nat, th_sl H1 a i = th_sl H a i)
theorem th_sl_at {H : Heap} {a i : Nat} {cell : Cell} {v : Value} (hc : H[a]? = some cell) (hv : cell.slots[i]? = some v) : th_sl H a i = v := by
  unfold th_sl; rw [hc]; simp [hv]
theorem th_sl_kept {H H1 : Heap} {a : Nat} (e : H1[a]? = H[a]?) (i : Nat) : th_sl H1 a i = th_sl H a i := by
  unfold th_sl; rw [e]
theorem th_ln_kept {H H1 : Heap} {a : Nat} (e : H1[a]? = H[a]?) : th_ln H1 a = th_ln H a := by
  unfold th_ln; rw [e]
theorem th_ln_at {H : Heap} {a : Nat} {cell : Cell} (hc : H[a]? = some cell) : th_ln H a = cell.slots.size := by
  unfold th_ln; rw [hc]; rfl
theorem th_arrV {cA : ClassId} {n : Nat} {f g : Nat → Value} (h : ∀ i, i < n → f i = g i) : arrV cA n f = arrV cA n g := by
  unfold arrV
  congr 1
  apply Array.ext
  · simp
  · intro i h1 h2
    simp only [Array.getElem_ofFn]
    exact h i (by simpa using h1)
theorem th_ok_kept {G : th_G} {Γ : th_Ga} {H H1 : Heap} {a : Nat} {d : th_De} (h : th_ok G Γ H a d) (e : H1[a]? = H[a]?) : th_ok G Γ H1 a d := by
  have hs : ∀ i, th_sl H1 a i = th_sl H a i := th_sl_kept e
  have hf : th_sl H1 a = th_sl H a := funext hs
  rcases d with ⟨k, fs⟩ | ⟨t, n1, n2, es⟩
  · obtain ⟨h1, h2⟩ := h
    refine ⟨?_, fun j q hq => ?_⟩
    · have h3 := h1.kept e
      simp only [hs]
      exact h3
    · rw [hs]; exact h2 j q hq
  · obtain ⟨n, h1, h2, h3, h4⟩ := h
    exact ⟨n, h1, h2, by rw [e, hf]; exact h3, fun i hi => by rw [hs]; exact h4 i hi⟩
theorem th_ok_lt {G : th_G} {Γ : th_Ga} {H : Heap} {a : Nat} {d : th_De} (h : th_ok G Γ H a d) : a < H.size := by
  rcases d with ⟨k, fs⟩ | ⟨t, n1, n2, es⟩
  · obtain ⟨⟨cell, h1, -⟩, -⟩ := h
    exact (Array.getElem?_eq_some_iff.mp h1).1
  · obtain ⟨n, -, -, h3, -⟩ := h
    exact (Array.getElem?_eq_some_iff.mp h3).1
/-- the store of v into slot i of the cell a -/
def th_St (H H1 : Heap) (a i : Nat) (v : Value) : Prop := H1.size = H.size ∧ th_sl H1 a i = v ∧ (∀ j, j ≠ i → th_sl H1 a j = th_sl H a j) ∧ (∀ q, q ≠ a → H1[q]? = H[q]?) ∧ th_ln H1 a = th_ln H a
theorem th_St_of {H H1 : Heap} {a i : Nat} {v : Value} {cell : Cell} (hc : H[a]? = some cell) (hi : i < cell.slots.size) (e1 : H1[a]? = some (cell.setSlot i v)) (z : H1.size = H.size) (oq : ∀ q, q ≠ a → H1[q]? = H[q]?) : th_St H H1 a i v := by
  refine ⟨z, th_sl_at e1 (Cell.slots_setSlot_self _ hi), fun j hj => ?_, oq, ?_⟩
  · unfold th_sl
    rw [e1, hc]
    show ((cell.setSlot i v).slots[j]?).getD .null = (cell.slots[j]?).getD .null
    rw [slot_ne _ _ (Ne.symm hj)]
  · rw [th_ln_at e1, th_ln_at hc]
    simp [Cell.setSlot]
theorem th_I_put {G : th_G} {Γ : th_Ga} {H H1 : Heap} (hI : th_I G Γ H) {a r o k j : Nat} {fs : List th_sp} {cell : Cell} {v : Value} (ha : Γ a = (r, o)) (hr : th_ro r = some (.inl (k, fs))) (hc : H[a]? = some cell) (hj : j < fs.length)
    (hap : ∀ x y, x < fs.length → y < fs.length → x ≠ y → G.1.1.2 k x ≠ G.1.1.2 k y) (e1 : H1[a]? = some (cell.setSlot (G.1.1.2 k j) v)) (oq : ∀ q, q ≠ a → H1[q]? = H[q]?) (hv : ∀ q, fs[j]? = some q → th_sat Γ a q v) : th_I G Γ H1 := by
  intro a' r' o' d hg hd
  obtain ⟨h1, h2⟩ := hI a' r' o' d hg hd
  refine ⟨h1, ?_⟩
  by_cases hq : a' = a
  · subst hq
    rw [ha] at hg
    cases hg
    rw [hr] at hd
    cases hd
    obtain ⟨⟨cell', c1, c2, c3, c4⟩, h4⟩ := h2
    cases hc.symm.trans c1
    have hs := t_set c4 hap hj v
    have hn : ∀ x, x < fs.length → th_sl H1 a' (G.1.1.2 k x) = updV (fun j => th_sl H a' (G.1.1.2 k j)) j v x := fun x hx => th_sl_at e1 (hs x hx)
    refine ⟨⟨_, e1, c2, c3, fun x hx => ?_⟩, fun x q hq => ?_⟩
    · rw [hs x hx]
      exact congrArg some (hn x hx).symm
    · have hx : x < fs.length := (List.getElem?_eq_some_iff.mp hq).1
      rw [hn x hx]
      by_cases hxj : x = j
      · subst hxj
        simp only [updV, if_true]
        exact hv q hq
      · simp only [updV, if_neg hxj]
        exact h4 x q hq
  · exact th_ok_kept h2 (oq a' hq)
theorem th_I_sto {G : th_G} {Γ : th_Ga} {H H1 : Heap} (hI : th_I G Γ H) {a r o t n1 n2 n i : Nat} {es : Nat → th_sp} {v : Value} (ha : Γ a = (r, o)) (hr : th_ro r = some (.inr (t, n1, n2, es))) (hc : H[a]? = some (arrV (G.1.2.1 t) n (th_sl H a))) (hi : i < n)
    (e1 : H1[a]? = some ((arrV (G.1.2.1 t) n (th_sl H a)).setSlot i v)) (oq : ∀ q, q ≠ a → H1[q]? = H[q]?) (hv : th_sat Γ a (es i) v) : th_I G Γ H1 := by
  intro a' r' o' d hg hd
  obtain ⟨h1, h2⟩ := hI a' r' o' d hg hd
  refine ⟨h1, ?_⟩
  by_cases hq : a' = a
  · subst hq
    rw [ha] at hg
    cases hg
    rw [hr] at hd
    cases hd
    obtain ⟨n', g1, g2, g3, g4⟩ := h2
    have hnn : n' = n := by
      have h5 := congrArg (fun c : Cell => c.slots.size) (Option.some.inj (g3.symm.trans hc))
      simpa [arrV_size] using h5
    subst hnn
    rw [arrV_store] at e1
    have hn : ∀ x, x < n' → th_sl H1 a' x = updV (th_sl H a') i v x := fun x hx => th_sl_at e1 (arrV_read _ _ hx)
    refine ⟨n', g1, g2, ?_, fun x hx => ?_⟩
    · rw [e1]
      exact congrArg some (th_arrV (fun x hx => (hn x hx).symm))
    · rw [hn x hx]
      by_cases hxj : x = i
      · subst hxj
        simp only [updV, if_true]
        exact hv
      · simp only [updV, if_neg hxj]
        exact g4 x hx
  · exact th_ok_kept h2 (oq a' hq)
theorem th_F_rf {G : th_G} {Γ : th_Ga} {L : List (Nat × Nat)} {H : Heap} : th_F G Γ L H H := by
  refine ⟨Nat.le_refl _, fun a r o d hg hd => ⟨rfl, ?_⟩⟩
  rcases d with ⟨k, fs⟩ | ⟨t, n1, n2, es⟩
  · exact fun _ _ _ => rfl
  · exact fun _ _ => rfl
theorem th_F_tr {G : th_G} {Γ : th_Ga} {L L1 : List (Nat × Nat)} {H H1 H2 : Heap} (h : th_F G Γ L H H1) (h1 : th_F G Γ L1 H1 H2) (hs : L1.all (fun q => L.contains q) = true) : th_F G Γ L H H2 := by
  have hs' : ∀ r j, th_in L r j = false → th_in L1 r j = false := by
    intro r j hf
    cases ht : th_in L1 r j with
    | false => rfl
    | true =>
      have h3 := List.all_eq_true.mp hs (r, j) (by simpa [th_in] using ht)
      have h4 : th_in L r j = true := h3
      rw [hf] at h4
      cases h4
  refine ⟨Nat.le_trans h.1 h1.1, fun a r o d hg hd => ?_⟩
  obtain ⟨a1, a2⟩ := h.2 a r o d hg hd
  obtain ⟨b1, b2⟩ := h1.2 a r o d hg hd
  refine ⟨b1.trans a1, ?_⟩
  rcases d with ⟨k, fs⟩ | ⟨t, n1, n2, es⟩
  · exact fun j hj hf => (b2 j hj (hs' r j hf)).trans (a2 j hj hf)
  · exact fun hf i => (b2 (hs' r 0 hf) i).trans (a2 hf i)
theorem th_F_put {G : th_G} {Γ : th_Ga} {L : List (Nat × Nat)} {H0 H H1 : Heap} (h : th_F G Γ L H0 H) {a r o k j : Nat} {fs : List th_sp} {v : Value} (ha : Γ a = (r, o)) (hr : th_ro r = some (.inl (k, fs))) (hj : j < fs.length)
    (hap : ∀ x y, x < fs.length → y < fs.length → x ≠ y → G.1.1.2 k x ≠ G.1.1.2 k y) (hst : th_St H H1 a (G.1.1.2 k j) v) (hL : th_in L r j = true) : th_F G Γ L H0 H1 := by
  obtain ⟨z, -, s2, s3, s4⟩ := hst
  refine ⟨by rw [z]; exact h.1, fun a' r' o' d hg hd => ?_⟩
  obtain ⟨a1, a2⟩ := h.2 a' r' o' d hg hd
  by_cases hq : a' = a
  · subst hq
    rw [ha] at hg
    cases hg
    rw [hr] at hd
    cases hd
    refine ⟨s4.trans a1, fun x hx hf => ?_⟩
    have hxj : x ≠ j := fun e => by rw [e, hL] at hf; cases hf
    rw [s2 _ (hap x j hx hj hxj)]
    exact a2 x hx hf
  · have e := s3 a' hq
    refine ⟨(th_ln_kept e).trans a1, ?_⟩
    rcases d with ⟨k, fs⟩ | ⟨t, n1, n2, es⟩
    · exact fun x hx hf => (th_sl_kept e _).trans (a2 x hx hf)
    · exact fun hf i => (th_sl_kept e _).trans (a2 hf i)
theorem th_F_sto {G : th_G} {Γ : th_Ga} {L : List (Nat × Nat)} {H0 H H1 : Heap} (h : th_F G Γ L H0 H) {a r o i : Nat} {x : Nat × Nat × Nat × (Nat → th_sp)} {v : Value} (ha : Γ a = (r, o)) (hr : th_ro r = some (.inr x))
    (hst : th_St H H1 a i v) (hL : th_in L r 0 = true) : th_F G Γ L H0 H1 := by
  obtain ⟨z, -, s2, s3, s4⟩ := hst
  refine ⟨by rw [z]; exact h.1, fun a' r' o' d hg hd => ?_⟩
  obtain ⟨a1, a2⟩ := h.2 a' r' o' d hg hd
  by_cases hq : a' = a
  · subst hq
    rw [ha] at hg
    cases hg
    rw [hr] at hd
    cases hd
    refine ⟨s4.trans a1, fun hf => ?_⟩
    rw [hL] at hf
    cases hf
  · have e := s3 a' hq
    refine ⟨(th_ln_kept e).trans a1, ?_⟩
    rcases d with ⟨k, fs⟩ | ⟨t, n1, n2, es⟩
    · exact fun x hx hf => (th_sl_kept e _).trans (a2 x hx hf)
    · exact fun hf i => (th_sl_kept e _).trans (a2 hf i)
theorem th_F_new {G : th_G} {Γ : th_Ga} {L : List (Nat × Nat)} {H0 H H1 : Heap} (h : th_F G Γ L H0 H) {a i : Nat} {v : Value} (ha : th_ro (Γ a).1 = none) (hst : th_St H H1 a i v) : th_F G Γ L H0 H1 := by
  obtain ⟨z, -, s2, s3, s4⟩ := hst
  refine ⟨by rw [z]; exact h.1, fun a' r' o' d hg hd => ?_⟩
  obtain ⟨a1, a2⟩ := h.2 a' r' o' d hg hd
  have hq : a' ≠ a := fun e => by
    subst e
    rw [hg] at ha
    rw [hd] at ha
    cases ha
  have e := s3 a' hq
  refine ⟨(th_ln_kept e).trans a1, ?_⟩
  rcases d with ⟨k, fs⟩ | ⟨t, n1, n2, es⟩
  · exact fun x hx hf => (th_sl_kept e _).trans (a2 x hx hf)
  · exact fun hf i => (th_sl_kept e _).trans (a2 hf i)
end TH
end
section
section TI
theorem ti_bmod {n : Int} (h1 : -2147483648 ≤ n) (h2 : n ≤ 2147483647) : n.bmod (2 ^ 32) = n := by
  apply Int.bmod_eq_of_le <;> omega
theorem ti_add {x y : Int32} {a b : Int} (ha : x.toInt = a) (hb : y.toInt = b) (h1 : -2147483648 ≤ a + b) (h2 : a + b ≤ 2147483647) : (x + y).toInt = a + b := by
  rw [Int32.toInt_add, ha, hb]; exact ti_bmod h1 h2
theorem ti_sub {x y : Int32} {a b : Int} (ha : x.toInt = a) (hb : y.toInt = b) (h1 : -2147483648 ≤ a - b) (h2 : a - b ≤ 2147483647) : (x - y).toInt = a - b := by
  rw [Int32.toInt_sub, ha, hb]; exact ti_bmod h1 h2
theorem ti_mul {x y : Int32} {a b : Int} (ha : x.toInt = a) (hb : y.toInt = b) (h1 : -2147483648 ≤ a * b) (h2 : a * b ≤ 2147483647) : (x * y).toInt = a * b := by
  rw [Int32.toInt_mul, ha, hb]; exact ti_bmod h1 h2
theorem ti_neg {x : Int32} {a : Int} (ha : x.toInt = a) (h1 : -2147483648 ≤ -a) (h2 : -a ≤ 2147483647) : (-x).toInt = -a := by
  rw [Int32.toInt_neg, ha]; exact ti_bmod h1 h2
theorem ti_lo (x : Int32) : -2147483648 ≤ x.toInt := by have := Int32.le_toInt x; omega
theorem ti_hi (x : Int32) : x.toInt ≤ 2147483647 := by have := Int32.toInt_lt x; omega
theorem ti_div {x y : Int32} {a b : Int} (ha : x.toInt = a) (hb : y.toInt = b) (h0 : 0 ≤ a) (h1 : 0 < b) : (x / y).toInt = a / b := by
  have hx := ti_hi x
  rw [Int32.toInt_div, ha, hb, Int.tdiv_eq_ediv_of_nonneg h0]
  have h2 : 0 ≤ a / b := Int.ediv_nonneg h0 (by omega)
  have h3 : a / b ≤ a := Int.ediv_le_self b h0
  exact ti_bmod (by omega) (by omega)
theorem ti_rem {x y : Int32} {a b : Int} (ha : x.toInt = a) (hb : y.toInt = b) (h0 : 0 ≤ a) (h1 : 0 < b) : (x - x / y * y).toInt = a % b := by
  have hx := ti_hi x
  have hd := ti_div ha hb h0 h1
  have h2 : 0 ≤ a / b := Int.ediv_nonneg h0 (by omega)
  have h4 := Int.emod_add_mul_ediv a b
  have h5 := Int.emod_nonneg a (show b ≠ 0 by omega)
  have h6 : 0 ≤ b * (a / b) := Int.mul_nonneg (by omega) h2
  have e : (a / b) * b = b * (a / b) := Int.mul_comm _ _
  have hm := ti_mul hd hb (by omega) (by omega)
  rw [ti_sub ha hm (by omega) (by omega)]
  omega
theorem ti_lt {x y : Int32} (h : x < y) : x.toInt < y.toInt := Int32.lt_iff_toInt_lt.mp h
theorem ti_le {x y : Int32} (h : x ≤ y) : x.toInt ≤ y.toInt := Int32.le_iff_toInt_le.mp h
theorem ti_nlt {x y : Int32} (h : ¬ x < y) : y.toInt ≤ x.toInt := by
  have := mt (Int32.lt_iff_toInt_lt (x := x) (y := y)).mpr h
  omega
theorem ti_nle {x y : Int32} (h : ¬ x ≤ y) : y.toInt < x.toInt := by
  have := mt (Int32.le_iff_toInt_le (x := x) (y := y)).mpr h
  omega
theorem ti_ne {x y : Int32} (h : ¬ x = y) : x.toInt ≠ y.toInt := fun e => h (Int32.toInt_inj.mp e)
theorem ti_in {x : Int32} {n : Nat} (h0 : 0 ≤ x.toInt) (h1 : x.toInt < n) : vp_in x n := vp_in_iff.mpr ⟨h0, h1⟩
theorem ti_cl {x : Int32} (h0 : 0 ≤ x.toInt) : (x.toNatClampNeg : Int) = x.toInt := by
  rw [Int32.toNatClampNeg, Int.toNat_of_nonneg h0]
theorem ti_mulr {a b A B : Int} (h0 : 0 ≤ a) (h1 : a ≤ A) (h2 : 0 ≤ b) (h3 : b ≤ B) : 0 ≤ a * b ∧ a * b ≤ A * B :=
  ⟨Int.mul_nonneg h0 h2, Int.mul_le_mul h1 h3 h2 (by omega)⟩
theorem ti_min {x y : Int32} {a b : Int} (ha : x.toInt = a) (hb : y.toInt = b) : (if x ≤ y then x else y).toInt = min a b := by
  split
  · rename_i h; have := ti_le h; omega
  · rename_i h; have := ti_nle h; omega
end TI
end
section
section TR
variable {p : Program} {l : Launch} {e : Env} {R : Room} {s : State} {m : MethodId} {args : Array Value} {below : List Frame} {meth : Method} {c : Code} {H : Heap} {locs : List Loc} {cells slots : Nat} {Q : State → Prop}
variable {cc : ByteArray} {pc : Nat} {ls : Array Slot} {rest : List Value}
theorem tr_iadd (hexec : p.tables.exec = Jvm.exec) (hb : c.code = cc) {x y : Int32} {a b : Int} (hdg : decode cc pc = .ok (.iadd, 1)) (ha : x.toInt = a) (hy : y.toInt = b) (h1 : -2147483648 ≤ a + b) (h2 : a + b ≤ 2147483647)
    (kk : ∀ z : Int32, z.toInt = a + b → W p l e R s m args below meth c H locs cells slots Q (F0 m (pc + 1) ls (.int z :: rest))) : W p l e R s m args below meth c H locs cells slots Q (F0 m pc ls (.int y :: .int x :: rest)) :=
  lv_iadd hexec hb hdg (kk _ (ti_add ha hy h1 h2))
theorem tr_isub (hexec : p.tables.exec = Jvm.exec) (hb : c.code = cc) {x y : Int32} {a b : Int} (hdg : decode cc pc = .ok (.isub, 1)) (ha : x.toInt = a) (hy : y.toInt = b) (h1 : -2147483648 ≤ a - b) (h2 : a - b ≤ 2147483647)
    (kk : ∀ z : Int32, z.toInt = a - b → W p l e R s m args below meth c H locs cells slots Q (F0 m (pc + 1) ls (.int z :: rest))) : W p l e R s m args below meth c H locs cells slots Q (F0 m pc ls (.int y :: .int x :: rest)) :=
  lv_isub hexec hb hdg (kk _ (ti_sub ha hy h1 h2))
theorem tr_imul (hexec : p.tables.exec = Jvm.exec) (hb : c.code = cc) {x y : Int32} {a b : Int} (hdg : decode cc pc = .ok (.imul, 1)) (ha : x.toInt = a) (hy : y.toInt = b) (h1 : -2147483648 ≤ a * b) (h2 : a * b ≤ 2147483647)
    (kk : ∀ z : Int32, z.toInt = a * b → W p l e R s m args below meth c H locs cells slots Q (F0 m (pc + 1) ls (.int z :: rest))) : W p l e R s m args below meth c H locs cells slots Q (F0 m pc ls (.int y :: .int x :: rest)) :=
  lv_imul hexec hb hdg (kk _ (ti_mul ha hy h1 h2))
theorem tr_idiv (hexec : p.tables.exec = Jvm.exec) (hb : c.code = cc) {x y : Int32} {a b : Int} (hdg : decode cc pc = .ok (.idiv, 1)) (ha : x.toInt = a) (hy : y.toInt = b) (h1 : 0 ≤ a) (h2 : 0 < b)
    (kk : ∀ z : Int32, z.toInt = a / b → W p l e R s m args below meth c H locs cells slots Q (F0 m (pc + 1) ls (.int z :: rest))) : W p l e R s m args below meth c H locs cells slots Q (F0 m pc ls (.int y :: .int x :: rest)) :=
  lv_idiv hexec hb hdg (fun e => by rw [e] at hy; have h0 : (0 : Int32).toInt = 0 := rfl; omega) (kk _ (ti_div ha hy h1 h2))
theorem tr_irem (hexec : p.tables.exec = Jvm.exec) (hb : c.code = cc) {x y : Int32} {a b : Int} (hdg : decode cc pc = .ok (.irem, 1)) (ha : x.toInt = a) (hy : y.toInt = b) (h1 : 0 ≤ a) (h2 : 0 < b)
    (kk : ∀ z : Int32, z.toInt = a % b → W p l e R s m args below meth c H locs cells slots Q (F0 m (pc + 1) ls (.int z :: rest))) : W p l e R s m args below meth c H locs cells slots Q (F0 m pc ls (.int y :: .int x :: rest)) :=
  lv_irem hexec hb hdg (fun e => by rw [e] at hy; have h0 : (0 : Int32).toInt = 0 := rfl; omega) (kk _ (ti_rem ha hy h1 h2))
theorem tr_icmp_lt (hexec : p.tables.exec = Jvm.exec) (hb : c.code = cc) {x y : Int32} {a b off : Int} {tgt : Nat} (hdg : decode cc pc = .ok (.if_icmp .lt off, 3)) (ht : (pc : Int) + off = (tgt : Int)) (ha : x.toInt = a) (hy : y.toInt = b)
    (kt : a < b → W p l e R s m args below meth c H locs cells slots Q (F0 m tgt ls rest)) (kf : b ≤ a → W p l e R s m args below meth c H locs cells slots Q (F0 m (pc + 3) ls rest)) : W p l e R s m args below meth c H locs cells slots Q (F0 m pc ls (.int y :: .int x :: rest)) :=
  lv_icmp_lt hexec hb hdg ht (fun q => kt (by have := ti_lt q; omega)) (fun q => kf (by have := ti_nlt q; omega))
theorem tr_icmp_ge (hexec : p.tables.exec = Jvm.exec) (hb : c.code = cc) {x y : Int32} {a b off : Int} {tgt : Nat} (hdg : decode cc pc = .ok (.if_icmp .ge off, 3)) (ht : (pc : Int) + off = (tgt : Int)) (ha : x.toInt = a) (hy : y.toInt = b)
    (kt : b ≤ a → W p l e R s m args below meth c H locs cells slots Q (F0 m tgt ls rest)) (kf : a < b → W p l e R s m args below meth c H locs cells slots Q (F0 m (pc + 3) ls rest)) : W p l e R s m args below meth c H locs cells slots Q (F0 m pc ls (.int y :: .int x :: rest)) :=
  lv_icmp_ge hexec hb hdg ht (fun q => kt (by have := ti_le q; omega)) (fun q => kf (by have := ti_nle q; omega))
theorem tr_icmp_gt (hexec : p.tables.exec = Jvm.exec) (hb : c.code = cc) {x y : Int32} {a b off : Int} {tgt : Nat} (hdg : decode cc pc = .ok (.if_icmp .gt off, 3)) (ht : (pc : Int) + off = (tgt : Int)) (ha : x.toInt = a) (hy : y.toInt = b)
    (kt : b < a → W p l e R s m args below meth c H locs cells slots Q (F0 m tgt ls rest)) (kf : a ≤ b → W p l e R s m args below meth c H locs cells slots Q (F0 m (pc + 3) ls rest)) : W p l e R s m args below meth c H locs cells slots Q (F0 m pc ls (.int y :: .int x :: rest)) :=
  lv_icmp_gt hexec hb hdg ht (fun q => kt (by have := ti_lt q; omega)) (fun q => kf (by have := ti_nlt q; omega))
theorem tr_icmp_le (hexec : p.tables.exec = Jvm.exec) (hb : c.code = cc) {x y : Int32} {a b off : Int} {tgt : Nat} (hdg : decode cc pc = .ok (.if_icmp .le off, 3)) (ht : (pc : Int) + off = (tgt : Int)) (ha : x.toInt = a) (hy : y.toInt = b)
    (kt : a ≤ b → W p l e R s m args below meth c H locs cells slots Q (F0 m tgt ls rest)) (kf : b < a → W p l e R s m args below meth c H locs cells slots Q (F0 m (pc + 3) ls rest)) : W p l e R s m args below meth c H locs cells slots Q (F0 m pc ls (.int y :: .int x :: rest)) :=
  lv_icmp_le hexec hb hdg ht (fun q => kt (by have := ti_le q; omega)) (fun q => kf (by have := ti_nle q; omega))
theorem tr_icmp_eq (hexec : p.tables.exec = Jvm.exec) (hb : c.code = cc) {x y : Int32} {a b off : Int} {tgt : Nat} (hdg : decode cc pc = .ok (.if_icmp .eq off, 3)) (ht : (pc : Int) + off = (tgt : Int)) (ha : x.toInt = a) (hy : y.toInt = b)
    (kt : a = b → W p l e R s m args below meth c H locs cells slots Q (F0 m tgt ls rest)) (kf : a ≠ b → W p l e R s m args below meth c H locs cells slots Q (F0 m (pc + 3) ls rest)) : W p l e R s m args below meth c H locs cells slots Q (F0 m pc ls (.int y :: .int x :: rest)) :=
  lv_icmp_eq hexec hb hdg ht (fun q => kt (by rw [← ha, ← hy, q])) (fun q => kf (by have := ti_ne q; omega))
theorem tr_icmp_ne (hexec : p.tables.exec = Jvm.exec) (hb : c.code = cc) {x y : Int32} {a b off : Int} {tgt : Nat} (hdg : decode cc pc = .ok (.if_icmp .ne off, 3)) (ht : (pc : Int) + off = (tgt : Int)) (ha : x.toInt = a) (hy : y.toInt = b)
    (kt : a ≠ b → W p l e R s m args below meth c H locs cells slots Q (F0 m tgt ls rest)) (kf : a = b → W p l e R s m args below meth c H locs cells slots Q (F0 m (pc + 3) ls rest)) : W p l e R s m args below meth c H locs cells slots Q (F0 m pc ls (.int y :: .int x :: rest)) :=
  lv_icmp_ne hexec hb hdg ht (fun q => kt (by have := ti_ne q; omega)) (fun q => kf (by rw [← ha, ← hy, q]))
theorem tr_if_lt (hexec : p.tables.exec = Jvm.exec) (hb : c.code = cc) {x : Int32} {a off : Int} {tgt : Nat} (hdg : decode cc pc = .ok (.ifCond .lt off, 3)) (ht : (pc : Int) + off = (tgt : Int)) (ha : x.toInt = a)
    (kt : a < 0 → W p l e R s m args below meth c H locs cells slots Q (F0 m tgt ls rest)) (kf : 0 ≤ a → W p l e R s m args below meth c H locs cells slots Q (F0 m (pc + 3) ls rest)) : W p l e R s m args below meth c H locs cells slots Q (F0 m pc ls (.int x :: rest)) :=
  have h0 : (0 : Int32).toInt = 0 := rfl
  lv_if_lt hexec hb hdg ht (fun q => kt (by have := ti_lt q; omega)) (fun q => kf (by have := ti_nlt q; omega))
theorem tr_if_ge (hexec : p.tables.exec = Jvm.exec) (hb : c.code = cc) {x : Int32} {a off : Int} {tgt : Nat} (hdg : decode cc pc = .ok (.ifCond .ge off, 3)) (ht : (pc : Int) + off = (tgt : Int)) (ha : x.toInt = a)
    (kt : 0 ≤ a → W p l e R s m args below meth c H locs cells slots Q (F0 m tgt ls rest)) (kf : a < 0 → W p l e R s m args below meth c H locs cells slots Q (F0 m (pc + 3) ls rest)) : W p l e R s m args below meth c H locs cells slots Q (F0 m pc ls (.int x :: rest)) :=
  have h0 : (0 : Int32).toInt = 0 := rfl
  lv_if_ge hexec hb hdg ht (fun q => kt (by have := ti_le q; omega)) (fun q => kf (by have := ti_nle q; omega))
theorem tr_if_gt (hexec : p.tables.exec = Jvm.exec) (hb : c.code = cc) {x : Int32} {a off : Int} {tgt : Nat} (hdg : decode cc pc = .ok (.ifCond .gt off, 3)) (ht : (pc : Int) + off = (tgt : Int)) (ha : x.toInt = a)
    (kt : 0 < a → W p l e R s m args below meth c H locs cells slots Q (F0 m tgt ls rest)) (kf : a ≤ 0 → W p l e R s m args below meth c H locs cells slots Q (F0 m (pc + 3) ls rest)) : W p l e R s m args below meth c H locs cells slots Q (F0 m pc ls (.int x :: rest)) :=
  have h0 : (0 : Int32).toInt = 0 := rfl
  lv_if_gt hexec hb hdg ht (fun q => kt (by have := ti_lt q; omega)) (fun q => kf (by have := ti_nlt q; omega))
theorem tr_if_le (hexec : p.tables.exec = Jvm.exec) (hb : c.code = cc) {x : Int32} {a off : Int} {tgt : Nat} (hdg : decode cc pc = .ok (.ifCond .le off, 3)) (ht : (pc : Int) + off = (tgt : Int)) (ha : x.toInt = a)
    (kt : a ≤ 0 → W p l e R s m args below meth c H locs cells slots Q (F0 m tgt ls rest)) (kf : 0 < a → W p l e R s m args below meth c H locs cells slots Q (F0 m (pc + 3) ls rest)) : W p l e R s m args below meth c H locs cells slots Q (F0 m pc ls (.int x :: rest)) :=
  have h0 : (0 : Int32).toInt = 0 := rfl
  lv_if_le hexec hb hdg ht (fun q => kt (by have := ti_le q; omega)) (fun q => kf (by have := ti_nle q; omega))
theorem tr_if_eq (hexec : p.tables.exec = Jvm.exec) (hb : c.code = cc) {x : Int32} {a off : Int} {tgt : Nat} (hdg : decode cc pc = .ok (.ifCond .eq off, 3)) (ht : (pc : Int) + off = (tgt : Int)) (ha : x.toInt = a)
    (kt : a = 0 → W p l e R s m args below meth c H locs cells slots Q (F0 m tgt ls rest)) (kf : a ≠ 0 → W p l e R s m args below meth c H locs cells slots Q (F0 m (pc + 3) ls rest)) : W p l e R s m args below meth c H locs cells slots Q (F0 m pc ls (.int x :: rest)) :=
  have h0 : (0 : Int32).toInt = 0 := rfl
  lv_if_eq hexec hb hdg ht (fun q => kt (by rw [← ha, q]; rfl)) (fun q => kf (by have := ti_ne q; omega))
theorem tr_if_ne (hexec : p.tables.exec = Jvm.exec) (hb : c.code = cc) {x : Int32} {a off : Int} {tgt : Nat} (hdg : decode cc pc = .ok (.ifCond .ne off, 3)) (ht : (pc : Int) + off = (tgt : Int)) (ha : x.toInt = a)
    (kt : a ≠ 0 → W p l e R s m args below meth c H locs cells slots Q (F0 m tgt ls rest)) (kf : a = 0 → W p l e R s m args below meth c H locs cells slots Q (F0 m (pc + 3) ls rest)) : W p l e R s m args below meth c H locs cells slots Q (F0 m pc ls (.int x :: rest)) :=
  have h0 : (0 : Int32).toInt = 0 := rfl
  lv_if_ne hexec hb hdg ht (fun q => kt (by have := ti_ne q; omega)) (fun q => kf (by rw [← ha, q]; rfl))
end TR
section THR
variable {p : Program} {l : Launch} {e : Env} {R : Room} {s : State} {m : MethodId} {args : Array Value} {below : List Frame} {meth : Method} {c : Code} {H H0 : Heap} {locs : List Loc} {cells slots : Nat} {Q : State → Prop}
variable {cc : ByteArray} {pc : Nat} {ls : Array Slot} {rest : List Value} {G : th_G} {Γ Γ0 : th_Ga} {L : List (Nat × Nat)}
/-- a class of the tables: its row, its words, its fields' types and names -/
def th_CF (k : Nat) (C : String) (T : u_T) (N : Nat) (ty : Nat → FieldType) : Prop := th_cl[k]? = some (C, T, N) ∧ (∀ w ∈ u_ws C T N, w ∈ th_tb) ∧ (∀ j, j < N → parseFieldDescriptor (T j).2.2.1 = some (ty j)) ∧ (∀ a, a < N → ∀ b, b < N → a ≠ b → (T a).2.1 ≠ (T b).2.1) ∧ (∀ j, j < N → (T j).1 = C)
/-- what the tables say of the classes and arrays of the system -/
def th_K (G : th_G) (U : State) : Prop := va_K G.1.1 th_cl (th_ty G.1.2.1) U ∧ va_AO "CarpetHalls$Text" U ∧ va_AO "CarpetHalls$Stand" U
theorem th_K_moved {u U : State} (hvm : u.vm.Alike U.vm) (h : th_K G u) : th_K G U := ⟨va_K.moved hvm h.1, va_AO.moved hvm h.2.1, va_AO.moved hvm h.2.2⟩
/-- what a method's walk stands on -/
def th_C (p : Program) (s : State) (m : MethodId) (args : Array Value) (c : Code) (cc : ByteArray) (nL : Nat) (own : String) (G : th_G) : Prop := p.tables.exec = Jvm.exec ∧ c.code = cc ∧ c.maxLocals = nL ∧ s.vm.findClass own = some m.cls ∧ (∀ w ∈ th_tb, w.before args s = true) ∧ th_K G s
/-- the cells' state in a walk: the types hold, outside the system nothing has changed, of the system only L has -/
def th_B (G : th_G) (Γ Γ0 : th_Ga) (L : List (Nat × Nat)) (H0 H : Heap) (locs : List Loc) : Prop := th_I G Γ H ∧ va_S (fun q => G.1.2.2 ≤ q) H0 H locs ∧ th_F G Γ0 L H0 H
theorem th_apart {nL : Nat} {own : String} (hC : th_C p s m args c cc nL own G) {k : Nat} {C : String} {T : u_T} {N : Nat} {ty : Nat → FieldType} (hcf : th_CF k C T N ty) : ∀ x y, x < N → y < N → x ≠ y → G.1.1.2 k x ≠ G.1.1.2 k y :=
  va_apart (own := own) (D := G.1.1) hC.2.2.2.2.1 hcf.2.1 ty hcf.2.2.1 hcf.2.2.2.1 hC.2.2.2.2.2.1 hcf.1
theorem th_get {nL : Nat} {own : String} (hC : th_C p s m args c cc nL own G) {k : Nat} {C : String} {T : u_T} {N : Nat} {ty : Nat → FieldType} (hcf : th_CF k C T N ty) (hI : th_I G Γ H) {a r o j index : Nat} {fs : List th_sp} {q : th_sp} (ha : Γ a = (r, o)) (hr : th_ro r = some (.inl (k, fs))) (hN : fs.length = N) (hq : fs[j]? = some q)
    (hl : Cond.fieldLink own index C (T j).2.1 (T j).2.2.1 ∈ th_tb) (hdg : decode cc pc = .ok (.getfield index, 3))
    (kk : ∀ v : Value, th_sl H a (G.1.1.2 k j) = v → th_sat Γ a q v → W p l e R s m args below meth c H locs cells slots Q (F0 m (pc + 3) ls (v :: rest))) : W p l e R s m args below meth c H locs cells slots Q (F0 m pc ls (.ref a :: rest)) := by
  obtain ⟨hx, hb, -, hown, hts, hK, -⟩ := hC
  obtain ⟨hc, hin, hty, hnm, hdc⟩ := hcf
  obtain ⟨-, ⟨cell, q1, q2, q3, q4⟩, h5⟩ := hI a r o _ ha hr
  have hj : j < N := by rw [← hN]; exact (List.getElem?_eq_some_iff.mp hq).1
  obtain ⟨hS, hfc, kC, hkC, hkind⟩ := hK.1 k _ hc
  obtain ⟨cf, kf, fi, f, hi, hsl⟩ := hS j hj
  have hi' := hi
  rw [hdc j hj] at hi'
  refine W.getf hx hb hown (hts _ hl) hi' (u_facts hfc hkC (u_lays hts hin hj) hi).1 q1 (by rw [q3]; exact fun h => by cases h) (v := th_sl H a (G.1.1.2 k j)) ?_ rfl rfl hdg (kk _ rfl (h5 j q hq))
  rw [hsl, q4 j (by rw [hN]; exact hj)]
theorem th_getN {nL : Nat} {own host : String} (hC : th_C p s m args c cc nL own G) {k : Nat} {C : String} {T : u_T} {N : Nat} {ty : Nat → FieldType} (hcf : th_CF k C T N ty) (hI : th_I G Γ H) {a r o j index : Nat} {fs : List th_sp} {q : th_sp} (ha : Γ a = (r, o)) (hr : th_ro r = some (.inl (k, fs))) (hN : fs.length = N) (hq : fs[j]? = some q)
    (hl : Cond.fieldLinkNest own index C (T j).2.1 (T j).2.2.1 host ∈ th_tb) (hdg : decode cc pc = .ok (.getfield index, 3))
    (kk : ∀ v : Value, th_sl H a (G.1.1.2 k j) = v → th_sat Γ a q v → W p l e R s m args below meth c H locs cells slots Q (F0 m (pc + 3) ls (v :: rest))) : W p l e R s m args below meth c H locs cells slots Q (F0 m pc ls (.ref a :: rest)) := by
  obtain ⟨hx, hb, -, hown, hts, hK, -⟩ := hC
  obtain ⟨hc, hin, hty, hnm, hdc⟩ := hcf
  obtain ⟨-, ⟨cell, q1, q2, q3, q4⟩, h5⟩ := hI a r o _ ha hr
  have hj : j < N := by rw [← hN]; exact (List.getElem?_eq_some_iff.mp hq).1
  obtain ⟨hS, hfc, kC, hkC, hkind⟩ := hK.1 k _ hc
  obtain ⟨cf, kf, fi, f, hi, hsl⟩ := hS j hj
  have hi' := hi
  rw [hdc j hj] at hi'
  refine va_Wgetf hx hb hown (hts _ hl) hi' (u_facts hfc hkC (u_lays hts hin hj) hi).1 q1 (by rw [q3]; exact fun h => by cases h) (v := th_sl H a (G.1.1.2 k j)) ?_ rfl rfl hdg (kk _ rfl (h5 j q hq))
  rw [hsl, q4 j (by rw [hN]; exact hj)]
theorem th_getI {nL : Nat} {own : String} (hC : th_C p s m args c cc nL own G) {k : Nat} {C : String} {T : u_T} {N : Nat} {ty : Nat → FieldType} (hcf : th_CF k C T N ty) (hI : th_I G Γ H) {a r o j index : Nat} {fs : List th_sp} {lo hi : Int} (ha : Γ a = (r, o)) (hr : th_ro r = some (.inl (k, fs))) (hN : fs.length = N) (hq : fs[j]? = some (0, lo, hi))
    (hl : Cond.fieldLink own index C (T j).2.1 (T j).2.2.1 ∈ th_tb) (hdg : decode cc pc = .ok (.getfield index, 3))
    (kk : ∀ x : Int32, th_sl H a (G.1.1.2 k j) = .int x → lo ≤ x.toInt → x.toInt ≤ hi → W p l e R s m args below meth c H locs cells slots Q (F0 m (pc + 3) ls (.int x :: rest))) : W p l e R s m args below meth c H locs cells slots Q (F0 m pc ls (.ref a :: rest)) :=
  th_get hC hcf hI ha hr hN hq hl hdg (fun v hv hs => by obtain ⟨x, rfl, h1, h2⟩ := hs; exact kk x hv h1 h2)
theorem th_getR {nL : Nat} {own : String} (hC : th_C p s m args c cc nL own G) {k : Nat} {C : String} {T : u_T} {N : Nat} {ty : Nat → FieldType} (hcf : th_CF k C T N ty) (hI : th_I G Γ H) {a r o j index r2 : Nat} {fs : List th_sp} {hi : Int} (ha : Γ a = (r, o)) (hr : th_ro r = some (.inl (k, fs))) (hN : fs.length = N) (hq : fs[j]? = some (2, (r2 : Int), hi))
    (hl : Cond.fieldLink own index C (T j).2.1 (T j).2.2.1 ∈ th_tb) (hdg : decode cc pc = .ok (.getfield index, 3))
    (kk : ∀ b : Nat, th_sl H a (G.1.1.2 k j) = .ref b → Γ b = (r2, 0) → W p l e R s m args below meth c H locs cells slots Q (F0 m (pc + 3) ls (.ref b :: rest))) : W p l e R s m args below meth c H locs cells slots Q (F0 m pc ls (.ref a :: rest)) :=
  th_get hC hcf hI ha hr hN hq hl hdg (fun v hv hs => by obtain ⟨b, rfl, h1⟩ := hs; exact kk b hv (by simpa using h1))
theorem th_getO {nL : Nat} {own : String} (hC : th_C p s m args c cc nL own G) {k : Nat} {C : String} {T : u_T} {N : Nat} {ty : Nat → FieldType} (hcf : th_CF k C T N ty) (hI : th_I G Γ H) {a r o j index r2 : Nat} {fs : List th_sp} {hi : Int} (ha : Γ a = (r, o)) (hr : th_ro r = some (.inl (k, fs))) (hN : fs.length = N) (hq : fs[j]? = some (4, (r2 : Int), hi))
    (hl : Cond.fieldLink own index C (T j).2.1 (T j).2.2.1 ∈ th_tb) (hdg : decode cc pc = .ok (.getfield index, 3))
    (kk : ∀ b : Nat, th_sl H a (G.1.1.2 k j) = .ref b → Γ b = (r2, a) → W p l e R s m args below meth c H locs cells slots Q (F0 m (pc + 3) ls (.ref b :: rest))) : W p l e R s m args below meth c H locs cells slots Q (F0 m pc ls (.ref a :: rest)) :=
  th_get hC hcf hI ha hr hN hq hl hdg (fun v hv hs => by obtain ⟨b, rfl, h1⟩ := hs; exact kk b hv (by simpa using h1))
theorem th_put {nL : Nat} {own : String} (hC : th_C p s m args c cc nL own G) {k : Nat} {C : String} {T : u_T} {N : Nat} {ty : Nat → FieldType} (hcf : th_CF k C T N ty) (hB : th_B G Γ Γ0 L H0 H locs) {a r o j index : Nat} {fs : List th_sp} {q : th_sp} {v : Value} (ha : Γ a = (r, o)) (ha0 : Γ0 a = (r, o) ∨ th_ro (Γ0 a).1 = none) (hr : th_ro r = some (.inl (k, fs))) (hN : fs.length = N) (hq : fs[j]? = some q)
    (hs : th_sat Γ a q v) (hL : th_in L r j = true) (hfin : (T j).2.2.2 = false) (hn : narrow (ty j) v = v) (hfit : fits (ty j) v = true)
    (hl : Cond.fieldLink own index C (T j).2.1 (T j).2.2.1 ∈ th_tb) (hdg : decode cc pc = .ok (.putfield index, 3))
    (kk : ∀ (H1 : Heap) (locs1 : List Loc), th_B G Γ Γ0 L H0 H1 locs1 → th_F G Γ [(r, j)] H H1 → th_St H H1 a (G.1.1.2 k j) v → W p l e R s m args below meth c H1 locs1 cells slots Q (F0 m (pc + 3) ls rest)) : W p l e R s m args below meth c H locs cells slots Q (F0 m pc ls (v :: .ref a :: rest)) := by
  have hap := th_apart hC hcf
  obtain ⟨hx, hb, -, hown, hts, hK, -⟩ := hC
  obtain ⟨hc, hin, hty, hnm, hdc⟩ := hcf
  obtain ⟨hI, hS0, hF⟩ := hB
  obtain ⟨hsz, ⟨cell, q1, q2, q3, q4⟩, h5⟩ := hI a r o _ ha hr
  have hj : j < N := by rw [← hN]; exact (List.getElem?_eq_some_iff.mp hq).1
  have hj' : j < fs.length := by rw [hN]; exact hj
  obtain ⟨hS, hfc, kC, hkC, hkind⟩ := hK.1 k _ hc
  obtain ⟨cf, kf, fi, f, hi, hsl⟩ := hS j hj
  have hi' := hi
  rw [hdc j hj] at hi'
  have hlay := hts _ (hin _ (u_in_lay hj))
  unfold u_lay at hlay
  rw [if_neg (by rw [hfin]; decide)] at hlay
  have hst := (u_facts hfc hkC (u_lays hts hin hj) hi).1
  have h6 := u_store hfc hkC hkind hlay hi (hty j hj) hn hfit
  have hlt : f.slot < cell.slots.size := by rw [hsl]; exact k2_hasslot (q4 j hj')
  refine W.putK hx hb (f := f) ⟨hown, hts _ hl, ⟨_, _, _, hi'⟩, hst⟩ (by rw [q2]; exact h6) q1 q3 hlt rfl rfl hdg fun H' e1 e2 e3 => ?_
  have hst2 := th_St_of q1 hlt e1 e2 e3
  rw [hsl] at e1 hst2 ⊢
  refine kk H' _ ⟨th_I_put hI ha hr q1 hj' (by rw [hN]; exact hap) e1 e3 (fun q' hq' => by rw [hq] at hq'; cases hq'; exact hs), hS0.put e2 e3 hsz, ?_⟩ (th_F_put th_F_rf ha hr hj' (by rw [hN]; exact hap) hst2 (by simp [th_in])) hst2
  rcases ha0 with ha0 | ha0
  · exact th_F_put hF ha0 hr hj' (by rw [hN]; exact hap) hst2 hL
  · exact th_F_new hF ha0 hst2
theorem th_F_o {L : List (Nat × Nat)} {H1 : Heap} (hF : th_F G Γ L H H1) {a r o k j : Nat} {fs : List th_sp} (ha : Γ a = (r, o)) (hr : th_ro r = some (.inl (k, fs))) (hj : j < fs.length) (hL : th_in L r j = false) : th_sl H1 a (G.1.1.2 k j) = th_sl H a (G.1.1.2 k j) := (hF.2 a r o _ ha hr).2 j hj hL
theorem th_F_a {L : List (Nat × Nat)} {H1 : Heap} (hF : th_F G Γ L H H1) {a r o : Nat} {x : Nat × Nat × Nat × (Nat → th_sp)} (ha : Γ a = (r, o)) (hr : th_ro r = some (.inr x)) (hL : th_in L r 0 = false) (i : Nat) : th_sl H1 a i = th_sl H a i := (hF.2 a r o _ ha hr).2 hL i
theorem th_F_l {L : List (Nat × Nat)} {H1 : Heap} (hF : th_F G Γ L H H1) {a r o : Nat} {d : th_De} (ha : Γ a = (r, o)) (hr : th_ro r = some d) : th_ln H1 a = th_ln H a := (hF.2 a r o _ ha hr).1
theorem th_tys {t0 : Nat} {ty : FieldType} {nL : Nat} {own : String} (hC : th_C p s m args c cc nL own G) (ht : (th_ty G.1.2.1)[t0]? = some (G.1.2.1 t0, ty)) : ArrOfT s (G.1.2.1 t0) ty := (hC.2.2.2.2.2.1.2 t0 _ ht).1
theorem th_ald0 {a r o t n1 n2 : Nat} {es : Nat → th_sp} (hI : th_I G Γ H) (ha : Γ a = (r, o)) (hr : th_ro r = some (.inr (t, n1, n2, es))) : ∃ n : Nat, n1 ≤ n ∧ n ≤ n2 ∧ H[a]? = some (arrV (G.1.2.1 t) n (th_sl H a)) ∧ th_ln H a = n ∧ ∀ i : Nat, i < n → th_sat Γ a (es i) (th_sl H a i) := by
  obtain ⟨-, n, h1, h2, h3, h4⟩ := hI a r o _ ha hr
  exact ⟨n, h1, h2, h3, by rw [th_ln_at h3, arrV_size], h4⟩
theorem th_alen {nL : Nat} {own : String} (hC : th_C p s m args c cc nL own G) (hI : th_I G Γ H) {a r o t n1 n2 : Nat} {es : Nat → th_sp} {ty : FieldType} (ha : Γ a = (r, o)) (hr : th_ro r = some (.inr (t, n1, n2, es))) (ht : (th_ty G.1.2.1)[t]? = some (G.1.2.1 t, ty)) (hn2 : n2 ≤ 2147483647) (hdg : decode cc pc = .ok (.arraylength, 1))
    (kk : ∀ x : Int32, x.toInt = (th_ln H a : Int) → n1 ≤ th_ln H a → th_ln H a ≤ n2 → W p l e R s m args below meth c H locs cells slots Q (F0 m (pc + 1) ls (.int x :: rest))) : W p l e R s m args below meth c H locs cells slots Q (F0 m pc ls (.ref a :: rest)) := by
  obtain ⟨n, h1, h2, h3, h4, h5⟩ := th_ald0 hI ha hr
  refine W.alen (n := Int32.ofNat n) hC.1 hC.2.1 h3 (th_tys hC ht n (th_sl H a)) (by rw [arrV_size] <;> rfl) rfl rfl hdg (kk _ ?_ (by rw [h4]; exact h1) (by rw [h4]; exact h2))
  rw [h4]
  exact nI_toInt (n := n) (by omega)
theorem th_iald {nL : Nat} {own : String} (hC : th_C p s m args c cc nL own G) (hI : th_I G Γ H) {a r o t n1 n2 : Nat} {es : Nat → th_sp} (ha : Γ a = (r, o)) (hr : th_ro r = some (.inr (t, n1, n2, es))) (ht : (th_ty G.1.2.1)[t]? = some (G.1.2.1 t, .int)) {i : Int32} {b lo hi : Int} (hi0 : i.toInt = b) (h0 : 0 ≤ b) (h1 : b < (th_ln H a : Int)) (he : es b.toNat = (0, lo, hi)) (hdg : decode cc pc = .ok (.iaload, 1))
    (kk : ∀ x : Int32, th_sl H a b.toNat = .int x → lo ≤ x.toInt → x.toInt ≤ hi → W p l e R s m args below meth c H locs cells slots Q (F0 m (pc + 1) ls (.int x :: rest))) : W p l e R s m args below meth c H locs cells slots Q (F0 m pc ls (.int i :: .ref a :: rest)) := by
  obtain ⟨n, -, -, h3, h4, h5⟩ := th_ald0 hI ha hr
  rw [h4] at h1
  have hb : i.toNatClampNeg = b.toNat := by rw [← hi0]; rfl
  have hlt : b.toNat < n := by omega
  obtain ⟨x, hx, l1, l2⟩ : ∃ x : Int32, th_sl H a b.toNat = .int x ∧ lo ≤ x.toInt ∧ x.toInt ≤ hi := by
    have h6 := h5 _ hlt
    rw [he] at h6
    exact h6
  refine W.iald (v := .int x) hC.1 hC.2.1 h3 (th_tys hC ht n (th_sl H a)) (fun q => by cases q) ?_ ?_ rfl rfl hdg (kk x hx l1 l2)
  · rw [arrV_size, hb]
    exact ti_in (x := i) (n := n) (by omega) (by omega) |> fun z => by rw [← hb]; exact z
  · rw [hb, arrV_read _ _ hlt, hx]
theorem th_lald {nL : Nat} {own : String} (hC : th_C p s m args c cc nL own G) (hI : th_I G Γ H) {a r o t n1 n2 : Nat} {es : Nat → th_sp} (ha : Γ a = (r, o)) (hr : th_ro r = some (.inr (t, n1, n2, es))) (ht : (th_ty G.1.2.1)[t]? = some (G.1.2.1 t, .long)) {i : Int32} {b lo hi : Int} (hi0 : i.toInt = b) (h0 : 0 ≤ b) (h1 : b < (th_ln H a : Int)) (he : es b.toNat = (1, lo, hi)) (hdg : decode cc pc = .ok (.laload, 1))
    (kk : ∀ x : Int64, th_sl H a b.toNat = .long x → lo ≤ x.toInt → x.toInt ≤ hi → W p l e R s m args below meth c H locs cells slots Q (F0 m (pc + 1) ls (.long x :: rest))) : W p l e R s m args below meth c H locs cells slots Q (F0 m pc ls (.int i :: .ref a :: rest)) := by
  obtain ⟨n, -, -, h3, h4, h5⟩ := th_ald0 hI ha hr
  rw [h4] at h1
  have hb : i.toNatClampNeg = b.toNat := by rw [← hi0]; rfl
  have hlt : b.toNat < n := by omega
  obtain ⟨x, hx, l1, l2⟩ : ∃ x : Int64, th_sl H a b.toNat = .long x ∧ lo ≤ x.toInt ∧ x.toInt ≤ hi := by
    have h6 := h5 _ hlt
    rw [he] at h6
    exact h6
  refine W.lald (v := .long x) hC.1 hC.2.1 h3 (th_tys hC ht n (th_sl H a)) (fun q => by cases q) ?_ ?_ rfl rfl hdg (kk x hx l1 l2)
  · rw [arrV_size, hb]
    exact ti_in (x := i) (n := n) (by omega) (by omega) |> fun z => by rw [← hb]; exact z
  · rw [hb, arrV_read _ _ hlt, hx]
theorem th_aald {nL : Nat} {own : String} (hC : th_C p s m args c cc nL own G) (hI : th_I G Γ H) {a r o t n1 n2 : Nat} {es : Nat → th_sp} {C : String} (ha : Γ a = (r, o)) (hr : th_ro r = some (.inr (t, n1, n2, es))) (ht : (th_ty G.1.2.1)[t]? = some (G.1.2.1 t, .object C)) {i : Int32} {b : Int} {q : th_sp} (hi0 : i.toInt = b) (h0 : 0 ≤ b) (h1 : b < (th_ln H a : Int)) (he : es b.toNat = q) (hdg : decode cc pc = .ok (.aaload, 1))
    (kk : ∀ v : Value, th_sl H a b.toNat = v → th_sat Γ a q v → W p l e R s m args below meth c H locs cells slots Q (F0 m (pc + 1) ls (v :: rest))) : W p l e R s m args below meth c H locs cells slots Q (F0 m pc ls (.int i :: .ref a :: rest)) := by
  obtain ⟨n, -, -, h3, h4, h5⟩ := th_ald0 hI ha hr
  rw [h4] at h1
  have hb : i.toNatClampNeg = b.toNat := by rw [← hi0]; rfl
  have hlt : b.toNat < n := by omega
  have h6 := h5 _ hlt
  rw [he] at h6
  refine W.aald (v := th_sl H a b.toNat) (ty := .object C) hC.1 hC.2.1 h3 (th_tys hC ht n (th_sl H a)) rfl (fun q => by cases q) ?_ ?_ rfl rfl hdg (kk _ rfl h6)
  · rw [arrV_size, hb]
    exact ti_in (x := i) (n := n) (by omega) (by omega) |> fun z => by rw [← hb]; exact z
  · rw [hb, arrV_read _ _ hlt]
theorem th_iast {nL : Nat} {own : String} (hC : th_C p s m args c cc nL own G) (hB : th_B G Γ Γ0 L H0 H locs) {a r o t n1 n2 : Nat} {es : Nat → th_sp} (ha : Γ a = (r, o)) (ha0 : Γ0 a = (r, o) ∨ th_ro (Γ0 a).1 = none) (hr : th_ro r = some (.inr (t, n1, n2, es))) (ht : (th_ty G.1.2.1)[t]? = some (G.1.2.1 t, .int)) (hL : th_in L r 0 = true) {i x : Int32} {b : Int} (hi0 : i.toInt = b) (h0 : 0 ≤ b) (h1 : b < (th_ln H a : Int)) (he : th_sat Γ a (es b.toNat) (.int x)) (hdg : decode cc pc = .ok (.iastore, 1))
    (kk : ∀ (H1 : Heap) (locs1 : List Loc), th_B G Γ Γ0 L H0 H1 locs1 → th_F G Γ [(r, 0)] H H1 → th_St H H1 a b.toNat (.int x) → W p l e R s m args below meth c H1 locs1 cells slots Q (F0 m (pc + 1) ls rest)) : W p l e R s m args below meth c H locs cells slots Q (F0 m pc ls (.int x :: .int i :: .ref a :: rest)) := by
  obtain ⟨hI, hS0, hF⟩ := hB
  obtain ⟨n, -, -, h3, h4, h5⟩ := th_ald0 hI ha hr
  rw [h4] at h1
  have hsz := (hI a r o _ ha hr).1
  have hb : i.toNatClampNeg = b.toNat := by rw [← hi0]; rfl
  have hlt : b.toNat < n := by omega
  refine W.iast hC.1 hC.2.1 h3 (th_tys hC ht n (th_sl H a)) (fun q => by cases q) ?_ rfl rfl hdg fun H1 e1 z oq => ?_
  · rw [arrV_size, hb]
    exact ti_in (x := i) (n := n) (by omega) (by omega) |> fun z => by rw [← hb]; exact z
  · rw [hb] at e1 ⊢
    have hst := th_St_of h3 (by rw [arrV_size]; exact hlt) e1 z oq
    refine kk H1 _ ⟨th_I_sto hI ha hr h3 hlt e1 oq he, hS0.put z oq hsz, ?_⟩ (th_F_sto th_F_rf ha hr hst (by simp [th_in])) hst
    rcases ha0 with ha0 | ha0
    · exact th_F_sto hF ha0 hr hst hL
    · exact th_F_new hF ha0 hst
theorem th_last {nL : Nat} {own : String} (hC : th_C p s m args c cc nL own G) (hB : th_B G Γ Γ0 L H0 H locs) {a r o t n1 n2 : Nat} {es : Nat → th_sp} (ha : Γ a = (r, o)) (ha0 : Γ0 a = (r, o) ∨ th_ro (Γ0 a).1 = none) (hr : th_ro r = some (.inr (t, n1, n2, es))) (ht : (th_ty G.1.2.1)[t]? = some (G.1.2.1 t, .long)) (hL : th_in L r 0 = true) {i : Int32} {x : Int64} {b : Int} (hi0 : i.toInt = b) (h0 : 0 ≤ b) (h1 : b < (th_ln H a : Int)) (he : th_sat Γ a (es b.toNat) (.long x)) (hdg : decode cc pc = .ok (.lastore, 1))
    (kk : ∀ (H1 : Heap) (locs1 : List Loc), th_B G Γ Γ0 L H0 H1 locs1 → th_F G Γ [(r, 0)] H H1 → th_St H H1 a b.toNat (.long x) → W p l e R s m args below meth c H1 locs1 cells slots Q (F0 m (pc + 1) ls rest)) : W p l e R s m args below meth c H locs cells slots Q (F0 m pc ls (.long x :: .int i :: .ref a :: rest)) := by
  obtain ⟨hI, hS0, hF⟩ := hB
  obtain ⟨n, -, -, h3, h4, h5⟩ := th_ald0 hI ha hr
  rw [h4] at h1
  have hsz := (hI a r o _ ha hr).1
  have hb : i.toNatClampNeg = b.toNat := by rw [← hi0]; rfl
  have hlt : b.toNat < n := by omega
  refine W.last hC.1 hC.2.1 h3 (th_tys hC ht n (th_sl H a)) (fun q => by cases q) ?_ rfl rfl hdg fun H1 e1 z oq => ?_
  · rw [arrV_size, hb]
    exact ti_in (x := i) (n := n) (by omega) (by omega) |> fun z => by rw [← hb]; exact z
  · rw [hb] at e1 ⊢
    have hst := th_St_of h3 (by rw [arrV_size]; exact hlt) e1 z oq
    refine kk H1 _ ⟨th_I_sto hI ha hr h3 hlt e1 oq he, hS0.put z oq hsz, ?_⟩ (th_F_sto th_F_rf ha hr hst (by simp [th_in])) hst
    rcases ha0 with ha0 | ha0
    · exact th_F_sto hF ha0 hr hst hL
    · exact th_F_new hF ha0 hst
theorem th_ialdF {nL : Nat} {own : String} (hC : th_C p s m args c cc nL own G) (hI : th_I G Γ H) {a r o t n1 n2 : Nat} {es : Nat → th_sp} (ha : Γ a = (r, o)) (hr : th_ro r = some (.inr (t, n1, n2, es))) (ht : (th_ty G.1.2.1)[t]? = some (G.1.2.1 t, .int)) {i : Int32} {b lo hi : Int} (hi0 : i.toInt = b) (h0 : 0 ≤ b) (h1 : b < (n1 : Int)) (he : es b.toNat = (0, lo, hi)) (hdg : decode cc pc = .ok (.iaload, 1))
    (kk : ∀ x : Int32, th_sl H a b.toNat = .int x → lo ≤ x.toInt → x.toInt ≤ hi → W p l e R s m args below meth c H locs cells slots Q (F0 m (pc + 1) ls (.int x :: rest))) : W p l e R s m args below meth c H locs cells slots Q (F0 m pc ls (.int i :: .ref a :: rest)) :=
  th_iald hC hI ha hr ht hi0 h0 (by obtain ⟨n, g1, -, -, g4, -⟩ := th_ald0 hI ha hr; omega) he hdg kk
theorem th_laldF {nL : Nat} {own : String} (hC : th_C p s m args c cc nL own G) (hI : th_I G Γ H) {a r o t n1 n2 : Nat} {es : Nat → th_sp} (ha : Γ a = (r, o)) (hr : th_ro r = some (.inr (t, n1, n2, es))) (ht : (th_ty G.1.2.1)[t]? = some (G.1.2.1 t, .long)) {i : Int32} {b lo hi : Int} (hi0 : i.toInt = b) (h0 : 0 ≤ b) (h1 : b < (n1 : Int)) (he : es b.toNat = (1, lo, hi)) (hdg : decode cc pc = .ok (.laload, 1))
    (kk : ∀ x : Int64, th_sl H a b.toNat = .long x → lo ≤ x.toInt → x.toInt ≤ hi → W p l e R s m args below meth c H locs cells slots Q (F0 m (pc + 1) ls (.long x :: rest))) : W p l e R s m args below meth c H locs cells slots Q (F0 m pc ls (.int i :: .ref a :: rest)) :=
  th_lald hC hI ha hr ht hi0 h0 (by obtain ⟨n, g1, -, -, g4, -⟩ := th_ald0 hI ha hr; omega) he hdg kk
theorem th_aaldF {nL : Nat} {own : String} (hC : th_C p s m args c cc nL own G) (hI : th_I G Γ H) {a r o t n1 n2 : Nat} {es : Nat → th_sp} {C : String} (ha : Γ a = (r, o)) (hr : th_ro r = some (.inr (t, n1, n2, es))) (ht : (th_ty G.1.2.1)[t]? = some (G.1.2.1 t, .object C)) {i : Int32} {b : Int} {r2 : Nat} {hi : Int} (hi0 : i.toInt = b) (h0 : 0 ≤ b) (h1 : b < (n1 : Int)) (he : es b.toNat = (2, (r2 : Int), hi)) (hdg : decode cc pc = .ok (.aaload, 1))
    (kk : ∀ v : Nat, th_sl H a b.toNat = .ref v → Γ v = (r2, 0) → W p l e R s m args below meth c H locs cells slots Q (F0 m (pc + 1) ls (.ref v :: rest))) : W p l e R s m args below meth c H locs cells slots Q (F0 m pc ls (.int i :: .ref a :: rest)) :=
  th_aald hC hI ha hr ht hi0 h0 (by obtain ⟨n, g1, -, -, g4, -⟩ := th_ald0 hI ha hr; omega) he hdg (fun v hv hs => by obtain ⟨b, rfl, h1⟩ := hs; exact kk b hv (by simpa using h1))
theorem th_iastF {nL : Nat} {own : String} (hC : th_C p s m args c cc nL own G) (hB : th_B G Γ Γ0 L H0 H locs) {a r o t n1 n2 : Nat} {es : Nat → th_sp} (ha : Γ a = (r, o)) (ha0 : Γ0 a = (r, o) ∨ th_ro (Γ0 a).1 = none) (hr : th_ro r = some (.inr (t, n1, n2, es))) (ht : (th_ty G.1.2.1)[t]? = some (G.1.2.1 t, .int)) (hL : th_in L r 0 = true) {i x : Int32} {b : Int} (hi0 : i.toInt = b) (h0 : 0 ≤ b) (h1 : b < (n1 : Int)) (he : th_sat Γ a (es b.toNat) (.int x)) (hdg : decode cc pc = .ok (.iastore, 1))
    (kk : ∀ (H1 : Heap) (locs1 : List Loc), th_B G Γ Γ0 L H0 H1 locs1 → th_F G Γ [(r, 0)] H H1 → th_St H H1 a b.toNat (.int x) → W p l e R s m args below meth c H1 locs1 cells slots Q (F0 m (pc + 1) ls rest)) : W p l e R s m args below meth c H locs cells slots Q (F0 m pc ls (.int x :: .int i :: .ref a :: rest)) :=
  th_iast hC hB ha ha0 hr ht hL hi0 h0 (by obtain ⟨n, g1, -, -, g4, -⟩ := th_ald0 hB.1 ha hr; omega) he hdg kk
theorem th_lastF {nL : Nat} {own : String} (hC : th_C p s m args c cc nL own G) (hB : th_B G Γ Γ0 L H0 H locs) {a r o t n1 n2 : Nat} {es : Nat → th_sp} (ha : Γ a = (r, o)) (ha0 : Γ0 a = (r, o) ∨ th_ro (Γ0 a).1 = none) (hr : th_ro r = some (.inr (t, n1, n2, es))) (ht : (th_ty G.1.2.1)[t]? = some (G.1.2.1 t, .long)) (hL : th_in L r 0 = true) {i : Int32} {x : Int64} {b : Int} (hi0 : i.toInt = b) (h0 : 0 ≤ b) (h1 : b < (n1 : Int)) (he : th_sat Γ a (es b.toNat) (.long x)) (hdg : decode cc pc = .ok (.lastore, 1))
    (kk : ∀ (H1 : Heap) (locs1 : List Loc), th_B G Γ Γ0 L H0 H1 locs1 → th_F G Γ [(r, 0)] H H1 → th_St H H1 a b.toNat (.long x) → W p l e R s m args below meth c H1 locs1 cells slots Q (F0 m (pc + 1) ls rest)) : W p l e R s m args below meth c H locs cells slots Q (F0 m pc ls (.long x :: .int i :: .ref a :: rest)) :=
  th_last hC hB ha ha0 hr ht hL hi0 h0 (by obtain ⟨n, g1, -, -, g4, -⟩ := th_ald0 hB.1 ha hr; omega) he hdg kk
theorem th_zald {nL : Nat} {own : String} (hC : th_C p s m args c cc nL own G) (hI : th_I G Γ H) {a r o t n1 n2 : Nat} {es : Nat → th_sp} (ha : Γ a = (r, o)) (hr : th_ro r = some (.inr (t, n1, n2, es))) (ht : (th_ty G.1.2.1)[t]? = some (G.1.2.1 t, .boolean)) {i : Int32} {b lo hi : Int} (hi0 : i.toInt = b) (h0 : 0 ≤ b) (h1 : b < (th_ln H a : Int)) (he : es b.toNat = (0, lo, hi)) (hdg : decode cc pc = .ok (.baload, 1))
    (kk : ∀ x : Int32, th_sl H a b.toNat = .int x → lo ≤ x.toInt → x.toInt ≤ hi → W p l e R s m args below meth c H locs cells slots Q (F0 m (pc + 1) ls (.int x :: rest))) : W p l e R s m args below meth c H locs cells slots Q (F0 m pc ls (.int i :: .ref a :: rest)) := by
  obtain ⟨n, -, -, h3, h4, h5⟩ := th_ald0 hI ha hr
  rw [h4] at h1
  have hb : i.toNatClampNeg = b.toNat := by rw [← hi0]; rfl
  have hlt : b.toNat < n := by omega
  obtain ⟨x, hx, l1, l2⟩ : ∃ x : Int32, th_sl H a b.toNat = .int x ∧ lo ≤ x.toInt ∧ x.toInt ≤ hi := by
    have h6 := h5 _ hlt
    rw [he] at h6
    exact h6
  refine W.zald (v := .int x) hC.1 hC.2.1 h3 (th_tys hC ht n (th_sl H a)) (fun q => by cases q) ?_ ?_ rfl rfl hdg (kk x hx l1 l2)
  · rw [arrV_size, hb]
    exact ti_in (x := i) (n := n) (by omega) (by omega) |> fun z => by rw [← hb]; exact z
  · rw [hb, arrV_read _ _ hlt, hx]
theorem th_zaldF {nL : Nat} {own : String} (hC : th_C p s m args c cc nL own G) (hI : th_I G Γ H) {a r o t n1 n2 : Nat} {es : Nat → th_sp} (ha : Γ a = (r, o)) (hr : th_ro r = some (.inr (t, n1, n2, es))) (ht : (th_ty G.1.2.1)[t]? = some (G.1.2.1 t, .boolean)) {i : Int32} {b lo hi : Int} (hi0 : i.toInt = b) (h0 : 0 ≤ b) (h1 : b < (n1 : Int)) (he : es b.toNat = (0, lo, hi)) (hdg : decode cc pc = .ok (.baload, 1))
    (kk : ∀ x : Int32, th_sl H a b.toNat = .int x → lo ≤ x.toInt → x.toInt ≤ hi → W p l e R s m args below meth c H locs cells slots Q (F0 m (pc + 1) ls (.int x :: rest))) : W p l e R s m args below meth c H locs cells slots Q (F0 m pc ls (.int i :: .ref a :: rest)) :=
  th_zald hC hI ha hr ht hi0 h0 (by obtain ⟨n, g1, -, -, g4, -⟩ := th_ald0 hI ha hr; omega) he hdg kk
theorem th_bald {nL : Nat} {own : String} (hC : th_C p s m args c cc nL own G) (hI : th_I G Γ H) {a r o t n1 n2 : Nat} {es : Nat → th_sp} (ha : Γ a = (r, o)) (hr : th_ro r = some (.inr (t, n1, n2, es))) (ht : (th_ty G.1.2.1)[t]? = some (G.1.2.1 t, .byte)) {i : Int32} {b lo hi : Int} (hi0 : i.toInt = b) (h0 : 0 ≤ b) (h1 : b < (th_ln H a : Int)) (he : es b.toNat = (0, lo, hi)) (hdg : decode cc pc = .ok (.baload, 1))
    (kk : ∀ x : Int32, th_sl H a b.toNat = .int x → lo ≤ x.toInt → x.toInt ≤ hi → W p l e R s m args below meth c H locs cells slots Q (F0 m (pc + 1) ls (.int x :: rest))) : W p l e R s m args below meth c H locs cells slots Q (F0 m pc ls (.int i :: .ref a :: rest)) := by
  obtain ⟨n, -, -, h3, h4, h5⟩ := th_ald0 hI ha hr
  rw [h4] at h1
  have hb : i.toNatClampNeg = b.toNat := by rw [← hi0]; rfl
  have hlt : b.toNat < n := by omega
  obtain ⟨x, hx, l1, l2⟩ : ∃ x : Int32, th_sl H a b.toNat = .int x ∧ lo ≤ x.toInt ∧ x.toInt ≤ hi := by
    have h6 := h5 _ hlt
    rw [he] at h6
    exact h6
  refine W.bald (v := .int x) hC.1 hC.2.1 h3 (th_tys hC ht n (th_sl H a)) (fun q => by cases q) ?_ ?_ rfl rfl hdg (kk x hx l1 l2)
  · rw [arrV_size, hb]
    exact ti_in (x := i) (n := n) (by omega) (by omega) |> fun z => by rw [← hb]; exact z
  · rw [hb, arrV_read _ _ hlt, hx]
theorem th_baldF {nL : Nat} {own : String} (hC : th_C p s m args c cc nL own G) (hI : th_I G Γ H) {a r o t n1 n2 : Nat} {es : Nat → th_sp} (ha : Γ a = (r, o)) (hr : th_ro r = some (.inr (t, n1, n2, es))) (ht : (th_ty G.1.2.1)[t]? = some (G.1.2.1 t, .byte)) {i : Int32} {b lo hi : Int} (hi0 : i.toInt = b) (h0 : 0 ≤ b) (h1 : b < (n1 : Int)) (he : es b.toNat = (0, lo, hi)) (hdg : decode cc pc = .ok (.baload, 1))
    (kk : ∀ x : Int32, th_sl H a b.toNat = .int x → lo ≤ x.toInt → x.toInt ≤ hi → W p l e R s m args below meth c H locs cells slots Q (F0 m (pc + 1) ls (.int x :: rest))) : W p l e R s m args below meth c H locs cells slots Q (F0 m pc ls (.int i :: .ref a :: rest)) :=
  th_bald hC hI ha hr ht hi0 h0 (by obtain ⟨n, g1, -, -, g4, -⟩ := th_ald0 hI ha hr; omega) he hdg kk
theorem th_zast {nL : Nat} {own : String} (hC : th_C p s m args c cc nL own G) (hB : th_B G Γ Γ0 L H0 H locs) {a r o t n1 n2 : Nat} {es : Nat → th_sp} (ha : Γ a = (r, o)) (ha0 : Γ0 a = (r, o) ∨ th_ro (Γ0 a).1 = none) (hr : th_ro r = some (.inr (t, n1, n2, es))) (ht : (th_ty G.1.2.1)[t]? = some (G.1.2.1 t, .boolean)) (hL : th_in L r 0 = true) {i x : Int32} {b : Int} (hi0 : i.toInt = b) (h0 : 0 ≤ b) (h1 : b < (th_ln H a : Int)) (he : th_sat Γ a (es b.toNat) (.int x)) (hx0 : narrow .boolean (.int x) = .int x) (hdg : decode cc pc = .ok (.bastore, 1))
    (kk : ∀ (H1 : Heap) (locs1 : List Loc), th_B G Γ Γ0 L H0 H1 locs1 → th_F G Γ [(r, 0)] H H1 → th_St H H1 a b.toNat (.int x) → W p l e R s m args below meth c H1 locs1 cells slots Q (F0 m (pc + 1) ls rest)) : W p l e R s m args below meth c H locs cells slots Q (F0 m pc ls (.int x :: .int i :: .ref a :: rest)) := by
  obtain ⟨hI, hS0, hF⟩ := hB
  obtain ⟨n, -, -, h3, h4, h5⟩ := th_ald0 hI ha hr
  rw [h4] at h1
  have hsz := (hI a r o _ ha hr).1
  have hb : i.toNatClampNeg = b.toNat := by rw [← hi0]; rfl
  have hlt : b.toNat < n := by omega
  refine W.zast hC.1 hC.2.1 h3 (th_tys hC ht n (th_sl H a)) (fun q => by cases q) ?_ rfl rfl hdg fun H1 e1 z oq => ?_
  · rw [arrV_size, hb]
    exact ti_in (x := i) (n := n) (by omega) (by omega) |> fun z => by rw [← hb]; exact z
  · rw [hb, hx0] at e1
    rw [hb]
    have hst := th_St_of h3 (by rw [arrV_size]; exact hlt) e1 z oq
    refine kk H1 _ ⟨th_I_sto hI ha hr h3 hlt e1 oq he, hS0.put z oq hsz, ?_⟩ (th_F_sto th_F_rf ha hr hst (by simp [th_in])) hst
    rcases ha0 with ha0 | ha0
    · exact th_F_sto hF ha0 hr hst hL
    · exact th_F_new hF ha0 hst
theorem th_zastF {nL : Nat} {own : String} (hC : th_C p s m args c cc nL own G) (hB : th_B G Γ Γ0 L H0 H locs) {a r o t n1 n2 : Nat} {es : Nat → th_sp} (ha : Γ a = (r, o)) (ha0 : Γ0 a = (r, o) ∨ th_ro (Γ0 a).1 = none) (hr : th_ro r = some (.inr (t, n1, n2, es))) (ht : (th_ty G.1.2.1)[t]? = some (G.1.2.1 t, .boolean)) (hL : th_in L r 0 = true) {i x : Int32} {b : Int} (hi0 : i.toInt = b) (h0 : 0 ≤ b) (h1 : b < (n1 : Int)) (he : th_sat Γ a (es b.toNat) (.int x)) (hx0 : narrow .boolean (.int x) = .int x) (hdg : decode cc pc = .ok (.bastore, 1))
    (kk : ∀ (H1 : Heap) (locs1 : List Loc), th_B G Γ Γ0 L H0 H1 locs1 → th_F G Γ [(r, 0)] H H1 → th_St H H1 a b.toNat (.int x) → W p l e R s m args below meth c H1 locs1 cells slots Q (F0 m (pc + 1) ls rest)) : W p l e R s m args below meth c H locs cells slots Q (F0 m pc ls (.int x :: .int i :: .ref a :: rest)) :=
  th_zast hC hB ha ha0 hr ht hL hi0 h0 (by obtain ⟨n, g1, -, -, g4, -⟩ := th_ald0 hB.1 ha hr; omega) he hx0 hdg kk
theorem th_bast {nL : Nat} {own : String} (hC : th_C p s m args c cc nL own G) (hB : th_B G Γ Γ0 L H0 H locs) {a r o t n1 n2 : Nat} {es : Nat → th_sp} (ha : Γ a = (r, o)) (ha0 : Γ0 a = (r, o) ∨ th_ro (Γ0 a).1 = none) (hr : th_ro r = some (.inr (t, n1, n2, es))) (ht : (th_ty G.1.2.1)[t]? = some (G.1.2.1 t, .byte)) (hL : th_in L r 0 = true) {i x y : Int32} {b : Int} (hi0 : i.toInt = b) (h0 : 0 ≤ b) (h1 : b < (th_ln H a : Int)) (he : th_sat Γ a (es b.toNat) (.int y)) (hx0 : narrow .byte (.int x) = .int y) (hdg : decode cc pc = .ok (.bastore, 1))
    (kk : ∀ (H1 : Heap) (locs1 : List Loc), th_B G Γ Γ0 L H0 H1 locs1 → th_F G Γ [(r, 0)] H H1 → th_St H H1 a b.toNat (.int y) → W p l e R s m args below meth c H1 locs1 cells slots Q (F0 m (pc + 1) ls rest)) : W p l e R s m args below meth c H locs cells slots Q (F0 m pc ls (.int x :: .int i :: .ref a :: rest)) := by
  obtain ⟨hI, hS0, hF⟩ := hB
  obtain ⟨n, -, -, h3, h4, h5⟩ := th_ald0 hI ha hr
  rw [h4] at h1
  have hsz := (hI a r o _ ha hr).1
  have hb : i.toNatClampNeg = b.toNat := by rw [← hi0]; rfl
  have hlt : b.toNat < n := by omega
  refine W.bast hC.1 hC.2.1 h3 (th_tys hC ht n (th_sl H a)) (fun q => by cases q) ?_ rfl rfl hdg fun H1 e1 z oq => ?_
  · rw [arrV_size, hb]
    exact ti_in (x := i) (n := n) (by omega) (by omega) |> fun z => by rw [← hb]; exact z
  · rw [hb, hx0] at e1
    rw [hb]
    have hst := th_St_of h3 (by rw [arrV_size]; exact hlt) e1 z oq
    refine kk H1 _ ⟨th_I_sto hI ha hr h3 hlt e1 oq he, hS0.put z oq hsz, ?_⟩ (th_F_sto th_F_rf ha hr hst (by simp [th_in])) hst
    rcases ha0 with ha0 | ha0
    · exact th_F_sto hF ha0 hr hst hL
    · exact th_F_new hF ha0 hst
theorem th_bastF {nL : Nat} {own : String} (hC : th_C p s m args c cc nL own G) (hB : th_B G Γ Γ0 L H0 H locs) {a r o t n1 n2 : Nat} {es : Nat → th_sp} (ha : Γ a = (r, o)) (ha0 : Γ0 a = (r, o) ∨ th_ro (Γ0 a).1 = none) (hr : th_ro r = some (.inr (t, n1, n2, es))) (ht : (th_ty G.1.2.1)[t]? = some (G.1.2.1 t, .byte)) (hL : th_in L r 0 = true) {i x y : Int32} {b : Int} (hi0 : i.toInt = b) (h0 : 0 ≤ b) (h1 : b < (n1 : Int)) (he : th_sat Γ a (es b.toNat) (.int y)) (hx0 : narrow .byte (.int x) = .int y) (hdg : decode cc pc = .ok (.bastore, 1))
    (kk : ∀ (H1 : Heap) (locs1 : List Loc), th_B G Γ Γ0 L H0 H1 locs1 → th_F G Γ [(r, 0)] H H1 → th_St H H1 a b.toNat (.int y) → W p l e R s m args below meth c H1 locs1 cells slots Q (F0 m (pc + 1) ls rest)) : W p l e R s m args below meth c H locs cells slots Q (F0 m pc ls (.int x :: .int i :: .ref a :: rest)) :=
  th_bast hC hB ha ha0 hr ht hL hi0 h0 (by obtain ⟨n, g1, -, -, g4, -⟩ := th_ald0 hB.1 ha hr; omega) he hx0 hdg kk
theorem ti_byte (x : Int32) : -128 ≤ (x.toInt8.toInt32).toInt ∧ (x.toInt8.toInt32).toInt ≤ 127 := by
  have h1 := Int8.le_toInt x.toInt8
  have h2 := Int8.toInt_lt x.toInt8
  have h3 : (x.toInt8.toInt32).toInt = x.toInt8.toInt := Int8.toInt_toInt32 _
  omega
theorem th_sI {a : Nat} {lo hi : Int} {x : Int32} (h1 : lo ≤ x.toInt) (h2 : x.toInt ≤ hi) : th_sat Γ a (0, lo, hi) (.int x) := ⟨x, rfl, h1, h2⟩
theorem th_sIa {a : Nat} {x : Int32} : th_sat Γ a (0, (-2147483648), 2147483647) (.int x) := ⟨x, rfl, ti_lo x, ti_hi x⟩
theorem th_sLa {a : Nat} {x : Int64} : th_sat Γ a (1, (-9223372036854775808), 9223372036854775807) (.long x) := ⟨x, rfl, by have := Int64.le_toInt x; show (-9223372036854775808 : Int) ≤ x.toInt; omega, by have := Int64.toInt_lt x; show x.toInt ≤ (9223372036854775807 : Int); omega⟩
theorem th_sR {a b r : Nat} {hi : Int} (h : Γ b = (r, 0)) : th_sat Γ a (2, (r : Int), hi) (.ref b) := ⟨b, rfl, by simpa using h⟩
theorem th_sQ {a b r : Nat} {hi : Int} (h : Γ b = (r, 0)) : th_sat Γ a (3, (r : Int), hi) (.ref b) := Or.inr ⟨b, rfl, by simpa using h⟩
theorem th_sN {a r : Nat} {hi : Int} : th_sat Γ a (3, (r : Int), hi) .null := Or.inl rfl
theorem th_sV {a r : Nat} {hi : Int} {v : Value} (h : v = .null ∨ ∃ b : Nat, v = .ref b ∧ Γ b = (r, 0)) : th_sat Γ a (3, (r : Int), hi) v := by
  rcases h with h | ⟨b, h1, h2⟩
  · exact Or.inl h
  · exact Or.inr ⟨b, h1, by simpa using h2⟩
theorem th_sO {a b r : Nat} {hi : Int} (h : Γ b = (r, a)) : th_sat Γ a (4, (r : Int), hi) (.ref b) := ⟨b, rfl, by simpa using h⟩
theorem th_s5 {a : Nat} {v : Value} {lo hi : Int} : th_sat Γ a (5, lo, hi) v := trivial
theorem th_nb {x : Int32} (h1 : 0 ≤ x.toInt) (h2 : x.toInt ≤ 1) : narrow .boolean (.int x) = .int x := by
  rcases (show x.toInt = 0 ∨ x.toInt = 1 by omega) with h | h
  · have e : x = 0 := Int32.toInt_inj.mp (by rw [h]; rfl)
    subst e; rfl
  · have e : x = 1 := Int32.toInt_inj.mp (by rw [h]; rfl)
    subst e; rfl
/-- a method's start and end: its arguments, the heap; its answer and the heap behind it, nothing outside the system changed -/
def th_P (av : List Value) (G : th_G) (H : Heap) : Array Value → State → Prop := va_Pc av (fun U => U.heap = H ∧ th_K G U)
def th_Q (post : Option Value → Heap → Prop) (G : th_G) : Array Value → State → Outcome → State → Prop := fun _ st oc t => (∃ v : Option Value, oc = .returned v ∧ post v t.heap) ∧ va_F (fun q => G.1.2.2 ≤ q) st t
theorem th_blind {av : List Value} : FrameBlind (th_P av G H) := fun a U g mk q => ⟨q.1, q.2.1, th_K_moved (u := U) (U := U.calling g mk a) (Vm.Alike.refl U.vm) q.2.2⟩
theorem th_met {y : MethodName} {code' : ByteArray} {maxL : Nat} {ret' : Option FieldType} {rm : Room} {av : List Value} {post : Option Value → Heap → Prop} {mc ms : Nat} (own : String) (hy : plainName y.cls = true) (hown : y.cls = own) (hlen : (lg_sl av).length ≤ maxL)
    (body : ∀ (p : Program) (e : Env) (s : State) (m : MethodId) (below : List Frame) (meth : Method) (c : Code), th_C p s m av.toArray c code' maxL own G → s.heap = H → meth.sig.returnType = ret' → meth.locks = false → meth.name = y.name → ∀ ls : Array Slot, lv_has ls maxL (lv_args 0 av) →
      W p l e rm s m av.toArray below meth c H [] 0 0 (MQ below (th_Q post G) av.toArray s mc ms (fun q => G.1.2.2 ≤ q)) (F0 m 0 ls [])) : Met l y (.code y code' maxL ret' :: th_tb) rm (th_P av G H) (th_Q post G) mc ms (fun q => G.1.2.2 ≤ q) := by
  refine Met.ofW (cc := code') (maxL := maxL) (ret := ret') hy rfl ?_
  intro p e s m args below meth c s₁ B hml hv
  obtain ⟨rfl, hH, hK⟩ := hv
  have hts := atoms_spec (ws := .code y code' maxL ret' :: th_tb) B.pre
  have hl := lv_entry av (n := maxL) hlen
  rw [lg_entry_eq]
  generalize (lg_sl av ++ List.replicate (maxL - (lg_sl av).length) Slot.unset).toArray = ls at hl ⊢
  have hw := body p e s m below meth c ⟨B.exec, B.bytes, hml, hown ▸ findClass_of_methodNamed B.named, fun w hw => hts w (List.mem_cons_of_mem _ hw), hK⟩ hH B.returns B.notSynchronized (name_of_methodNamed B.named B.method).1 ls hl
  rw [← hH] at hw
  exact hw
/-- what the tables say of a method -/
def th_MF (y : MethodName) (bytes : ByteArray) (maxL : Nat) (ret' : Option FieldType) (n : Nat) : Prop := Cond.code y bytes maxL ret' ∈ th_tb ∧ Cond.initialized y.cls ∈ th_tb ∧ (y.cls ≠ "java/lang/invoke/MethodHandle" ∧ y.cls ≠ "java/lang/invoke/VarHandle" ∧ (parseMethodDescriptor y.desc).map (fun d => d.parameters.length) = some n)
theorem th_good {w0 : Cond} (h : w0 ∈ th_tb) : GoodIn th_tb (w0 :: th_tb) := fun w hw => by
  have hm : w ∈ th_tb := (List.mem_cons.mp hw).elim (fun e => e ▸ h) id
  exact ⟨hm, good_of_word (List.mem_filter.mp hm).2⟩
theorem th_cb {nL : Nat} {own : String} (hC : th_C p s m args c cc nL own G) {y : MethodName} {bytes : ByteArray} {maxL n index : Nat} {ret' : Option FieldType} {rm : Room} {mc ms : Nat} (hF : th_MF y bytes maxL ret' n) (hlk : Cond.methodLink own index y ∈ th_tb) (hrc : rm.cells = mc) (hrs : rm.slots = ms) (hR : rm.frames + 1 ≤ R.frames ∧ 8 + (maxL + 11) + rm.locals ≤ R.locals) :
    CallB R s args own index y bytes maxL ret' (.code y bytes maxL ret' :: th_tb) rm mc ms n :=
  callB_of n hC.2.2.2.2.1 (th_good hF.1) rfl hrc hrs (hC.2.2.2.2.1 _ hF.2.1) (hC.2.2.2.2.1 _ hlk) hF.2.2 hR
theorem th_runS {nL : Nat} {own : String} (hC : th_C p s m args c cc nL own G) {y : MethodName} {bytes : ByteArray} {maxL n index mc ms : Nat} {ret' : Option FieldType} {rm : Room} {post : Option Value → Heap → Prop} {As : List Value} (hF : th_MF y bytes maxL ret' n) (hlk : Cond.methodLink own index y ∈ th_tb) (hst : Cond.static y ∈ th_tb)
    (hM : Met l y (.code y bytes maxL ret' :: th_tb) rm (th_P As G H) (th_Q post G) mc ms (fun q => G.1.2.2 ≤ q)) (hrc : rm.cells = mc) (hrs : rm.slots = ms) (hR : rm.frames + 1 ≤ R.frames ∧ 8 + (maxL + 11) + rm.locals ≤ R.locals)
    {st0 : List Value} (hn : As.length = n) (hsize : ls.size = nL) (hstack : st0 = As.reverse ++ rest) (hW : (rest.map fun v => v.category).sum ≤ 8) (hdg : decode cc pc = .ok (.invokestatic index, 3)) (hf : cells + mc ≤ R.cells ∧ slots + ms ≤ R.slots) :
    va_Run p l e R s m args below meth c H locs cells slots mc ms (F0 m pc ls st0) rest (th_Q post G As.toArray) (fun q => G.1.2.2 ≤ q) :=
  va_runS (nL := nL) (Ts := th_tb) ⟨hC.1, hC.2.1, hC.2.2.1, hC.2.2.2.1, hC.2.2.2.2.1⟩ hM ⟨th_cb hC hF hlk hrc hrs hR, hC.2.2.2.2.1 _ hst⟩ ⟨th_blind, fun U hU hW => ⟨rfl, hU, th_K_moved hW.alike hC.2.2.2.2.2⟩⟩ rfl hn hsize hstack (lv_room hW) hdg hf
theorem th_runV {nL : Nat} {own : String} (hC : th_C p s m args c cc nL own G) {y : MethodName} {bytes : ByteArray} {maxL n index mc ms : Nat} {ret' : Option FieldType} {rm : Room} {post : Option Value → Heap → Prop} {As : List Value} {b : Nat} (hF : th_MF y bytes maxL ret' n) (hlk : Cond.methodLink own index y ∈ th_tb) (hin : Cond.instanceMethod y ∈ th_tb) (hse : Cond.selects y.cls y y ∈ th_tb)
    (hM : Met l y (.code y bytes maxL ret' :: th_tb) rm (th_P (.ref b :: As) G H) (th_Q post G) mc ms (fun q => G.1.2.2 ≤ q)) (hrc : rm.cells = mc) (hrs : rm.slots = ms) (hR : rm.frames + 1 ≤ R.frames ∧ 8 + (maxL + 11) + rm.locals ≤ R.locals)
    {T : u_T} {N k r o : Nat} {fs : List th_sp} (hI : th_I G Γ H) (ha : Γ b = (r, o)) (hr : th_ro r = some (.inl (k, fs))) (hc : th_cl[k]? = some (y.cls, T, N))
    {st0 : List Value} (hn : As.length = n) (hsize : ls.size = nL) (hstack : st0 = As.reverse ++ .ref b :: rest) (hW : (rest.map fun v => v.category).sum ≤ 8) (hdg : decode cc pc = .ok (.invokevirtual index, 3)) (hf : cells + mc ≤ R.cells ∧ slots + ms ≤ R.slots) :
    va_Run p l e R s m args below meth c H locs cells slots mc ms (F0 m pc ls st0) rest (th_Q post G (Value.ref b :: As).toArray) (fun q => G.1.2.2 ≤ q) := by
  obtain ⟨-, ⟨cell, q1, q2, q3, -⟩, -⟩ := hI b r o _ ha hr
  exact va_runV (nL := nL) (Ts := th_tb) (C := y.cls) ⟨hC.1, hC.2.1, hC.2.2.1, hC.2.2.2.1, hC.2.2.2.2.1⟩ hM ⟨th_cb hC hF hlk hrc hrs hR, hC.2.2.2.2.1 _ hin, hC.2.2.2.2.1 _ hse⟩ ⟨th_blind, ⟨cell, q1, by rw [q3]; rfl, by rw [q2]; exact (hC.2.2.2.2.2.1.1 k _ hc).2.1⟩, fun U hU hW => ⟨rfl, hU, th_K_moved hW.alike hC.2.2.2.2.2⟩⟩ rfl hn hsize hstack (lv_room hW) hdg hf
theorem th_runI {nL : Nat} {own : String} (hC : th_C p s m args c cc nL own G) {y : MethodName} {bytes : ByteArray} {maxL n index mc ms : Nat} {rm : Room} {post : Option Value → Heap → Prop} {As : List Value} {b : Nat} (hF : th_MF y bytes maxL none n) (hlk : Cond.methodLink own index y ∈ th_tb) (hin : Cond.instanceMethod y ∈ th_tb) (hy1 : y.name = "<init>")
    (hM : Met l y (.code y bytes maxL none :: th_tb) rm (th_P (.ref b :: As) G H) (th_Q post G) mc ms (fun q => G.1.2.2 ≤ q)) (hrc : rm.cells = mc) (hrs : rm.slots = ms) (hR : rm.frames + 1 ≤ R.frames ∧ 8 + (maxL + 11) + rm.locals ≤ R.locals)
    {st0 : List Value} (hn : As.length = n) (hsize : ls.size = nL) (hstack : st0 = As.reverse ++ .ref b :: rest) (hW : (rest.map fun v => v.category).sum ≤ 8) (hdg : decode cc pc = .ok (.invokespecial index, 3)) (hf : cells + mc ≤ R.cells ∧ slots + ms ≤ R.slots) :
    va_Run p l e R s m args below meth c H locs cells slots mc ms (F0 m pc ls st0) rest (th_Q post G (Value.ref b :: As).toArray) (fun q => G.1.2.2 ≤ q) :=
  va_runI (nL := nL) (Ts := th_tb) ⟨hC.1, hC.2.1, hC.2.2.1, hC.2.2.2.1, hC.2.2.2.2.1⟩ hM ⟨th_cb hC hF hlk hrc hrs hR, hy1, hC.2.2.2.2.1 _ hin⟩ ⟨th_blind, fun U hU hW => ⟨rfl, hU, th_K_moved hW.alike hC.2.2.2.2.2⟩⟩ rfl hn hsize hstack (lv_room hW) hdg hf
theorem th_call {post : Option Value → Heap → Prop} {a : Array Value} {mc ms : Nat} {st0 : List Value} (hr : va_Run p l e R s m args below meth c H locs cells slots mc ms (F0 m pc ls st0) rest (th_Q post G a) (fun q => G.1.2.2 ≤ q)) (hS : va_S (fun q => G.1.2.2 ≤ q) H0 H locs)
    (kk : ∀ (v : Option Value) (H1 : Heap) (locs1 : List Loc), post v H1 → H.size ≤ H1.size → va_S (fun q => G.1.2.2 ≤ q) H0 H1 locs1 → W p l e R s m args below meth c H1 locs1 (cells + mc) (slots + ms) Q (F0 m (pc + 3) ls (v.toList ++ rest))) : W p l e R s m args below meth c H locs cells slots Q (F0 m pc ls st0) := by
  intro T hT X
  obtain ⟨v, st₀, t, T', L, h0, X', hL, e1, e2, ⟨⟨v', hv, hp⟩, hz, hk⟩, st⟩ := hr T hT X
  cases hv
  rw [h0] at hz hk
  obtain ⟨t2, a1, b1⟩ := kk v T'.heap (locs ++ L) (by rw [e1]; exact hp) (by rw [e1]; exact hz)
    ⟨Nat.le_trans hS.1 (by rw [e1]; exact hz), fun q h1 h2 => by rw [e1, hk q (Nat.lt_of_lt_of_le h1 hS.1) h2]; exact hS.2.1 q h1 h2, fun q hq => by
      rcases List.mem_append.mp hq with h | h
      · exact hS.2.2 q h
      · exact hL q h⟩ T' rfl X'
  exact ⟨t2, st t2 a1, b1⟩
theorem th_iret {nL : Nat} {own : String} (hC : th_C p s m args c cc nL own G) {post : Option Value → Heap → Prop} {v : Int32} {ty : FieldType} (hH : s.heap = H0) (hr : meth.sig.returnType = some ty) (hlocks : meth.locks = false) (hn : narrow ty (.int v) = .int v) (hS : va_S (fun q => G.1.2.2 ≤ q) H0 H locs) (hp : post (some (.int v)) H) (hdg : decode cc pc = .ok (.ireturn, 1)) :
    W p l e R s m args below meth c H locs cells slots (MQ below (th_Q post G) args s cells slots (fun q => G.1.2.2 ≤ q)) (F0 m pc ls [.int v]) :=
  W.zret hC.1 hC.2.1 hr hn (fun t ht _ => ⟨⟨_, rfl, by rw [ht]; exact hp⟩, by subst hH; exact hS.F ht⟩) hS.2.2 hdg hlocks
theorem th_vret {nL : Nat} {own : String} (hC : th_C p s m args c cc nL own G) {post : Option Value → Heap → Prop} (hH : s.heap = H0) (hr : meth.sig.returnType = none) (hlocks : meth.locks = false) (hS : va_S (fun q => G.1.2.2 ≤ q) H0 H locs) (hp : post none H) (hdg : decode cc pc = .ok (.return_, 1)) :
    W p l e R s m args below meth c H locs cells slots (MQ below (th_Q post G) args s cells slots (fun q => G.1.2.2 ≤ q)) (F0 m pc ls []) :=
  W.vret hC.1 hC.2.1 hr (fun t ht _ => ⟨⟨_, rfl, by rw [ht]; exact hp⟩, by subst hH; exact hS.F ht⟩) hS.2.2 hdg hlocks
theorem th_lret {nL : Nat} {own : String} (hC : th_C p s m args c cc nL own G) {post : Option Value → Heap → Prop} {v : Int64} (hH : s.heap = H0) (hr : meth.sig.returnType = some .long) (hlocks : meth.locks = false) (hS : va_S (fun q => G.1.2.2 ≤ q) H0 H locs) (hp : post (some (.long v)) H) (hdg : decode cc pc = .ok (.lreturn, 1)) :
    W p l e R s m args below meth c H locs cells slots (MQ below (th_Q post G) args s cells slots (fun q => G.1.2.2 ≤ q)) (F0 m pc ls [.long v]) :=
  W.lret hC.1 hC.2.1 hr (fun t ht _ => ⟨⟨_, rfl, by rw [ht]; exact hp⟩, by subst hH; exact hS.F ht⟩) hS.2.2 hdg hlocks
theorem th_aret {nL : Nat} {own : String} (hC : th_C p s m args c cc nL own G) {post : Option Value → Heap → Prop} {v : Value} {rt : FieldType} (hH : s.heap = H0) (hr : meth.sig.returnType = some rt) (hrt : (∃ n, rt = .object n) ∨ ∃ t, rt = .array t) (hv : v = .null ∨ ∃ a, v = .ref a) (hlocks : meth.locks = false) (hS : va_S (fun q => G.1.2.2 ≤ q) H0 H locs) (hp : post (some v) H) (hdg : decode cc pc = .ok (.areturn, 1)) :
    W p l e R s m args below meth c H locs cells slots (MQ below (th_Q post G) args s cells slots (fun q => G.1.2.2 ≤ q)) (F0 m pc ls [v]) :=
  W.aret hC.1 hC.2.1 hr hrt hv (fun t ht _ => ⟨⟨_, rfl, by rw [ht]; exact hp⟩, by subst hH; exact hS.F ht⟩) hS.2.2 hdg hlocks
end THR
end
section
theorem kf_X11_12 : Cond.fieldLink RX11 12 RX11 (TX11 0).2.1 (TX11 0).2.2.1 ∈ th_tb := kw_377
theorem kf_X11_16 : Cond.fieldLink RX11 16 RX11 (TX11 1).2.1 (TX11 1).2.2.1 ∈ th_tb := kw_378
theorem kf_X11_20 : Cond.fieldLink RX11 20 RX11 (TX11 2).2.1 (TX11 2).2.2.1 ∈ th_tb := kw_379
theorem kf_X11_27 : Cond.fieldLink RX11 27 RX11 (TX11 3).2.1 (TX11 3).2.2.1 ∈ th_tb := kw_380
theorem kf_X11_31 : Cond.fieldLink RX11 31 RX11 (TX11 4).2.1 (TX11 4).2.2.1 ∈ th_tb := kw_381
theorem kf_X11_37 : Cond.fieldLink RX11 37 RX11 (TX11 5).2.1 (TX11 5).2.2.1 ∈ th_tb := kw_382
theorem kf_X11_44 : Cond.fieldLink RX11 44 RX11 (TX11 6).2.1 (TX11 6).2.2.1 ∈ th_tb := kw_383
theorem kf_X11_51 : Cond.fieldLink RX11 51 RX11 (TX11 7).2.1 (TX11 7).2.2.1 ∈ th_tb := kw_384
theorem kf_X11_58 : Cond.fieldLink RX11 58 RX11 (TX11 8).2.1 (TX11 8).2.2.1 ∈ th_tb := kw_385
theorem kf_X11_65 : Cond.fieldLink RX11 65 RX11 (TX11 9).2.1 (TX11 9).2.2.1 ∈ th_tb := kw_386
theorem kf_X11_72 : Cond.fieldLink RX11 72 RX11 (TX11 10).2.1 (TX11 10).2.2.1 ∈ th_tb := kw_387
theorem kf_X11_79 : Cond.fieldLink RX11 79 RX11 (TX11 11).2.1 (TX11 11).2.2.1 ∈ th_tb := kw_388
theorem kf_X11_86 : Cond.fieldLink RX11 86 RX11 (TX11 12).2.1 (TX11 12).2.2.1 ∈ th_tb := kw_389
theorem kf_X11_90 : Cond.fieldLink RX11 90 RX11 (TX11 13).2.1 (TX11 13).2.2.1 ∈ th_tb := kw_390
theorem kf_X11_94 : Cond.fieldLink RX11 94 RX11 (TX11 14).2.1 (TX11 14).2.2.1 ∈ th_tb := kw_391
theorem kf_X11_98 : Cond.fieldLink RX11 98 RX11 (TX11 15).2.1 (TX11 15).2.2.1 ∈ th_tb := kw_392
theorem kf_X11_101 : Cond.fieldLink RX11 101 RX11 (TX11 16).2.1 (TX11 16).2.2.1 ∈ th_tb := kw_393
theorem kf_X11_104 : Cond.fieldLink RX11 104 RX11 (TX11 17).2.1 (TX11 17).2.2.1 ∈ th_tb := kw_394
theorem kf_X11_107 : Cond.fieldLink RX11 107 RX8 (TX8 0).2.1 (TX8 0).2.2.1 ∈ th_tb := kw_131
theorem kf_X11_125 : Cond.fieldLink RX11 125 RX1 (TX1 0).2.1 (TX1 0).2.2.1 ∈ th_tb := kw_45
theorem kf_X11_128 : Cond.fieldLink RX11 128 RX1 (TX1 1).2.1 (TX1 1).2.2.1 ∈ th_tb := kw_49
theorem kf_X11_131 : Cond.fieldLink RX11 131 RX1 (TX1 2).2.1 (TX1 2).2.2.1 ∈ th_tb := kw_52
theorem kf_X11_134 : Cond.fieldLink RX11 134 RX1 (TX1 3).2.1 (TX1 3).2.2.1 ∈ th_tb := kw_57
theorem kf_X11_137 : Cond.fieldLink RX11 137 RX1 (TX1 4).2.1 (TX1 4).2.2.1 ∈ th_tb := kw_60
theorem kf_X11_155 : Cond.fieldLink RX11 155 RX1 (TX1 8).2.1 (TX1 8).2.2.1 ∈ th_tb := kw_73
theorem kf_X11_158 : Cond.fieldLink RX11 158 RX1 (TX1 9).2.1 (TX1 9).2.2.1 ∈ th_tb := kw_76
theorem kf_X11_183 : Cond.fieldLink RX11 183 RX1 (TX1 5).2.1 (TX1 5).2.2.1 ∈ th_tb := kw_65
theorem kf_X11_186 : Cond.fieldLink RX11 186 RX9 (TX9 1).2.1 (TX9 1).2.2.1 ∈ th_tb := kw_181
theorem kf_X11_193 : Cond.fieldLink RX11 193 RX9 (TX9 0).2.1 (TX9 0).2.2.1 ∈ th_tb := kw_178
theorem kf_X11_196 : Cond.fieldLink RX11 196 RX8 (TX8 5).2.1 (TX8 5).2.2.1 ∈ th_tb := kw_144
theorem kf_X11_199 : Cond.fieldLink RX11 199 RX8 (TX8 1).2.1 (TX8 1).2.2.1 ∈ th_tb := kw_133
theorem kf_X11_211 : Cond.fieldLink RX11 211 RX6 (TX6 1).2.1 (TX6 1).2.2.1 ∈ th_tb := kw_232
theorem kf_X11_214 : Cond.fieldLink RX11 214 RX10 (TX10 3).2.1 (TX10 3).2.2.1 ∈ th_tb := kw_120
theorem kf_X11_230 : Cond.fieldLink RX11 230 RX8 (TX8 6).2.1 (TX8 6).2.2.1 ∈ th_tb := kw_146
theorem kf_X11_298 : Cond.fieldLink RX11 298 RX1 (TX1 7).2.1 (TX1 7).2.2.1 ∈ th_tb := kw_70
theorem kf_X11_307 : Cond.fieldLink RX11 307 RX8 (TX8 7).2.1 (TX8 7).2.2.1 ∈ th_tb := kw_149
theorem kf_X11_310 : Cond.fieldLink RX11 310 RX8 (TX8 2).2.1 (TX8 2).2.2.1 ∈ th_tb := kw_136
theorem kf_X11_313 : Cond.fieldLink RX11 313 RX8 (TX8 3).2.1 (TX8 3).2.2.1 ∈ th_tb := kw_139
theorem kf_X11_316 : Cond.fieldLink RX11 316 RX8 (TX8 4).2.1 (TX8 4).2.2.1 ∈ th_tb := kw_142
theorem kf_X11_348 : Cond.fieldLink RX11 348 RX1 (TX1 10).2.1 (TX1 10).2.2.1 ∈ th_tb := kw_80
theorem kf_X11_351 : Cond.fieldLink RX11 351 RX4 (TX4 4).2.1 (TX4 4).2.2.1 ∈ th_tb := kw_272
theorem kf_X11_384 : Cond.fieldLink RX11 384 RX6 (TX6 2).2.1 (TX6 2).2.2.1 ∈ th_tb := kw_235
theorem kf_X0_9 : Cond.fieldLink RX0 9 RX0 (TX0 0).2.1 (TX0 0).2.2.1 ∈ th_tb := kw_373
theorem kf_X1_9 : Cond.fieldLink RX1 9 RX1 (TX1 0).2.1 (TX1 0).2.2.1 ∈ th_tb := kw_42
theorem kf_X1_15 : Cond.fieldLink RX1 15 RX1 (TX1 1).2.1 (TX1 1).2.2.1 ∈ th_tb := kw_47
theorem kf_X1_18 : Cond.fieldLink RX1 18 RX1 (TX1 2).2.1 (TX1 2).2.2.1 ∈ th_tb := kw_50
theorem kf_X1_21 : Cond.fieldLink RX1 21 RX1 (TX1 3).2.1 (TX1 3).2.2.1 ∈ th_tb := kw_54
theorem kf_X1_24 : Cond.fieldLink RX1 24 RX1 (TX1 4).2.1 (TX1 4).2.2.1 ∈ th_tb := kw_58
theorem kf_X1_27 : Cond.fieldLink RX1 27 RX1 (TX1 5).2.1 (TX1 5).2.2.1 ∈ th_tb := kw_62
theorem kf_X1_30 : Cond.fieldLink RX1 30 RX1 (TX1 6).2.1 (TX1 6).2.2.1 ∈ th_tb := kw_66
theorem kf_X1_33 : Cond.fieldLink RX1 33 RX1 (TX1 7).2.1 (TX1 7).2.2.1 ∈ th_tb := kw_68
theorem kf_X1_37 : Cond.fieldLink RX1 37 RX1 (TX1 8).2.1 (TX1 8).2.2.1 ∈ th_tb := kw_71
theorem kf_X1_40 : Cond.fieldLink RX1 40 RX1 (TX1 9).2.1 (TX1 9).2.2.1 ∈ th_tb := kw_74
theorem kf_X1_43 : Cond.fieldLink RX1 43 RX1 (TX1 10).2.1 (TX1 10).2.2.1 ∈ th_tb := kw_77
theorem kf_X2_12 : Cond.fieldLink RX2 12 RX2 (TX2 0).2.1 (TX2 0).2.2.1 ∈ th_tb := kw_255
theorem kf_X2_28 : Cond.fieldLink RX2 28 RX6 (TX6 2).2.1 (TX6 2).2.2.1 ∈ th_tb := kw_234
theorem kf_X2_41 : Cond.fieldLink RX2 41 RX1 (TX1 0).2.1 (TX1 0).2.2.1 ∈ th_tb := kw_44
theorem kf_X2_46 : Cond.fieldLink RX2 46 RX1 (TX1 3).2.1 (TX1 3).2.2.1 ∈ th_tb := kw_55
theorem kf_X2_49 : Cond.fieldLink RX2 49 RX1 (TX1 4).2.1 (TX1 4).2.2.1 ∈ th_tb := kw_59
theorem kf_X2_52 : Cond.fieldLink RX2 52 RX10 (TX10 3).2.1 (TX10 3).2.2.1 ∈ th_tb := kw_119
theorem kf_X3_11 : Cond.fieldLink RX3 11 RX3 (TX3 0).2.1 (TX3 0).2.2.1 ∈ th_tb := kw_300
theorem kf_X3_15 : Cond.fieldLink RX3 15 RX3 (TX3 1).2.1 (TX3 1).2.2.1 ∈ th_tb := kw_301
theorem kf_X3_19 : Cond.fieldLink RX3 19 RX3 (TX3 2).2.1 (TX3 2).2.2.1 ∈ th_tb := kw_302
theorem kf_X3_23 : Cond.fieldLink RX3 23 RX3 (TX3 3).2.1 (TX3 3).2.2.1 ∈ th_tb := kw_303
theorem kf_X3_26 : Cond.fieldLink RX3 26 RX3 (TX3 4).2.1 (TX3 4).2.2.1 ∈ th_tb := kw_304
theorem kf_X3_29 : Cond.fieldLink RX3 29 RX3 (TX3 5).2.1 (TX3 5).2.2.1 ∈ th_tb := kw_305
theorem kf_X3_32 : Cond.fieldLink RX3 32 RX3 (TX3 6).2.1 (TX3 6).2.2.1 ∈ th_tb := kw_307
theorem kf_X4_11 : Cond.fieldLink RX4 11 RX4 (TX4 0).2.1 (TX4 0).2.2.1 ∈ th_tb := kw_267
theorem kf_X4_15 : Cond.fieldLink RX4 15 RX4 (TX4 1).2.1 (TX4 1).2.2.1 ∈ th_tb := kw_268
theorem kf_X4_21 : Cond.fieldLink RX4 21 RX4 (TX4 2).2.1 (TX4 2).2.2.1 ∈ th_tb := kw_269
theorem kf_X4_25 : Cond.fieldLink RX4 25 RX4 (TX4 3).2.1 (TX4 3).2.2.1 ∈ th_tb := kw_270
theorem kf_X4_29 : Cond.fieldLink RX4 29 RX4 (TX4 4).2.1 (TX4 4).2.2.1 ∈ th_tb := kw_271
theorem kf_X4_38 : Cond.fieldLink RX4 38 RX1 (TX1 10).2.1 (TX1 10).2.2.1 ∈ th_tb := kw_79
theorem kf_X4_41 : Cond.fieldLink RX4 41 RX1 (TX1 5).2.1 (TX1 5).2.2.1 ∈ th_tb := kw_64
theorem kf_X4_44 : Cond.fieldLink RX4 44 RX1 (TX1 3).2.1 (TX1 3).2.2.1 ∈ th_tb := kw_56
theorem kf_X4_47 : Cond.fieldLink RX4 47 RX1 (TX1 4).2.1 (TX1 4).2.2.1 ∈ th_tb := kw_61
theorem kf_X4_50 : Cond.fieldLink RX4 50 RX1 (TX1 2).2.1 (TX1 2).2.2.1 ∈ th_tb := kw_53
theorem kf_X5_11 : Cond.fieldLink RX5 11 RX5 (TX5 0).2.1 (TX5 0).2.2.1 ∈ th_tb := kw_194
theorem kf_X5_15 : Cond.fieldLink RX5 15 RX5 (TX5 1).2.1 (TX5 1).2.2.1 ∈ th_tb := kw_195
theorem kf_X5_18 : Cond.fieldLink RX5 18 RX5 (TX5 2).2.1 (TX5 2).2.2.1 ∈ th_tb := kw_196
theorem kf_X5_22 : Cond.fieldLink RX5 22 RX5 (TX5 3).2.1 (TX5 3).2.2.1 ∈ th_tb := kw_197
theorem kf_X5_26 : Cond.fieldLink RX5 26 RX5 (TX5 4).2.1 (TX5 4).2.2.1 ∈ th_tb := kw_198
theorem kf_X5_30 : Cond.fieldLink RX5 30 RX5 (TX5 5).2.1 (TX5 5).2.2.1 ∈ th_tb := kw_199
theorem kf_X5_34 : Cond.fieldLink RX5 34 RX5 (TX5 6).2.1 (TX5 6).2.2.1 ∈ th_tb := kw_200
theorem kf_X5_37 : Cond.fieldLink RX5 37 RX5 (TX5 7).2.1 (TX5 7).2.2.1 ∈ th_tb := kw_201
theorem kf_X5_40 : Cond.fieldLink RX5 40 RX5 (TX5 8).2.1 (TX5 8).2.2.1 ∈ th_tb := kw_202
theorem kf_X5_61 : Cond.fieldLink RX5 61 RX9 (TX9 1).2.1 (TX9 1).2.2.1 ∈ th_tb := kw_180
theorem kf_X5_66 : Cond.fieldLink RX5 66 RX9 (TX9 0).2.1 (TX9 0).2.2.1 ∈ th_tb := kw_177
theorem kf_X5_174 : Cond.fieldLink RX5 174 RX10 (TX10 2).2.1 (TX10 2).2.2.1 ∈ th_tb := kw_117
theorem kf_X6_9 : Cond.fieldLink RX6 9 RX6 (TX6 0).2.1 (TX6 0).2.2.1 ∈ th_tb := kw_230
theorem kf_X6_17 : Cond.fieldLink RX6 17 RX6 (TX6 1).2.1 (TX6 1).2.2.1 ∈ th_tb := kw_231
theorem kf_X6_23 : Cond.fieldLink RX6 23 RX6 (TX6 2).2.1 (TX6 2).2.2.1 ∈ th_tb := kw_233
theorem kf_X6_26 : Cond.fieldLink RX6 26 RX6 (TX6 3).2.1 (TX6 3).2.2.1 ∈ th_tb := kw_236
theorem kf_X6_30 : Cond.fieldLink RX6 30 RX1 (TX1 0).2.1 (TX1 0).2.2.1 ∈ th_tb := kw_43
theorem kf_X6_35 : Cond.fieldLink RX6 35 RX1 (TX1 1).2.1 (TX1 1).2.2.1 ∈ th_tb := kw_48
theorem kf_X6_38 : Cond.fieldLink RX6 38 RX1 (TX1 2).2.1 (TX1 2).2.2.1 ∈ th_tb := kw_51
theorem kf_X6_41 : Cond.fieldLink RX6 41 RX1 (TX1 5).2.1 (TX1 5).2.2.1 ∈ th_tb := kw_63
theorem kf_X6_48 : Cond.fieldLink RX6 48 RX1 (TX1 10).2.1 (TX1 10).2.2.1 ∈ th_tb := kw_78
theorem kf_X6_67 : Cond.fieldLink RX6 67 RX10 (TX10 2).2.1 (TX10 2).2.2.1 ∈ th_tb := kw_116
theorem kf_X6_70 : Cond.fieldLink RX6 70 RX10 (TX10 0).2.1 (TX10 0).2.2.1 ∈ th_tb := kw_113
theorem kf_X7_12 : Cond.fieldLink RX7 12 RX7 (TX7 0).2.1 (TX7 0).2.2.1 ∈ th_tb := kw_324
theorem kf_X7_18 : Cond.fieldLink RX7 18 RX7 (TX7 1).2.1 (TX7 1).2.2.1 ∈ th_tb := kw_325
theorem kf_X7_22 : Cond.fieldLink RX7 22 RX7 (TX7 2).2.1 (TX7 2).2.2.1 ∈ th_tb := kw_326
theorem kf_X7_25 : Cond.fieldLink RX7 25 RX7 (TX7 3).2.1 (TX7 3).2.2.1 ∈ th_tb := kw_327
theorem kf_X7_28 : Cond.fieldLink RX7 28 RX7 (TX7 4).2.1 (TX7 4).2.2.1 ∈ th_tb := kw_328
theorem kf_X7_31 : Cond.fieldLink RX7 31 RX7 (TX7 5).2.1 (TX7 5).2.2.1 ∈ th_tb := kw_329
theorem kf_X7_35 : Cond.fieldLink RX7 35 RX7 (TX7 6).2.1 (TX7 6).2.2.1 ∈ th_tb := kw_330
theorem kf_X7_38 : Cond.fieldLink RX7 38 RX7 (TX7 8).2.1 (TX7 8).2.2.1 ∈ th_tb := kw_332
theorem kf_X7_42 : Cond.fieldLink RX7 42 RX7 (TX7 9).2.1 (TX7 9).2.2.1 ∈ th_tb := kw_333
theorem kf_X7_46 : Cond.fieldLink RX7 46 RX7 (TX7 7).2.1 (TX7 7).2.2.1 ∈ th_tb := kw_331
theorem kf_X7_50 : Cond.fieldLink RX7 50 RX7 (TX7 10).2.1 (TX7 10).2.2.1 ∈ th_tb := kw_334
theorem kf_X7_63 : Cond.fieldLink RX7 63 RX7 (TX7 11).2.1 (TX7 11).2.2.1 ∈ th_tb := kw_335
theorem kf_X7_66 : Cond.fieldLink RX7 66 RX8 (TX8 7).2.1 (TX8 7).2.2.1 ∈ th_tb := kw_148
theorem kf_X7_71 : Cond.fieldLink RX7 71 RX8 (TX8 2).2.1 (TX8 2).2.2.1 ∈ th_tb := kw_135
theorem kf_X7_74 : Cond.fieldLink RX7 74 RX1 (TX1 8).2.1 (TX1 8).2.2.1 ∈ th_tb := kw_72
theorem kf_X7_77 : Cond.fieldLink RX7 77 RX8 (TX8 3).2.1 (TX8 3).2.2.1 ∈ th_tb := kw_138
theorem kf_X7_80 : Cond.fieldLink RX7 80 RX1 (TX1 9).2.1 (TX1 9).2.2.1 ∈ th_tb := kw_75
theorem kf_X7_87 : Cond.fieldLink RX7 87 RX1 (TX1 0).2.1 (TX1 0).2.2.1 ∈ th_tb := kw_46
theorem kf_X7_90 : Cond.fieldLink RX7 90 RX8 (TX8 4).2.1 (TX8 4).2.2.1 ∈ th_tb := kw_141
theorem kf_X7_123 : Cond.fieldLink RX7 123 RX1 (TX1 7).2.1 (TX1 7).2.2.1 ∈ th_tb := kw_69
theorem kf_X7_131 : Cond.fieldLink RX7 131 RX7 (TX7 12).2.1 (TX7 12).2.2.1 ∈ th_tb := kw_336
theorem kf_X7_135 : Cond.fieldLink RX7 135 RX7 (TX7 13).2.1 (TX7 13).2.2.1 ∈ th_tb := kw_337
theorem kf_X7_167 : Cond.fieldLink RX7 167 RX1 (TX1 6).2.1 (TX1 6).2.2.1 ∈ th_tb := kw_67
theorem kf_X7_196 : Cond.fieldLink RX7 196 RX3 (TX3 6).2.1 (TX3 6).2.2.1 ∈ th_tb := kw_308
theorem kf_X7_206 : Cond.fieldLink RX7 206 RX3 (TX3 5).2.1 (TX3 5).2.2.1 ∈ th_tb := kw_306
theorem kf_X8_12 : Cond.fieldLink RX8 12 RX8 (TX8 0).2.1 (TX8 0).2.2.1 ∈ th_tb := kw_130
theorem kf_X8_20 : Cond.fieldLink RX8 20 RX8 (TX8 1).2.1 (TX8 1).2.2.1 ∈ th_tb := kw_132
theorem kf_X8_24 : Cond.fieldLink RX8 24 RX8 (TX8 2).2.1 (TX8 2).2.2.1 ∈ th_tb := kw_134
theorem kf_X8_28 : Cond.fieldLink RX8 28 RX8 (TX8 3).2.1 (TX8 3).2.2.1 ∈ th_tb := kw_137
theorem kf_X8_31 : Cond.fieldLink RX8 31 RX8 (TX8 4).2.1 (TX8 4).2.2.1 ∈ th_tb := kw_140
theorem kf_X8_34 : Cond.fieldLink RX8 34 RX8 (TX8 5).2.1 (TX8 5).2.2.1 ∈ th_tb := kw_143
theorem kf_X8_38 : Cond.fieldLink RX8 38 RX8 (TX8 6).2.1 (TX8 6).2.2.1 ∈ th_tb := kw_145
theorem kf_X8_41 : Cond.fieldLink RX8 41 RX8 (TX8 7).2.1 (TX8 7).2.2.1 ∈ th_tb := kw_147
theorem kf_X9_9 : Cond.fieldLink RX9 9 RX9 (TX9 0).2.1 (TX9 0).2.2.1 ∈ th_tb := kw_176
theorem kf_X9_15 : Cond.fieldLink RX9 15 RX9 (TX9 1).2.1 (TX9 1).2.2.1 ∈ th_tb := kw_179
theorem kf_X10_11 : Cond.fieldLink RX10 11 RX10 (TX10 0).2.1 (TX10 0).2.2.1 ∈ th_tb := kw_112
theorem kf_X10_15 : Cond.fieldLink RX10 15 RX10 (TX10 1).2.1 (TX10 1).2.2.1 ∈ th_tb := kw_114
theorem kf_X10_18 : Cond.fieldLink RX10 18 RX10 (TX10 2).2.1 (TX10 2).2.2.1 ∈ th_tb := kw_115
theorem kf_X10_22 : Cond.fieldLink RX10 22 RX10 (TX10 3).2.1 (TX10 3).2.2.1 ∈ th_tb := kw_118
theorem kf_X12_3 : Cond.fieldLink RX12 3 RX12 (TX12 0).2.1 (TX12 0).2.2.1 ∈ th_tb := kw_1226
theorem kf_X12_7 : Cond.fieldLink RX12 7 RX12 (TX12 1).2.1 (TX12 1).2.2.1 ∈ th_tb := kw_1227
theorem kf_X12_11 : Cond.fieldLink RX12 11 RX12 (TX12 33).2.1 (TX12 33).2.2.1 ∈ th_tb := kw_1259
theorem kf_X12_28 : Cond.fieldLink RX12 28 RX12 (TX12 2).2.1 (TX12 2).2.2.1 ∈ th_tb := kw_1228
theorem kf_X12_31 : Cond.fieldLink RX12 31 RX12 (TX12 3).2.1 (TX12 3).2.2.1 ∈ th_tb := kw_1229
theorem kf_X12_34 : Cond.fieldLink RX12 34 RX12 (TX12 4).2.1 (TX12 4).2.2.1 ∈ th_tb := kw_1230
theorem kf_X12_38 : Cond.fieldLink RX12 38 RX12 (TX12 5).2.1 (TX12 5).2.2.1 ∈ th_tb := kw_1231
theorem kf_X12_41 : Cond.fieldLink RX12 41 RX12 (TX12 7).2.1 (TX12 7).2.2.1 ∈ th_tb := kw_1233
theorem kf_X12_45 : Cond.fieldLink RX12 45 RX12 (TX12 11).2.1 (TX12 11).2.2.1 ∈ th_tb := kw_1237
theorem kf_X12_48 : Cond.fieldLink RX12 48 RX12 (TX12 12).2.1 (TX12 12).2.2.1 ∈ th_tb := kw_1238
theorem kf_X12_51 : Cond.fieldLink RX12 51 RX12 (TX12 14).2.1 (TX12 14).2.2.1 ∈ th_tb := kw_1240
theorem kf_X12_54 : Cond.fieldLink RX12 54 RX12 (TX12 15).2.1 (TX12 15).2.2.1 ∈ th_tb := kw_1241
theorem kf_X12_57 : Cond.fieldLink RX12 57 RX12 (TX12 16).2.1 (TX12 16).2.2.1 ∈ th_tb := kw_1242
theorem kf_X12_60 : Cond.fieldLink RX12 60 RX12 (TX12 17).2.1 (TX12 17).2.2.1 ∈ th_tb := kw_1243
theorem kf_X12_63 : Cond.fieldLink RX12 63 RX12 (TX12 26).2.1 (TX12 26).2.2.1 ∈ th_tb := kw_1252
theorem kf_X12_66 : Cond.fieldLink RX12 66 RX12 (TX12 29).2.1 (TX12 29).2.2.1 ∈ th_tb := kw_1255
theorem kf_X12_69 : Cond.fieldLink RX12 69 RX12 (TX12 30).2.1 (TX12 30).2.2.1 ∈ th_tb := kw_1256
theorem kf_X12_72 : Cond.fieldLink RX12 72 RX12 (TX12 31).2.1 (TX12 31).2.2.1 ∈ th_tb := kw_1257
theorem kf_X12_75 : Cond.fieldLink RX12 75 RX12 (TX12 32).2.1 (TX12 32).2.2.1 ∈ th_tb := kw_1258
theorem kf_X12_78 : Cond.fieldLink RX12 78 RX12 (TX12 34).2.1 (TX12 34).2.2.1 ∈ th_tb := kw_1260
theorem kf_X12_81 : Cond.fieldLink RX12 81 RX12 (TX12 35).2.1 (TX12 35).2.2.1 ∈ th_tb := kw_1261
theorem kf_X12_84 : Cond.fieldLink RX12 84 RX12 (TX12 36).2.1 (TX12 36).2.2.1 ∈ th_tb := kw_1262
theorem kf_X12_87 : Cond.fieldLink RX12 87 RX12 (TX12 37).2.1 (TX12 37).2.2.1 ∈ th_tb := kw_1263
theorem kf_X12_90 : Cond.fieldLink RX12 90 RX12 (TX12 38).2.1 (TX12 38).2.2.1 ∈ th_tb := kw_1264
theorem kf_X12_93 : Cond.fieldLink RX12 93 RX12 (TX12 46).2.1 (TX12 46).2.2.1 ∈ th_tb := kw_1272
theorem kf_X12_97 : Cond.fieldLink RX12 97 RX12 (TX12 47).2.1 (TX12 47).2.2.1 ∈ th_tb := kw_1273
theorem kf_X12_100 : Cond.fieldLink RX12 100 RX12 (TX12 53).2.1 (TX12 53).2.2.1 ∈ th_tb := kw_1279
theorem kf_X12_103 : Cond.fieldLink RX12 103 RX12 (TX12 54).2.1 (TX12 54).2.2.1 ∈ th_tb := kw_1280
theorem kf_X12_106 : Cond.fieldLink RX12 106 RX12 (TX12 55).2.1 (TX12 55).2.2.1 ∈ th_tb := kw_1281
theorem kf_X12_169 : Cond.fieldLink RX12 169 RX12 (TX12 13).2.1 (TX12 13).2.2.1 ∈ th_tb := kw_1239
theorem kf_X12_172 : Cond.fieldLink RX12 172 RX12 (TX12 6).2.1 (TX12 6).2.2.1 ∈ th_tb := kw_1232
theorem kf_X12_175 : Cond.fieldLink RX12 175 RX12 (TX12 18).2.1 (TX12 18).2.2.1 ∈ th_tb := kw_1244
theorem kf_X12_189 : Cond.fieldLink RX12 189 RX12 (TX12 21).2.1 (TX12 21).2.2.1 ∈ th_tb := kw_1247
theorem kf_X12_196 : Cond.fieldLink RX12 196 RX12 (TX12 19).2.1 (TX12 19).2.2.1 ∈ th_tb := kw_1245
theorem kf_X12_205 : Cond.fieldLink RX12 205 RX12 (TX12 20).2.1 (TX12 20).2.2.1 ∈ th_tb := kw_1246
theorem kf_X12_224 : Cond.fieldLink RX12 224 RX12 (TX12 10).2.1 (TX12 10).2.2.1 ∈ th_tb := kw_1236
theorem kf_X12_250 : Cond.fieldLink RX12 250 RX12 (TX12 8).2.1 (TX12 8).2.2.1 ∈ th_tb := kw_1234
theorem kf_X12_253 : Cond.fieldLink RX12 253 RX12 (TX12 9).2.1 (TX12 9).2.2.1 ∈ th_tb := kw_1235
theorem kf_X12_278 : Cond.fieldLink RX12 278 RX12 (TX12 23).2.1 (TX12 23).2.2.1 ∈ th_tb := kw_1249
theorem kf_X12_281 : Cond.fieldLink RX12 281 RX12 (TX12 22).2.1 (TX12 22).2.2.1 ∈ th_tb := kw_1248
theorem kf_X12_291 : Cond.fieldLink RX12 291 RX12 (TX12 24).2.1 (TX12 24).2.2.1 ∈ th_tb := kw_1250
theorem kf_X12_311 : Cond.fieldLink RX12 311 RX12 (TX12 25).2.1 (TX12 25).2.2.1 ∈ th_tb := kw_1251
theorem kf_X12_317 : Cond.fieldLink RX12 317 RX12 (TX12 27).2.1 (TX12 27).2.2.1 ∈ th_tb := kw_1253
theorem kf_X12_320 : Cond.fieldLink RX12 320 RX12 (TX12 28).2.1 (TX12 28).2.2.1 ∈ th_tb := kw_1254
theorem kf_X12_400 : Cond.fieldLink RX12 400 RX12 (TX12 44).2.1 (TX12 44).2.2.1 ∈ th_tb := kw_1270
theorem kf_X12_406 : Cond.fieldLink RX12 406 RX12 (TX12 41).2.1 (TX12 41).2.2.1 ∈ th_tb := kw_1267
theorem kf_X12_409 : Cond.fieldLink RX12 409 RX12 (TX12 43).2.1 (TX12 43).2.2.1 ∈ th_tb := kw_1269
theorem kf_X12_415 : Cond.fieldLink RX12 415 RX12 (TX12 42).2.1 (TX12 42).2.2.1 ∈ th_tb := kw_1268
theorem kf_X12_418 : Cond.fieldLink RX12 418 RX12 (TX12 45).2.1 (TX12 45).2.2.1 ∈ th_tb := kw_1271
theorem kf_X12_421 : Cond.fieldLink RX12 421 RX12 (TX12 39).2.1 (TX12 39).2.2.1 ∈ th_tb := kw_1265
theorem kf_X12_424 : Cond.fieldLink RX12 424 RX12 (TX12 40).2.1 (TX12 40).2.2.1 ∈ th_tb := kw_1266
theorem kf_X12_480 : Cond.fieldLink RX12 480 RX12 (TX12 48).2.1 (TX12 48).2.2.1 ∈ th_tb := kw_1274
theorem kf_X12_489 : Cond.fieldLink RX12 489 RX12 (TX12 50).2.1 (TX12 50).2.2.1 ∈ th_tb := kw_1276
theorem kf_X12_492 : Cond.fieldLink RX12 492 RX12 (TX12 51).2.1 (TX12 51).2.2.1 ∈ th_tb := kw_1277
theorem kf_X12_495 : Cond.fieldLink RX12 495 RX12 (TX12 49).2.1 (TX12 49).2.2.1 ∈ th_tb := kw_1275
theorem kf_X12_498 : Cond.fieldLink RX12 498 RX12 (TX12 52).2.1 (TX12 52).2.2.1 ∈ th_tb := kw_1278
theorem kf_X12_516 : Cond.fieldLink RX12 516 RX12 (TX12 56).2.1 (TX12 56).2.2.1 ∈ th_tb := kw_1282
set_option maxRecDepth 10000 in
theorem cf_X0 : th_CF 0 RX0 TX0 1 tyX0 := by
  refine ⟨rfl, fun w hw => ?_, tyX0_ok, nmX0, by decide⟩
  obtain ⟨k, hk, rfl⟩ := List.mem_map.mp hw
  have hk := List.mem_range.mp hk
  match k, hk with
  | 0, _ => exact kw_374
  | k + 1, h => exact absurd h (by omega)
set_option maxRecDepth 10000 in
theorem cf_X1 : th_CF 1 RX1 TX1 11 tyX1 := by
  refine ⟨rfl, fun w hw => ?_, tyX1_ok, nmX1, by decide⟩
  obtain ⟨k, hk, rfl⟩ := List.mem_map.mp hw
  have hk := List.mem_range.mp hk
  match k, hk with
  | 0, _ => exact kw_81
  | 1, _ => exact kw_83
  | 2, _ => exact kw_85
  | 3, _ => exact kw_87
  | 4, _ => exact kw_89
  | 5, _ => exact kw_91
  | 6, _ => exact kw_93
  | 7, _ => exact kw_95
  | 8, _ => exact kw_97
  | 9, _ => exact kw_99
  | 10, _ => exact kw_101
  | k + 11, h => exact absurd h (by omega)
set_option maxRecDepth 10000 in
theorem cf_X2 : th_CF 2 RX2 TX2 1 tyX2 := by
  refine ⟨rfl, fun w hw => ?_, tyX2_ok, nmX2, by decide⟩
  obtain ⟨k, hk, rfl⟩ := List.mem_map.mp hw
  have hk := List.mem_range.mp hk
  match k, hk with
  | 0, _ => exact kw_256
  | k + 1, h => exact absurd h (by omega)
set_option maxRecDepth 10000 in
theorem cf_X3 : th_CF 3 RX3 TX3 7 tyX3 := by
  refine ⟨rfl, fun w hw => ?_, tyX3_ok, nmX3, by decide⟩
  obtain ⟨k, hk, rfl⟩ := List.mem_map.mp hw
  have hk := List.mem_range.mp hk
  match k, hk with
  | 0, _ => exact kw_309
  | 1, _ => exact kw_311
  | 2, _ => exact kw_313
  | 3, _ => exact kw_315
  | 4, _ => exact kw_317
  | 5, _ => exact kw_319
  | 6, _ => exact kw_321
  | k + 7, h => exact absurd h (by omega)
set_option maxRecDepth 10000 in
theorem cf_X4 : th_CF 4 RX4 TX4 5 tyX4 := by
  refine ⟨rfl, fun w hw => ?_, tyX4_ok, nmX4, by decide⟩
  obtain ⟨k, hk, rfl⟩ := List.mem_map.mp hw
  have hk := List.mem_range.mp hk
  match k, hk with
  | 0, _ => exact kw_273
  | 1, _ => exact kw_275
  | 2, _ => exact kw_277
  | 3, _ => exact kw_279
  | 4, _ => exact kw_281
  | k + 5, h => exact absurd h (by omega)
set_option maxRecDepth 10000 in
theorem cf_X5 : th_CF 5 RX5 TX5 9 tyX5 := by
  refine ⟨rfl, fun w hw => ?_, tyX5_ok, nmX5, by decide⟩
  obtain ⟨k, hk, rfl⟩ := List.mem_map.mp hw
  have hk := List.mem_range.mp hk
  match k, hk with
  | 0, _ => exact kw_203
  | 1, _ => exact kw_205
  | 2, _ => exact kw_207
  | 3, _ => exact kw_209
  | 4, _ => exact kw_211
  | 5, _ => exact kw_213
  | 6, _ => exact kw_215
  | 7, _ => exact kw_217
  | 8, _ => exact kw_219
  | k + 9, h => exact absurd h (by omega)
set_option maxRecDepth 10000 in
theorem cf_X6 : th_CF 6 RX6 TX6 4 tyX6 := by
  refine ⟨rfl, fun w hw => ?_, tyX6_ok, nmX6, by decide⟩
  obtain ⟨k, hk, rfl⟩ := List.mem_map.mp hw
  have hk := List.mem_range.mp hk
  match k, hk with
  | 0, _ => exact kw_237
  | 1, _ => exact kw_239
  | 2, _ => exact kw_241
  | 3, _ => exact kw_243
  | k + 4, h => exact absurd h (by omega)
set_option maxRecDepth 10000 in
theorem cf_X7 : th_CF 7 RX7 TX7 14 tyX7 := by
  refine ⟨rfl, fun w hw => ?_, tyX7_ok, nmX7, by decide⟩
  obtain ⟨k, hk, rfl⟩ := List.mem_map.mp hw
  have hk := List.mem_range.mp hk
  match k, hk with
  | 0, _ => exact kw_338
  | 1, _ => exact kw_340
  | 2, _ => exact kw_342
  | 3, _ => exact kw_344
  | 4, _ => exact kw_346
  | 5, _ => exact kw_348
  | 6, _ => exact kw_350
  | 7, _ => exact kw_352
  | 8, _ => exact kw_354
  | 9, _ => exact kw_356
  | 10, _ => exact kw_358
  | 11, _ => exact kw_360
  | 12, _ => exact kw_362
  | 13, _ => exact kw_364
  | k + 14, h => exact absurd h (by omega)
set_option maxRecDepth 10000 in
theorem cf_X8 : th_CF 8 RX8 TX8 8 tyX8 := by
  refine ⟨rfl, fun w hw => ?_, tyX8_ok, nmX8, by decide⟩
  obtain ⟨k, hk, rfl⟩ := List.mem_map.mp hw
  have hk := List.mem_range.mp hk
  match k, hk with
  | 0, _ => exact kw_150
  | 1, _ => exact kw_152
  | 2, _ => exact kw_154
  | 3, _ => exact kw_156
  | 4, _ => exact kw_158
  | 5, _ => exact kw_160
  | 6, _ => exact kw_162
  | 7, _ => exact kw_164
  | k + 8, h => exact absurd h (by omega)
set_option maxRecDepth 10000 in
theorem cf_X9 : th_CF 9 RX9 TX9 2 tyX9 := by
  refine ⟨rfl, fun w hw => ?_, tyX9_ok, nmX9, by decide⟩
  obtain ⟨k, hk, rfl⟩ := List.mem_map.mp hw
  have hk := List.mem_range.mp hk
  match k, hk with
  | 0, _ => exact kw_182
  | 1, _ => exact kw_184
  | k + 2, h => exact absurd h (by omega)
set_option maxRecDepth 10000 in
theorem cf_X10 : th_CF 10 RX10 TX10 4 tyX10 := by
  refine ⟨rfl, fun w hw => ?_, tyX10_ok, nmX10, by decide⟩
  obtain ⟨k, hk, rfl⟩ := List.mem_map.mp hw
  have hk := List.mem_range.mp hk
  match k, hk with
  | 0, _ => exact kw_121
  | 1, _ => exact kw_123
  | 2, _ => exact kw_125
  | 3, _ => exact kw_127
  | k + 4, h => exact absurd h (by omega)
set_option maxRecDepth 10000 in
theorem cf_X11 : th_CF 11 RX11 TX11 18 tyX11 := by
  refine ⟨rfl, fun w hw => ?_, tyX11_ok, nmX11, by decide⟩
  obtain ⟨k, hk, rfl⟩ := List.mem_map.mp hw
  have hk := List.mem_range.mp hk
  match k, hk with
  | 0, _ => exact kw_395
  | 1, _ => exact kw_397
  | 2, _ => exact kw_399
  | 3, _ => exact kw_401
  | 4, _ => exact kw_403
  | 5, _ => exact kw_405
  | 6, _ => exact kw_407
  | 7, _ => exact kw_409
  | 8, _ => exact kw_411
  | 9, _ => exact kw_413
  | 10, _ => exact kw_415
  | 11, _ => exact kw_417
  | 12, _ => exact kw_419
  | 13, _ => exact kw_421
  | 14, _ => exact kw_423
  | 15, _ => exact kw_425
  | 16, _ => exact kw_427
  | 17, _ => exact kw_429
  | k + 18, h => exact absurd h (by omega)
set_option maxRecDepth 10000 in
theorem cf_X12 : th_CF 12 RX12 TX12 57 tyX12 := by
  refine ⟨rfl, fun w hw => ?_, tyX12_ok, nmX12, by decide⟩
  obtain ⟨k, hk, rfl⟩ := List.mem_map.mp hw
  have hk := List.mem_range.mp hk
  match k, hk with
  | 0, _ => exact kw_1283
  | 1, _ => exact kw_1285
  | 2, _ => exact kw_1287
  | 3, _ => exact kw_1289
  | 4, _ => exact kw_1291
  | 5, _ => exact kw_1293
  | 6, _ => exact kw_1295
  | 7, _ => exact kw_1297
  | 8, _ => exact kw_1299
  | 9, _ => exact kw_1301
  | 10, _ => exact kw_1303
  | 11, _ => exact kw_1305
  | 12, _ => exact kw_1307
  | 13, _ => exact kw_1309
  | 14, _ => exact kw_1311
  | 15, _ => exact kw_1313
  | 16, _ => exact kw_1315
  | 17, _ => exact kw_1317
  | 18, _ => exact kw_1319
  | 19, _ => exact kw_1321
  | 20, _ => exact kw_1323
  | 21, _ => exact kw_1325
  | 22, _ => exact kw_1327
  | 23, _ => exact kw_1329
  | 24, _ => exact kw_1331
  | 25, _ => exact kw_1333
  | 26, _ => exact kw_1335
  | 27, _ => exact kw_1337
  | 28, _ => exact kw_1339
  | 29, _ => exact kw_1341
  | 30, _ => exact kw_1343
  | 31, _ => exact kw_1345
  | 32, _ => exact kw_1347
  | 33, _ => exact kw_1349
  | 34, _ => exact kw_1351
  | 35, _ => exact kw_1353
  | 36, _ => exact kw_1355
  | 37, _ => exact kw_1357
  | 38, _ => exact kw_1359
  | 39, _ => exact kw_1361
  | 40, _ => exact kw_1363
  | 41, _ => exact kw_1365
  | 42, _ => exact kw_1367
  | 43, _ => exact kw_1369
  | 44, _ => exact kw_1371
  | 45, _ => exact kw_1373
  | 46, _ => exact kw_1375
  | 47, _ => exact kw_1377
  | 48, _ => exact kw_1379
  | 49, _ => exact kw_1381
  | 50, _ => exact kw_1383
  | 51, _ => exact kw_1385
  | 52, _ => exact kw_1387
  | 53, _ => exact kw_1389
  | 54, _ => exact kw_1391
  | 55, _ => exact kw_1393
  | 56, _ => exact kw_1395
  | k + 57, h => exact absurd h (by omega)
theorem mf_X11_init : th_MF yX11_init cX11_init 2 (none) 0 := ⟨kw_26, kw_1, by decide +kernel⟩
theorem im_X11_init : Cond.instanceMethod yX11_init ∈ th_tb := kw_25
theorem mf_X11_carpet : th_MF yX11_carpet cX11_carpet 5 (some FieldType.int) 3 := ⟨kw_435, kw_1, by decide +kernel⟩
theorem im_X11_carpet : Cond.instanceMethod yX11_carpet ∈ th_tb := kw_433
theorem se_X11_carpet : Cond.selects (yX11_carpet).cls yX11_carpet yX11_carpet ∈ th_tb := kw_434
theorem mf_X11_of : th_MF yX11_of cX11_of 4 (some FieldType.int) 2 := ⟨kw_451, kw_1, by decide +kernel⟩
theorem im_X11_of : Cond.instanceMethod yX11_of ∈ th_tb := kw_449
theorem se_X11_of : Cond.selects (yX11_of).cls yX11_of yX11_of ∈ th_tb := kw_450
theorem mf_X11_hall : th_MF yX11_hall cX11_hall 3 (some FieldType.int) 2 := ⟨kw_510, kw_1, by decide +kernel⟩
theorem im_X11_hall : Cond.instanceMethod yX11_hall ∈ th_tb := kw_508
theorem se_X11_hall : Cond.selects (yX11_hall).cls yX11_hall yX11_hall ∈ th_tb := kw_509
theorem mf_X11_at : th_MF yX11_at cX11_at 3 (some FieldType.int) 2 := ⟨kw_519, kw_1, by decide +kernel⟩
theorem im_X11_at : Cond.instanceMethod yX11_at ∈ th_tb := kw_517
theorem se_X11_at : Cond.selects (yX11_at).cls yX11_at yX11_at ∈ th_tb := kw_518
theorem mf_X11_asks : th_MF yX11_asks cX11_asks 6 (some FieldType.int) 4 := ⟨kw_527, kw_1, by decide +kernel⟩
theorem im_X11_asks : Cond.instanceMethod yX11_asks ∈ th_tb := kw_525
theorem se_X11_asks : Cond.selects (yX11_asks).cls yX11_asks yX11_asks ∈ th_tb := kw_526
theorem mf_X11_terms : th_MF yX11_terms cX11_terms 4 (some FieldType.int) 2 := ⟨kw_554, kw_1, by decide +kernel⟩
theorem im_X11_terms : Cond.instanceMethod yX11_terms ∈ th_tb := kw_552
theorem se_X11_terms : Cond.selects (yX11_terms).cls yX11_terms yX11_terms ∈ th_tb := kw_553
theorem mf_X11_feed : th_MF yX11_feed cX11_feed 6 (some FieldType.int) 5 := ⟨kw_561, kw_1, by decide +kernel⟩
theorem im_X11_feed : Cond.instanceMethod yX11_feed ∈ th_tb := kw_559
theorem se_X11_feed : Cond.selects (yX11_feed).cls yX11_feed yX11_feed ∈ th_tb := kw_560
theorem mf_X11_end : th_MF yX11_end cX11_end 2 (some FieldType.int) 1 := ⟨kw_569, kw_1, by decide +kernel⟩
theorem im_X11_end : Cond.instanceMethod yX11_end ∈ th_tb := kw_567
theorem se_X11_end : Cond.selects (yX11_end).cls yX11_end yX11_end ∈ th_tb := kw_568
theorem mf_X11_row : th_MF yX11_row cX11_row 4 (some FieldType.int) 0 := ⟨kw_573, kw_1, by decide +kernel⟩
theorem im_X11_row : Cond.instanceMethod yX11_row ∈ th_tb := kw_571
theorem se_X11_row : Cond.selects (yX11_row).cls yX11_row yX11_row ∈ th_tb := kw_572
theorem mf_X11_fluff : th_MF yX11_fluff cX11_fluff 1 (some FieldType.int) 0 := ⟨kw_577, kw_1, by decide +kernel⟩
theorem im_X11_fluff : Cond.instanceMethod yX11_fluff ∈ th_tb := kw_575
theorem se_X11_fluff : Cond.selects (yX11_fluff).cls yX11_fluff yX11_fluff ∈ th_tb := kw_576
theorem mf_X11_law : th_MF yX11_law cX11_law 1 (some FieldType.int) 0 := ⟨kw_581, kw_1, by decide +kernel⟩
theorem im_X11_law : Cond.instanceMethod yX11_law ∈ th_tb := kw_579
theorem se_X11_law : Cond.selects (yX11_law).cls yX11_law yX11_law ∈ th_tb := kw_580
theorem mf_X11_orders : th_MF yX11_orders cX11_orders 4 (some FieldType.int) 0 := ⟨kw_775, kw_1, by decide +kernel⟩
theorem im_X11_orders : Cond.instanceMethod yX11_orders ∈ th_tb := kw_773
theorem se_X11_orders : Cond.selects (yX11_orders).cls yX11_orders yX11_orders ∈ th_tb := kw_774
theorem mf_X11_fault : th_MF yX11_fault cX11_fault 1 (some FieldType.int) 0 := ⟨kw_849, kw_1, by decide +kernel⟩
theorem im_X11_fault : Cond.instanceMethod yX11_fault ∈ th_tb := kw_847
theorem se_X11_fault : Cond.selects (yX11_fault).cls yX11_fault yX11_fault ∈ th_tb := kw_848
theorem mf_X11_stopped : th_MF yX11_stopped cX11_stopped 1 (some FieldType.int) 0 := ⟨kw_853, kw_1, by decide +kernel⟩
theorem im_X11_stopped : Cond.instanceMethod yX11_stopped ∈ th_tb := kw_851
theorem se_X11_stopped : Cond.selects (yX11_stopped).cls yX11_stopped yX11_stopped ∈ th_tb := kw_852
theorem mf_X11_force : th_MF yX11_force cX11_force 3 (some FieldType.int) 1 := ⟨kw_857, kw_1, by decide +kernel⟩
theorem im_X11_force : Cond.instanceMethod yX11_force ∈ th_tb := kw_855
theorem se_X11_force : Cond.selects (yX11_force).cls yX11_force yX11_force ∈ th_tb := kw_856
theorem mf_X11_lay : th_MF yX11_lay cX11_lay 4 (some FieldType.int) 3 := ⟨kw_862, kw_1, by decide +kernel⟩
theorem im_X11_lay : Cond.instanceMethod yX11_lay ∈ th_tb := kw_860
theorem se_X11_lay : Cond.selects (yX11_lay).cls yX11_lay yX11_lay ∈ th_tb := kw_861
theorem mf_X11_roll : th_MF yX11_roll cX11_roll 2 (some FieldType.int) 1 := ⟨kw_866, kw_1, by decide +kernel⟩
theorem im_X11_roll : Cond.instanceMethod yX11_roll ∈ th_tb := kw_864
theorem se_X11_roll : Cond.selects (yX11_roll).cls yX11_roll yX11_roll ∈ th_tb := kw_865
theorem mf_X11_mirror : th_MF yX11_mirror cX11_mirror 1 (some FieldType.int) 0 := ⟨kw_870, kw_1, by decide +kernel⟩
theorem im_X11_mirror : Cond.instanceMethod yX11_mirror ∈ th_tb := kw_868
theorem se_X11_mirror : Cond.selects (yX11_mirror).cls yX11_mirror yX11_mirror ∈ th_tb := kw_869
theorem mf_X11_pass : th_MF yX11_pass cX11_pass 1 (some FieldType.int) 0 := ⟨kw_874, kw_1, by decide +kernel⟩
theorem im_X11_pass : Cond.instanceMethod yX11_pass ∈ th_tb := kw_872
theorem se_X11_pass : Cond.selects (yX11_pass).cls yX11_pass yX11_pass ∈ th_tb := kw_873
theorem mf_X11_undo : th_MF yX11_undo cX11_undo 1 (some FieldType.int) 0 := ⟨kw_878, kw_1, by decide +kernel⟩
theorem im_X11_undo : Cond.instanceMethod yX11_undo ∈ th_tb := kw_876
theorem se_X11_undo : Cond.selects (yX11_undo).cls yX11_undo yX11_undo ∈ th_tb := kw_877
theorem mf_X11_bare : th_MF yX11_bare cX11_bare 4 (some FieldType.int) 1 := ⟨kw_886, kw_1, by decide +kernel⟩
theorem im_X11_bare : Cond.instanceMethod yX11_bare ∈ th_tb := kw_884
theorem se_X11_bare : Cond.selects (yX11_bare).cls yX11_bare yX11_bare ∈ th_tb := kw_885
theorem mf_X11_fill : th_MF yX11_fill cX11_fill 2 (some FieldType.int) 1 := ⟨kw_901, kw_1, by decide +kernel⟩
theorem im_X11_fill : Cond.instanceMethod yX11_fill ∈ th_tb := kw_899
theorem se_X11_fill : Cond.selects (yX11_fill).cls yX11_fill yX11_fill ∈ th_tb := kw_900
theorem mf_X11_ways : th_MF yX11_ways cX11_ways 1 (some FieldType.int) 0 := ⟨kw_998, kw_1, by decide +kernel⟩
theorem im_X11_ways : Cond.instanceMethod yX11_ways ∈ th_tb := kw_996
theorem se_X11_ways : Cond.selects (yX11_ways).cls yX11_ways yX11_ways ∈ th_tb := kw_997
theorem mf_X11_cheapest : th_MF yX11_cheapest cX11_cheapest 1 (some FieldType.int) 0 := ⟨kw_1003, kw_1, by decide +kernel⟩
theorem im_X11_cheapest : Cond.instanceMethod yX11_cheapest ∈ th_tb := kw_1001
theorem se_X11_cheapest : Cond.selects (yX11_cheapest).cls yX11_cheapest yX11_cheapest ∈ th_tb := kw_1002
theorem mf_X11_halls : th_MF yX11_halls cX11_halls 6 (some FieldType.int) 1 := ⟨kw_1011, kw_1, by decide +kernel⟩
theorem im_X11_halls : Cond.instanceMethod yX11_halls ∈ th_tb := kw_1009
theorem se_X11_halls : Cond.selects (yX11_halls).cls yX11_halls yX11_halls ∈ th_tb := kw_1010
theorem mf_X11_inner : th_MF yX11_inner cX11_inner 1 (some FieldType.int) 0 := ⟨kw_1024, kw_1, by decide +kernel⟩
theorem im_X11_inner : Cond.instanceMethod yX11_inner ∈ th_tb := kw_1022
theorem se_X11_inner : Cond.selects (yX11_inner).cls yX11_inner yX11_inner ∈ th_tb := kw_1023
theorem mf_X11_crosses : th_MF yX11_crosses cX11_crosses 1 (some FieldType.int) 0 := ⟨kw_1043, kw_1, by decide +kernel⟩
theorem im_X11_crosses : Cond.instanceMethod yX11_crosses ∈ th_tb := kw_1041
theorem se_X11_crosses : Cond.selects (yX11_crosses).cls yX11_crosses yX11_crosses ∈ th_tb := kw_1042
theorem mf_X11_currents : th_MF yX11_currents cX11_currents 3 (some FieldType.int) 2 := ⟨kw_1055, kw_1, by decide +kernel⟩
theorem im_X11_currents : Cond.instanceMethod yX11_currents ∈ th_tb := kw_1053
theorem se_X11_currents : Cond.selects (yX11_currents).cls yX11_currents yX11_currents ∈ th_tb := kw_1054
theorem mf_X11_fitting : th_MF yX11_fitting cX11_fitting 2 (some FieldType.int) 1 := ⟨kw_1063, kw_1, by decide +kernel⟩
theorem im_X11_fitting : Cond.instanceMethod yX11_fitting ∈ th_tb := kw_1061
theorem se_X11_fitting : Cond.selects (yX11_fitting).cls yX11_fitting yX11_fitting ∈ th_tb := kw_1062
theorem mf_X11_alike : th_MF yX11_alike cX11_alike 1 (some FieldType.int) 0 := ⟨kw_1071, kw_1, by decide +kernel⟩
theorem im_X11_alike : Cond.instanceMethod yX11_alike ∈ th_tb := kw_1069
theorem se_X11_alike : Cond.selects (yX11_alike).cls yX11_alike yX11_alike ∈ th_tb := kw_1070
theorem mf_X11_free : th_MF yX11_free cX11_free 3 (some FieldType.int) 0 := ⟨kw_1079, kw_1, by decide +kernel⟩
theorem im_X11_free : Cond.instanceMethod yX11_free ∈ th_tb := kw_1077
theorem se_X11_free : Cond.selects (yX11_free).cls yX11_free yX11_free ∈ th_tb := kw_1078
theorem mf_X11_seen : th_MF yX11_seen cX11_seen 4 (some FieldType.int) 3 := ⟨kw_1087, kw_1, by decide +kernel⟩
theorem im_X11_seen : Cond.instanceMethod yX11_seen ∈ th_tb := kw_1085
theorem se_X11_seen : Cond.selects (yX11_seen).cls yX11_seen yX11_seen ∈ th_tb := kw_1086
theorem mf_X11_forget : th_MF yX11_forget cX11_forget 2 (some FieldType.int) 0 := ⟨kw_1091, kw_1, by decide +kernel⟩
theorem im_X11_forget : Cond.instanceMethod yX11_forget ∈ th_tb := kw_1089
theorem se_X11_forget : Cond.selects (yX11_forget).cls yX11_forget yX11_forget ∈ th_tb := kw_1090
theorem mf_X11_floors : th_MF yX11_floors cX11_floors 1 (some FieldType.int) 0 := ⟨kw_1095, kw_1, by decide +kernel⟩
theorem im_X11_floors : Cond.instanceMethod yX11_floors ∈ th_tb := kw_1093
theorem se_X11_floors : Cond.selects (yX11_floors).cls yX11_floors yX11_floors ∈ th_tb := kw_1094
theorem mf_X11_look : th_MF yX11_look cX11_look 3 (some FieldType.int) 1 := ⟨kw_1104, kw_1, by decide +kernel⟩
theorem im_X11_look : Cond.instanceMethod yX11_look ∈ th_tb := kw_1102
theorem se_X11_look : Cond.selects (yX11_look).cls yX11_look yX11_look ∈ th_tb := kw_1103
theorem mf_X11_few : th_MF yX11_few cX11_few 3 (some FieldType.long) 2 := ⟨kw_1151, kw_1, by decide +kernel⟩
theorem im_X11_few : Cond.instanceMethod yX11_few ∈ th_tb := kw_1149
theorem se_X11_few : Cond.selects (yX11_few).cls yX11_few yX11_few ∈ th_tb := kw_1150
theorem mf_X11_compare : th_MF yX11_compare cX11_compare 3 (some FieldType.int) 1 := ⟨kw_1171, kw_1, by decide +kernel⟩
theorem im_X11_compare : Cond.instanceMethod yX11_compare ∈ th_tb := kw_1169
theorem se_X11_compare : Cond.selects (yX11_compare).cls yX11_compare yX11_compare ∈ th_tb := kw_1170
theorem mf_X11_years : th_MF yX11_years cX11_years 5 (some FieldType.int) 2 := ⟨kw_1175, kw_1, by decide +kernel⟩
theorem im_X11_years : Cond.instanceMethod yX11_years ∈ th_tb := kw_1173
theorem se_X11_years : Cond.selects (yX11_years).cls yX11_years yX11_years ∈ th_tb := kw_1174
theorem mf_X11_drawn : th_MF yX11_drawn cX11_drawn 3 (some FieldType.int) 2 := ⟨kw_1188, kw_1, by decide +kernel⟩
theorem im_X11_drawn : Cond.instanceMethod yX11_drawn ∈ th_tb := kw_1186
theorem se_X11_drawn : Cond.selects (yX11_drawn).cls yX11_drawn yX11_drawn ∈ th_tb := kw_1187
theorem mf_X11_image : th_MF yX11_image cX11_image 2 (some FieldType.int) 1 := ⟨kw_1192, kw_1, by decide +kernel⟩
theorem im_X11_image : Cond.instanceMethod yX11_image ∈ th_tb := kw_1190
theorem se_X11_image : Cond.selects (yX11_image).cls yX11_image yX11_image ∈ th_tb := kw_1191
theorem mf_X11_back : th_MF yX11_back cX11_back 2 (some FieldType.int) 1 := ⟨kw_1207, kw_1, by decide +kernel⟩
theorem im_X11_back : Cond.instanceMethod yX11_back ∈ th_tb := kw_1205
theorem se_X11_back : Cond.selects (yX11_back).cls yX11_back yX11_back ∈ th_tb := kw_1206
theorem mf_X11_count : th_MF yX11_count cX11_count 3 (some FieldType.int) 1 := ⟨kw_1211, kw_1, by decide +kernel⟩
theorem im_X11_count : Cond.instanceMethod yX11_count ∈ th_tb := kw_1209
theorem se_X11_count : Cond.selects (yX11_count).cls yX11_count yX11_count ∈ th_tb := kw_1210
theorem mf_X11_status : th_MF yX11_status cX11_status 1 (some FieldType.int) 0 := ⟨kw_1219, kw_1, by decide +kernel⟩
theorem im_X11_status : Cond.instanceMethod yX11_status ∈ th_tb := kw_1217
theorem se_X11_status : Cond.selects (yX11_status).cls yX11_status yX11_status ∈ th_tb := kw_1218
theorem mf_X11_onGrid : th_MF yX11_onGrid cX11_onGrid 1 (some FieldType.boolean) 1 := ⟨kw_530, kw_1, by decide +kernel⟩
theorem st_X11_onGrid : Cond.static yX11_onGrid ∈ th_tb := kw_529
theorem mf_X11_mostOfTerm : th_MF yX11_mostOfTerm cX11_mostOfTerm 1 (some FieldType.int) 1 := ⟨kw_557, kw_1, by decide +kernel⟩
theorem st_X11_mostOfTerm : Cond.static yX11_mostOfTerm ∈ th_tb := kw_556
theorem mf_X11_answer : th_MF yX11_answer cX11_answer 2 (some FieldType.int) 1 := ⟨kw_447, kw_1, by decide +kernel⟩
theorem im_X11_answer : Cond.instanceMethod yX11_answer ∈ th_tb := kw_446
theorem se_X11_answer : Cond.selects (yX11_answer).cls yX11_answer yX11_answer ∈ th_tb := kp_0
theorem mf_X11_canLie : th_MF yX11_canLie cX11_canLie 5 (some FieldType.boolean) 4 := ⟨kw_542, kw_1, by decide +kernel⟩
theorem im_X11_canLie : Cond.instanceMethod yX11_canLie ∈ th_tb := kw_541
theorem se_X11_canLie : Cond.selects (yX11_canLie).cls yX11_canLie yX11_canLie ∈ th_tb := kp_3
theorem mf_X11_doLay : th_MF yX11_doLay cX11_doLay 6 (some FieldType.int) 3 := ⟨kw_808, kw_1, by decide +kernel⟩
theorem im_X11_doLay : Cond.instanceMethod yX11_doLay ∈ th_tb := kw_807
theorem se_X11_doLay : Cond.selects (yX11_doLay).cls yX11_doLay yX11_doLay ∈ th_tb := kp_22
theorem mf_X11_doRoll : th_MF yX11_doRoll cX11_doRoll 3 (some FieldType.int) 1 := ⟨kw_817, kw_1, by decide +kernel⟩
theorem im_X11_doRoll : Cond.instanceMethod yX11_doRoll ∈ th_tb := kw_816
theorem se_X11_doRoll : Cond.selects (yX11_doRoll).cls yX11_doRoll yX11_doRoll ∈ th_tb := kp_23
theorem mf_X11_doMirror : th_MF yX11_doMirror cX11_doMirror 1 (some FieldType.int) 0 := ⟨kw_826, kw_1, by decide +kernel⟩
theorem im_X11_doMirror : Cond.instanceMethod yX11_doMirror ∈ th_tb := kw_825
theorem se_X11_doMirror : Cond.selects (yX11_doMirror).cls yX11_doMirror yX11_doMirror ∈ th_tb := kp_24
theorem mf_X11_doPass : th_MF yX11_doPass cX11_doPass 1 (some FieldType.int) 0 := ⟨kw_834, kw_1, by decide +kernel⟩
theorem im_X11_doPass : Cond.instanceMethod yX11_doPass ∈ th_tb := kw_833
theorem se_X11_doPass : Cond.selects (yX11_doPass).cls yX11_doPass yX11_doPass ∈ th_tb := kp_25
theorem mf_X11_runOnce : th_MF yX11_runOnce cX11_runOnce 3 (some FieldType.boolean) 1 := ⟨kw_792, kw_1, by decide +kernel⟩
theorem im_X11_runOnce : Cond.instanceMethod yX11_runOnce ∈ th_tb := kw_791
theorem se_X11_runOnce : Cond.selects (yX11_runOnce).cls yX11_runOnce yX11_runOnce ∈ th_tb := kp_21
theorem mf_X11_nextDraw : th_MF yX11_nextDraw cX11_nextDraw 1 (some FieldType.int) 1 := ⟨kw_1183, kw_1, by decide +kernel⟩
theorem st_X11_nextDraw : Cond.static yX11_nextDraw ∈ th_tb := kw_1182
theorem mf_X11_drawYear : th_MF yX11_drawYear cX11_drawYear 9 (some FieldType.int) 1 := ⟨kw_1180, kw_1, by decide +kernel⟩
theorem im_X11_drawYear : Cond.instanceMethod yX11_drawYear ∈ th_tb := kw_1179
theorem se_X11_drawYear : Cond.selects (yX11_drawYear).cls yX11_drawYear yX11_drawYear ∈ th_tb := kp_45
theorem mf_X12_lies : th_MF yX12_lies cX12_lies 3 (some FieldType.boolean) 3 := ⟨kw_1404, kw_14, by decide +kernel⟩
theorem st_X12_lies : Cond.static yX12_lies ∈ th_tb := kw_1403
theorem mf_X12_lesser : th_MF yX12_lesser cX12_lesser 2 (some FieldType.int) 2 := ⟨kw_1737, kw_14, by decide +kernel⟩
theorem st_X12_lesser : Cond.static yX12_lesser ∈ th_tb := kw_1736
theorem mf_X12_greater : th_MF yX12_greater cX12_greater 2 (some FieldType.int) 2 := ⟨kw_1772, kw_14, by decide +kernel⟩
theorem st_X12_greater : Cond.static yX12_greater ∈ th_tb := kw_1771
theorem mf_X12_refuses : th_MF yX12_refuses cX12_refuses 2 (some FieldType.int) 1 := ⟨kw_1408, kw_14, by decide +kernel⟩
theorem im_X12_refuses : Cond.instanceMethod yX12_refuses ∈ th_tb := kw_1407
theorem se_X12_refuses : Cond.selects (yX12_refuses).cls yX12_refuses yX12_refuses ∈ th_tb := kp_46
theorem mf_X12_good : th_MF yX12_good cX12_good 2 (some FieldType.int) 1 := ⟨kw_1412, kw_14, by decide +kernel⟩
theorem im_X12_good : Cond.instanceMethod yX12_good ∈ th_tb := kw_1411
theorem se_X12_good : Cond.selects (yX12_good).cls yX12_good yX12_good ∈ th_tb := kp_47
theorem mf_X12_settled : th_MF yX12_settled cX12_settled 2 (some FieldType.int) 1 := ⟨kw_1420, kw_14, by decide +kernel⟩
theorem im_X12_settled : Cond.instanceMethod yX12_settled ∈ th_tb := kw_1419
theorem se_X12_settled : Cond.selects (yX12_settled).cls yX12_settled yX12_settled ∈ th_tb := kp_48
theorem mf_X12_isIn : th_MF yX12_isIn cX12_isIn 2 (some FieldType.boolean) 2 := ⟨kw_1714, kw_14, by decide +kernel⟩
theorem st_X12_isIn : Cond.static yX12_isIn ∈ th_tb := kw_1713
theorem mf_X12_isSide : th_MF yX12_isSide cX12_isSide 1 (some FieldType.boolean) 1 := ⟨kw_1430, kw_14, by decide +kernel⟩
theorem st_X12_isSide : Cond.static yX12_isSide ∈ th_tb := kw_1429
theorem mf_X12_isAlong : th_MF yX12_isAlong cX12_isAlong 1 (some FieldType.boolean) 1 := ⟨kw_1542, kw_14, by decide +kernel⟩
theorem st_X12_isAlong : Cond.static yX12_isAlong ∈ th_tb := kw_1541
theorem mf_X12_init : th_MF yX12_init cX12_init 1 (none) 0 := ⟨kw_1224, kw_14, by decide +kernel⟩
theorem im_X12_init : Cond.instanceMethod yX12_init ∈ th_tb := kw_1223
theorem mf_X12_laysAside : th_MF yX12_laysAside cX12_laysAside 3 (none) 1 := ⟨kw_1917, kw_14, by decide +kernel⟩
theorem im_X12_laysAside : Cond.instanceMethod yX12_laysAside ∈ th_tb := kw_1916
theorem se_X12_laysAside : Cond.selects (yX12_laysAside).cls yX12_laysAside yX12_laysAside ∈ th_tb := kp_125
theorem mf_X12_takesBack : th_MF yX12_takesBack cX12_takesBack 3 (none) 1 := ⟨kw_1937, kw_14, by decide +kernel⟩
theorem im_X12_takesBack : Cond.instanceMethod yX12_takesBack ∈ th_tb := kw_1936
theorem se_X12_takesBack : Cond.selects (yX12_takesBack).cls yX12_takesBack yX12_takesBack ∈ th_tb := kp_129
theorem mf_X12_image : th_MF yX12_image cX12_image 3 (some FieldType.int) 1 := ⟨kw_1401, kw_14, by decide +kernel⟩
theorem im_X12_image : Cond.instanceMethod yX12_image ∈ th_tb := kw_1399
theorem se_X12_image : Cond.selects (yX12_image).cls yX12_image yX12_image ∈ th_tb := kw_1400
theorem mf_X12_back : th_MF yX12_back cX12_back 3 (some FieldType.int) 1 := ⟨kw_1416, kw_14, by decide +kernel⟩
theorem im_X12_back : Cond.instanceMethod yX12_back ∈ th_tb := kw_1414
theorem se_X12_back : Cond.selects (yX12_back).cls yX12_back yX12_back ∈ th_tb := kw_1415
theorem mf_X12_many : th_MF yX12_many cX12_many 1 (some FieldType.int) 0 := ⟨kw_1434, kw_14, by decide +kernel⟩
theorem im_X12_many : Cond.instanceMethod yX12_many ∈ th_tb := kw_1433
theorem se_X12_many : Cond.selects (yX12_many).cls yX12_many yX12_many ∈ th_tb := kp_49
theorem mf_X12_isCarpet : th_MF yX12_isCarpet cX12_isCarpet 2 (some FieldType.boolean) 1 := ⟨kw_1450, kw_14, by decide +kernel⟩
theorem im_X12_isCarpet : Cond.instanceMethod yX12_isCarpet ∈ th_tb := kw_1449
theorem se_X12_isCarpet : Cond.selects (yX12_isCarpet).cls yX12_isCarpet yX12_isCarpet ∈ th_tb := kp_52
theorem mf_X12_isLaid : th_MF yX12_isLaid cX12_isLaid 2 (some FieldType.boolean) 1 := ⟨kw_1454, kw_14, by decide +kernel⟩
theorem im_X12_isLaid : Cond.instanceMethod yX12_isLaid ∈ th_tb := kw_1453
theorem se_X12_isLaid : Cond.selects (yX12_isLaid).cls yX12_isLaid yX12_isLaid ∈ th_tb := kp_53
theorem mf_X12_isWhole : th_MF yX12_isWhole cX12_isWhole 2 (some FieldType.boolean) 1 := ⟨kw_1558, kw_14, by decide +kernel⟩
theorem im_X12_isWhole : Cond.instanceMethod yX12_isWhole ∈ th_tb := kw_1557
theorem se_X12_isWhole : Cond.selects (yX12_isWhole).cls yX12_isWhole yX12_isWhole ∈ th_tb := kp_74
theorem mf_X12_canBe : th_MF yX12_canBe cX12_canBe 3 (some FieldType.boolean) 3 := ⟨kw_1427, kw_14, by decide +kernel⟩
theorem st_X12_canBe : Cond.static yX12_canBe ∈ th_tb := kw_1426
theorem mf_X12_adds : th_MF yX12_adds cX12_adds 5 (none) 3 := ⟨kw_1438, kw_14, by decide +kernel⟩
theorem im_X12_adds : Cond.instanceMethod yX12_adds ∈ th_tb := kw_1437
theorem se_X12_adds : Cond.selects (yX12_adds).cls yX12_adds yX12_adds ∈ th_tb := kp_50
theorem mf_X12_rolls : th_MF yX12_rolls cX12_rolls 2 (none) 1 := ⟨kw_1442, kw_14, by decide +kernel⟩
theorem im_X12_rolls : Cond.instanceMethod yX12_rolls ∈ th_tb := kw_1441
theorem se_X12_rolls : Cond.selects (yX12_rolls).cls yX12_rolls yX12_rolls ∈ th_tb := kp_51
theorem mf_X12_carpet : th_MF yX12_carpet cX12_carpet 4 (some FieldType.int) 3 := ⟨kw_1424, kw_14, by decide +kernel⟩
theorem im_X12_carpet : Cond.instanceMethod yX12_carpet ∈ th_tb := kw_1422
theorem se_X12_carpet : Cond.selects (yX12_carpet).cls yX12_carpet yX12_carpet ∈ th_tb := kw_1423
theorem mf_X12_of : th_MF yX12_of cX12_of 3 (some FieldType.int) 2 := ⟨kw_1446, kw_14, by decide +kernel⟩
theorem im_X12_of : Cond.instanceMethod yX12_of ∈ th_tb := kw_1444
theorem se_X12_of : Cond.selects (yX12_of).cls yX12_of yX12_of ∈ th_tb := kw_1445
theorem mf_X12_laidMany : th_MF yX12_laidMany cX12_laidMany 3 (some FieldType.int) 0 := ⟨kw_1527, kw_14, by decide +kernel⟩
theorem im_X12_laidMany : Cond.instanceMethod yX12_laidMany ∈ th_tb := kw_1526
theorem se_X12_laidMany : Cond.selects (yX12_laidMany).cls yX12_laidMany yX12_laidMany ∈ th_tb := kp_69
theorem mf_X12_hall : th_MF yX12_hall cX12_hall 3 (some FieldType.int) 2 := ⟨kw_1523, kw_14, by decide +kernel⟩
theorem im_X12_hall : Cond.instanceMethod yX12_hall ∈ th_tb := kw_1521
theorem se_X12_hall : Cond.selects (yX12_hall).cls yX12_hall yX12_hall ∈ th_tb := kw_1522
theorem mf_X12_covers : th_MF yX12_covers cX12_covers 4 (some FieldType.boolean) 3 := ⟨kw_1535, kw_14, by decide +kernel⟩
theorem im_X12_covers : Cond.instanceMethod yX12_covers ∈ th_tb := kw_1534
theorem se_X12_covers : Cond.selects (yX12_covers).cls yX12_covers yX12_covers ∈ th_tb := kp_70
theorem mf_X12_at : th_MF yX12_at cX12_at 5 (some FieldType.int) 2 := ⟨kw_1531, kw_14, by decide +kernel⟩
theorem im_X12_at : Cond.instanceMethod yX12_at ∈ th_tb := kw_1529
theorem se_X12_at : Cond.selects (yX12_at).cls yX12_at yX12_at ∈ th_tb := kw_1530
theorem mf_X12_asks : th_MF yX12_asks cX12_asks 5 (some FieldType.int) 4 := ⟨kw_1539, kw_14, by decide +kernel⟩
theorem im_X12_asks : Cond.instanceMethod yX12_asks ∈ th_tb := kw_1537
theorem se_X12_asks : Cond.selects (yX12_asks).cls yX12_asks yX12_asks ∈ th_tb := kw_1538
theorem mf_X12_isTerm : th_MF yX12_isTerm cX12_isTerm 2 (some FieldType.boolean) 2 := ⟨kw_1577, kw_14, by decide +kernel⟩
theorem st_X12_isTerm : Cond.static yX12_isTerm ∈ th_tb := kw_1576
theorem mf_X12_termAt : th_MF yX12_termAt cX12_termAt 1 (some FieldType.int) 1 := ⟨kw_1580, kw_14, by decide +kernel⟩
theorem st_X12_termAt : Cond.static yX12_termAt ∈ th_tb := kw_1579
theorem mf_X12_terms : th_MF yX12_terms cX12_terms 4 (some FieldType.int) 2 := ⟨kw_1574, kw_14, by decide +kernel⟩
theorem im_X12_terms : Cond.instanceMethod yX12_terms ∈ th_tb := kw_1572
theorem se_X12_terms : Cond.selects (yX12_terms).cls yX12_terms yX12_terms ∈ th_tb := kw_1573
theorem mf_X12_row : th_MF yX12_row cX12_row 5 (some FieldType.int) 0 := ⟨kw_1584, kw_14, by decide +kernel⟩
theorem im_X12_row : Cond.instanceMethod yX12_row ∈ th_tb := kw_1582
theorem se_X12_row : Cond.selects (yX12_row).cls yX12_row yX12_row ∈ th_tb := kw_1583
theorem mf_X12_fluff : th_MF yX12_fluff cX12_fluff 1 (some FieldType.int) 0 := ⟨kw_1588, kw_14, by decide +kernel⟩
theorem im_X12_fluff : Cond.instanceMethod yX12_fluff ∈ th_tb := kw_1586
theorem se_X12_fluff : Cond.selects (yX12_fluff).cls yX12_fluff yX12_fluff ∈ th_tb := kw_1587
theorem mf_X12_feed : th_MF yX12_feed cX12_feed 7 (some FieldType.int) 5 := ⟨kw_1592, kw_14, by decide +kernel⟩
theorem im_X12_feed : Cond.instanceMethod yX12_feed ∈ th_tb := kw_1590
theorem se_X12_feed : Cond.selects (yX12_feed).cls yX12_feed yX12_feed ∈ th_tb := kw_1591
theorem mf_X12_end : th_MF yX12_end cX12_end 2 (some FieldType.int) 1 := ⟨kw_1596, kw_14, by decide +kernel⟩
theorem im_X12_end : Cond.instanceMethod yX12_end ∈ th_tb := kw_1594
theorem se_X12_end : Cond.selects (yX12_end).cls yX12_end yX12_end ∈ th_tb := kw_1595
theorem mf_X12_isSmall : th_MF yX12_isSmall cX12_isSmall 1 (some FieldType.boolean) 1 := ⟨kw_1615, kw_14, by decide +kernel⟩
theorem st_X12_isSmall : Cond.static yX12_isSmall ∈ th_tb := kw_1614
theorem mf_X12_isDigit : th_MF yX12_isDigit cX12_isDigit 1 (some FieldType.boolean) 1 := ⟨kw_1618, kw_14, by decide +kernel⟩
theorem st_X12_isDigit : Cond.static yX12_isDigit ∈ th_tb := kw_1617
theorem mf_X12_wordOf : th_MF yX12_wordOf cX12_wordOf 8 (some FieldType.int) 2 := ⟨kw_1622, kw_14, by decide +kernel⟩
theorem im_X12_wordOf : Cond.instanceMethod yX12_wordOf ∈ th_tb := kw_1621
theorem se_X12_wordOf : Cond.selects (yX12_wordOf).cls yX12_wordOf yX12_wordOf ∈ th_tb := kp_81
theorem mf_X12_splits : th_MF yX12_splits cX12_splits 6 (none) 1 := ⟨kw_1612, kw_14, by decide +kernel⟩
theorem im_X12_splits : Cond.instanceMethod yX12_splits ∈ th_tb := kw_1611
theorem se_X12_splits : Cond.selects (yX12_splits).cls yX12_splits yX12_splits ∈ th_tb := kp_80
theorem mf_X12_fine : th_MF yX12_fine cX12_fine 1 (some FieldType.boolean) 0 := ⟨kw_1639, kw_14, by decide +kernel⟩
theorem im_X12_fine : Cond.instanceMethod yX12_fine ∈ th_tb := kw_1638
theorem se_X12_fine : Cond.selects (yX12_fine).cls yX12_fine yX12_fine ∈ th_tb := kp_85
theorem mf_X12_faults : th_MF yX12_faults cX12_faults 1 (none) 0 := ⟨kw_1655, kw_14, by decide +kernel⟩
theorem im_X12_faults : Cond.instanceMethod yX12_faults ∈ th_tb := kw_1654
theorem se_X12_faults : Cond.selects (yX12_faults).cls yX12_faults yX12_faults ∈ th_tb := kp_89
theorem mf_X12_takes0 : th_MF yX12_takes0 cX12_takes0 3 (some FieldType.boolean) 1 := ⟨kw_1635, kw_14, by decide +kernel⟩
theorem im_X12_takes0 : Cond.instanceMethod yX12_takes0 ∈ th_tb := kw_1634
theorem se_X12_takes0 : Cond.selects (yX12_takes0).cls yX12_takes0 yX12_takes0 ∈ th_tb := kp_84
theorem mf_X12_must : th_MF yX12_must cX12_must 2 (none) 1 := ⟨kw_1659, kw_14, by decide +kernel⟩
theorem im_X12_must : Cond.instanceMethod yX12_must ∈ th_tb := kw_1658
theorem se_X12_must : Cond.selects (yX12_must).cls yX12_must yX12_must ∈ th_tb := kp_90
theorem mf_X12_leaf : th_MF yX12_leaf cX12_leaf 1 (none) 0 := ⟨kw_1663, kw_14, by decide +kernel⟩
theorem im_X12_leaf : Cond.instanceMethod yX12_leaf ∈ th_tb := kw_1662
theorem se_X12_leaf : Cond.selects (yX12_leaf).cls yX12_leaf yX12_leaf ∈ th_tb := kp_91
theorem mf_X12_sign : th_MF yX12_sign cX12_sign 1 (some FieldType.int) 1 := ⟨kw_1485, kw_14, by decide +kernel⟩
theorem st_X12_sign : Cond.static yX12_sign ∈ th_tb := kw_1484
theorem mf_X12_mustNumber : th_MF yX12_mustNumber cX12_mustNumber 3 (none) 2 := ⟨kw_1667, kw_14, by decide +kernel⟩
theorem im_X12_mustNumber : Cond.instanceMethod yX12_mustNumber ∈ th_tb := kw_1666
theorem se_X12_mustNumber : Cond.selects (yX12_mustNumber).cls yX12_mustNumber yX12_mustNumber ∈ th_tb := kp_92
theorem mf_X12_readClause : th_MF yX12_readClause cX12_readClause 1 (none) 0 := ⟨kw_1687, kw_14, by decide +kernel⟩
theorem im_X12_readClause : Cond.instanceMethod yX12_readClause ∈ th_tb := kw_1686
theorem se_X12_readClause : Cond.selects (yX12_readClause).cls yX12_readClause yX12_readClause ∈ th_tb := kp_97
theorem mf_X12_readMore : th_MF yX12_readMore cX12_readMore 2 (none) 1 := ⟨kw_1671, kw_14, by decide +kernel⟩
theorem im_X12_readMore : Cond.instanceMethod yX12_readMore ∈ th_tb := kw_1670
theorem se_X12_readMore : Cond.selects (yX12_readMore).cls yX12_readMore yX12_readMore ∈ th_tb := kp_93
theorem mf_X12_readOrder : th_MF yX12_readOrder cX12_readOrder 1 (none) 0 := ⟨kw_1631, kw_14, by decide +kernel⟩
theorem im_X12_readOrder : Cond.instanceMethod yX12_readOrder ∈ th_tb := kw_1630
theorem se_X12_readOrder : Cond.selects (yX12_readOrder).cls yX12_readOrder yX12_readOrder ∈ th_tb := kp_83
theorem mf_X12_readOne : th_MF yX12_readOne cX12_readOne 1 (none) 0 := ⟨kw_1627, kw_14, by decide +kernel⟩
theorem im_X12_readOne : Cond.instanceMethod yX12_readOne ∈ th_tb := kw_1626
theorem se_X12_readOne : Cond.selects (yX12_readOne).cls yX12_readOne yX12_readOne ∈ th_tb := kp_82
theorem mf_X12_readTest : th_MF yX12_readTest cX12_readTest 2 (none) 1 := ⟨kw_1675, kw_14, by decide +kernel⟩
theorem im_X12_readTest : Cond.instanceMethod yX12_readTest ∈ th_tb := kw_1674
theorem se_X12_readTest : Cond.selects (yX12_readTest).cls yX12_readTest yX12_readTest ∈ th_tb := kp_94
theorem mf_X12_readBoth : th_MF yX12_readBoth cX12_readBoth 2 (none) 1 := ⟨kw_1679, kw_14, by decide +kernel⟩
theorem im_X12_readBoth : Cond.instanceMethod yX12_readBoth ∈ th_tb := kw_1678
theorem se_X12_readBoth : Cond.selects (yX12_readBoth).cls yX12_readBoth yX12_readBoth ∈ th_tb := kp_95
theorem mf_X12_readPlain : th_MF yX12_readPlain cX12_readPlain 4 (none) 1 := ⟨kw_1683, kw_14, by decide +kernel⟩
theorem im_X12_readPlain : Cond.instanceMethod yX12_readPlain ∈ th_tb := kw_1682
theorem se_X12_readPlain : Cond.selects (yX12_readPlain).cls yX12_readPlain yX12_readPlain ∈ th_tb := kp_96
theorem mf_X12_readSum : th_MF yX12_readSum cX12_readSum 2 (none) 1 := ⟨kw_1643, kw_14, by decide +kernel⟩
theorem im_X12_readSum : Cond.instanceMethod yX12_readSum ∈ th_tb := kw_1642
theorem se_X12_readSum : Cond.selects (yX12_readSum).cls yX12_readSum yX12_readSum ∈ th_tb := kp_86
theorem mf_X12_readTerm : th_MF yX12_readTerm cX12_readTerm 2 (none) 1 := ⟨kw_1647, kw_14, by decide +kernel⟩
theorem im_X12_readTerm : Cond.instanceMethod yX12_readTerm ∈ th_tb := kw_1646
theorem se_X12_readTerm : Cond.selects (yX12_readTerm).cls yX12_readTerm yX12_readTerm ∈ th_tb := kp_87
theorem mf_X12_readPart : th_MF yX12_readPart cX12_readPart 3 (none) 1 := ⟨kw_1651, kw_14, by decide +kernel⟩
theorem im_X12_readPart : Cond.instanceMethod yX12_readPart ∈ th_tb := kw_1650
theorem se_X12_readPart : Cond.selects (yX12_readPart).cls yX12_readPart yX12_readPart ∈ th_tb := kp_88
theorem mf_X12_reads : th_MF yX12_reads cX12_reads 2 (some FieldType.boolean) 0 := ⟨kw_1608, kw_14, by decide +kernel⟩
theorem im_X12_reads : Cond.instanceMethod yX12_reads ∈ th_tb := kw_1607
theorem se_X12_reads : Cond.selects (yX12_reads).cls yX12_reads yX12_reads ∈ th_tb := kp_79
theorem mf_X12_readsAs : th_MF yX12_readsAs cX12_readsAs 2 (some FieldType.boolean) 1 := ⟨kw_1604, kw_14, by decide +kernel⟩
theorem im_X12_readsAs : Cond.instanceMethod yX12_readsAs ∈ th_tb := kw_1603
theorem se_X12_readsAs : Cond.selects (yX12_readsAs).cls yX12_readsAs yX12_readsAs ∈ th_tb := kp_78
theorem mf_X12_lays : th_MF yX12_lays cX12_lays 3 (none) 1 := ⟨kw_1691, kw_14, by decide +kernel⟩
theorem im_X12_lays : Cond.instanceMethod yX12_lays ∈ th_tb := kw_1690
theorem se_X12_lays : Cond.selects (yX12_lays).cls yX12_lays yX12_lays ∈ th_tb := kp_98
theorem mf_X12_law : th_MF yX12_law cX12_law 1 (some FieldType.int) 0 := ⟨kw_1600, kw_14, by decide +kernel⟩
theorem im_X12_law : Cond.instanceMethod yX12_law ∈ th_tb := kw_1598
theorem se_X12_law : Cond.selects (yX12_law).cls yX12_law yX12_law ∈ th_tb := kw_1599
theorem mf_X12_fault : th_MF yX12_fault cX12_fault 1 (some FieldType.int) 0 := ⟨kw_1695, kw_14, by decide +kernel⟩
theorem im_X12_fault : Cond.instanceMethod yX12_fault ∈ th_tb := kw_1693
theorem se_X12_fault : Cond.selects (yX12_fault).cls yX12_fault yX12_fault ∈ th_tb := kw_1694
theorem mf_X12_isLaw : th_MF yX12_isLaw cX12_isLaw 2 (some FieldType.boolean) 1 := ⟨kw_1703, kw_14, by decide +kernel⟩
theorem im_X12_isLaw : Cond.instanceMethod yX12_isLaw ∈ th_tb := kw_1702
theorem se_X12_isLaw : Cond.selects (yX12_isLaw).cls yX12_isLaw yX12_isLaw ∈ th_tb := kp_99
theorem mf_X12_force : th_MF yX12_force cX12_force 3 (some FieldType.int) 1 := ⟨kw_1699, kw_14, by decide +kernel⟩
theorem im_X12_force : Cond.instanceMethod yX12_force ∈ th_tb := kw_1697
theorem se_X12_force : Cond.selects (yX12_force).cls yX12_force yX12_force ∈ th_tb := kw_1698
theorem mf_X12_codeAt : th_MF yX12_codeAt cX12_codeAt 2 (some FieldType.int) 1 := ⟨kw_1470, kw_14, by decide +kernel⟩
theorem im_X12_codeAt : Cond.instanceMethod yX12_codeAt ∈ th_tb := kw_1469
theorem se_X12_codeAt : Cond.selects (yX12_codeAt).cls yX12_codeAt yX12_codeAt ∈ th_tb := kp_57
theorem mf_X12_passes0 : th_MF yX12_passes0 cX12_passes0 3 (some FieldType.boolean) 1 := ⟨kw_1489, kw_14, by decide +kernel⟩
theorem im_X12_passes0 : Cond.instanceMethod yX12_passes0 ∈ th_tb := kw_1488
theorem se_X12_passes0 : Cond.selects (yX12_passes0).cls yX12_passes0 yX12_passes0 ∈ th_tb := kp_61
theorem mf_X12_bounded : th_MF yX12_bounded cX12_bounded 4 (some FieldType.long) 2 := ⟨kw_1501, kw_14, by decide +kernel⟩
theorem im_X12_bounded : Cond.instanceMethod yX12_bounded ∈ th_tb := kw_1500
theorem se_X12_bounded : Cond.selects (yX12_bounded).cls yX12_bounded yX12_bounded ∈ th_tb := kp_64
theorem mf_X12_sumOf : th_MF yX12_sumOf cX12_sumOf 7 (some FieldType.long) 1 := ⟨kw_1474, kw_14, by decide +kernel⟩
theorem im_X12_sumOf : Cond.instanceMethod yX12_sumOf ∈ th_tb := kw_1473
theorem se_X12_sumOf : Cond.selects (yX12_sumOf).cls yX12_sumOf yX12_sumOf ∈ th_tb := kp_58
theorem mf_X12_termOf : th_MF yX12_termOf cX12_termOf 7 (some FieldType.long) 1 := ⟨kw_1478, kw_14, by decide +kernel⟩
theorem im_X12_termOf : Cond.instanceMethod yX12_termOf ∈ th_tb := kw_1477
theorem se_X12_termOf : Cond.selects (yX12_termOf).cls yX12_termOf yX12_termOf ∈ th_tb := kp_59
theorem mf_X12_partOf : th_MF yX12_partOf cX12_partOf 4 (some FieldType.long) 1 := ⟨kw_1482, kw_14, by decide +kernel⟩
theorem im_X12_partOf : Cond.instanceMethod yX12_partOf ∈ th_tb := kw_1481
theorem se_X12_partOf : Cond.selects (yX12_partOf).cls yX12_partOf yX12_partOf ∈ th_tb := kp_60
theorem mf_X12_orderValue : th_MF yX12_orderValue cX12_orderValue 3 (some FieldType.int) 2 := ⟨kw_1493, kw_14, by decide +kernel⟩
theorem im_X12_orderValue : Cond.instanceMethod yX12_orderValue ∈ th_tb := kw_1492
theorem se_X12_orderValue : Cond.selects (yX12_orderValue).cls yX12_orderValue yX12_orderValue ∈ th_tb := kp_62
theorem mf_X12_testOf : th_MF yX12_testOf cX12_testOf 4 (some FieldType.boolean) 1 := ⟨kw_1507, kw_14, by decide +kernel⟩
theorem im_X12_testOf : Cond.instanceMethod yX12_testOf ∈ th_tb := kw_1506
theorem se_X12_testOf : Cond.selects (yX12_testOf).cls yX12_testOf yX12_testOf ∈ th_tb := kp_65
theorem mf_X12_bothOf : th_MF yX12_bothOf cX12_bothOf 4 (some FieldType.boolean) 1 := ⟨kw_1511, kw_14, by decide +kernel⟩
theorem im_X12_bothOf : Cond.instanceMethod yX12_bothOf ∈ th_tb := kw_1510
theorem se_X12_bothOf : Cond.selects (yX12_bothOf).cls yX12_bothOf yX12_bothOf ∈ th_tb := kp_66
theorem mf_X12_plainOf : th_MF yX12_plainOf cX12_plainOf 3 (some FieldType.boolean) 1 := ⟨kw_1515, kw_14, by decide +kernel⟩
theorem im_X12_plainOf : Cond.instanceMethod yX12_plainOf ∈ th_tb := kw_1514
theorem se_X12_plainOf : Cond.selects (yX12_plainOf).cls yX12_plainOf yX12_plainOf ∈ th_tb := kp_67
theorem mf_X12_positiveOf : th_MF yX12_positiveOf cX12_positiveOf 7 (some FieldType.boolean) 1 := ⟨kw_1519, kw_14, by decide +kernel⟩
theorem im_X12_positiveOf : Cond.instanceMethod yX12_positiveOf ∈ th_tb := kw_1518
theorem se_X12_positiveOf : Cond.selects (yX12_positiveOf).cls yX12_positiveOf yX12_positiveOf ∈ th_tb := kp_68
theorem mf_X12_setsAsked : th_MF yX12_setsAsked cX12_setsAsked 4 (none) 3 := ⟨kw_1466, kw_14, by decide +kernel⟩
theorem im_X12_setsAsked : Cond.instanceMethod yX12_setsAsked ∈ th_tb := kw_1465
theorem se_X12_setsAsked : Cond.selects (yX12_setsAsked).cls yX12_setsAsked yX12_setsAsked ∈ th_tb := kp_56
theorem mf_X12_tells : th_MF yX12_tells cX12_tells 14 (some FieldType.int) 6 := ⟨kw_1462, kw_14, by decide +kernel⟩
theorem im_X12_tells : Cond.instanceMethod yX12_tells ∈ th_tb := kw_1461
theorem se_X12_tells : Cond.selects (yX12_tells).cls yX12_tells yX12_tells ∈ th_tb := kp_55
theorem mf_X12_costsAt : th_MF yX12_costsAt cX12_costsAt 4 (some FieldType.int) 3 := ⟨kw_1546, kw_14, by decide +kernel⟩
theorem im_X12_costsAt : Cond.instanceMethod yX12_costsAt ∈ th_tb := kw_1545
theorem se_X12_costsAt : Cond.selects (yX12_costsAt).cls yX12_costsAt yX12_costsAt ∈ th_tb := kp_71
theorem mf_X12_isBarred : th_MF yX12_isBarred cX12_isBarred 4 (some FieldType.boolean) 3 := ⟨kw_1550, kw_14, by decide +kernel⟩
theorem im_X12_isBarred : Cond.instanceMethod yX12_isBarred ∈ th_tb := kw_1549
theorem se_X12_isBarred : Cond.selects (yX12_isBarred).cls yX12_isBarred yX12_isBarred ∈ th_tb := kp_72
theorem mf_X12_wearsNow : th_MF yX12_wearsNow cX12_wearsNow 2 (some FieldType.int) 1 := ⟨kw_1458, kw_14, by decide +kernel⟩
theorem im_X12_wearsNow : Cond.instanceMethod yX12_wearsNow ∈ th_tb := kw_1457
theorem se_X12_wearsNow : Cond.selects (yX12_wearsNow).cls yX12_wearsNow yX12_wearsNow ∈ th_tb := kp_54
theorem mf_X12_turnsSquare : th_MF yX12_turnsSquare cX12_turnsSquare 5 (none) 3 := ⟨kw_1566, kw_14, by decide +kernel⟩
theorem im_X12_turnsSquare : Cond.instanceMethod yX12_turnsSquare ∈ th_tb := kw_1565
theorem se_X12_turnsSquare : Cond.selects (yX12_turnsSquare).cls yX12_turnsSquare yX12_turnsSquare ∈ th_tb := kp_76
theorem mf_X12_laysCovered : th_MF yX12_laysCovered cX12_laysCovered 2 (none) 0 := ⟨kw_1562, kw_14, by decide +kernel⟩
theorem im_X12_laysCovered : Cond.instanceMethod yX12_laysCovered ∈ th_tb := kw_1561
theorem se_X12_laysCovered : Cond.selects (yX12_laysCovered).cls yX12_laysCovered yX12_laysCovered ∈ th_tb := kp_75
theorem mf_X12_isFree : th_MF yX12_isFree cX12_isFree 8 (some FieldType.boolean) 5 := ⟨kw_1570, kw_14, by decide +kernel⟩
theorem im_X12_isFree : Cond.instanceMethod yX12_isFree ∈ th_tb := kw_1569
theorem se_X12_isFree : Cond.selects (yX12_isFree).cls yX12_isFree yX12_isFree ∈ th_tb := kp_77
theorem mf_X12_firstBare : th_MF yX12_firstBare cX12_firstBare 5 (some FieldType.int) 2 := ⟨kw_1711, kw_14, by decide +kernel⟩
theorem im_X12_firstBare : Cond.instanceMethod yX12_firstBare ∈ th_tb := kw_1710
theorem se_X12_firstBare : Cond.selects (yX12_firstBare).cls yX12_firstBare yX12_firstBare ∈ th_tb := kp_100
theorem mf_X12_bareMany : th_MF yX12_bareMany cX12_bareMany 3 (some FieldType.int) 0 := ⟨kw_1497, kw_14, by decide +kernel⟩
theorem im_X12_bareMany : Cond.instanceMethod yX12_bareMany ∈ th_tb := kw_1496
theorem se_X12_bareMany : Cond.selects (yX12_bareMany).cls yX12_bareMany yX12_bareMany ∈ th_tb := kp_63
theorem mf_X12_bare : th_MF yX12_bare cX12_bare 3 (some FieldType.int) 1 := ⟨kw_1707, kw_14, by decide +kernel⟩
theorem im_X12_bare : Cond.instanceMethod yX12_bare ∈ th_tb := kw_1705
theorem se_X12_bare : Cond.selects (yX12_bare).cls yX12_bare yX12_bare ∈ th_tb := kw_1706
theorem mf_X12_canLay : th_MF yX12_canLay cX12_canLay 4 (some FieldType.boolean) 3 := ⟨kw_1554, kw_14, by decide +kernel⟩
theorem im_X12_canLay : Cond.instanceMethod yX12_canLay ∈ th_tb := kw_1553
theorem se_X12_canLay : Cond.selects (yX12_canLay).cls yX12_canLay yX12_canLay ∈ th_tb := kp_73
theorem mf_X12_laysAt : th_MF yX12_laysAt cX12_laysAt 5 (some FieldType.int) 3 := ⟨kw_1734, kw_14, by decide +kernel⟩
theorem im_X12_laysAt : Cond.instanceMethod yX12_laysAt ∈ th_tb := kw_1733
theorem se_X12_laysAt : Cond.selects (yX12_laysAt).cls yX12_laysAt yX12_laysAt ∈ th_tb := kp_103
theorem mf_X12_yearPasses : th_MF yX12_yearPasses cX12_yearPasses 3 (some FieldType.int) 0 := ⟨kw_1769, kw_14, by decide +kernel⟩
theorem im_X12_yearPasses : Cond.instanceMethod yX12_yearPasses ∈ th_tb := kw_1768
theorem se_X12_yearPasses : Cond.selects (yX12_yearPasses).cls yX12_yearPasses yX12_yearPasses ∈ th_tb := kp_108
theorem mf_X12_keeps : th_MF yX12_keeps cX12_keeps 4 (none) 1 := ⟨kw_1730, kw_14, by decide +kernel⟩
theorem im_X12_keeps : Cond.instanceMethod yX12_keeps ∈ th_tb := kw_1729
theorem se_X12_keeps : Cond.selects (yX12_keeps).cls yX12_keeps yX12_keeps ∈ th_tb := kp_102
theorem mf_X12_undo : th_MF yX12_undo cX12_undo 3 (some FieldType.int) 0 := ⟨kw_1718, kw_14, by decide +kernel⟩
theorem im_X12_undo : Cond.instanceMethod yX12_undo ∈ th_tb := kw_1716
theorem se_X12_undo : Cond.selects (yX12_undo).cls yX12_undo yX12_undo ∈ th_tb := kw_1717
theorem mf_X12_goodOr : th_MF yX12_goodOr cX12_goodOr 2 (some FieldType.int) 1 := ⟨kw_1741, kw_14, by decide +kernel⟩
theorem im_X12_goodOr : Cond.instanceMethod yX12_goodOr ∈ th_tb := kw_1740
theorem se_X12_goodOr : Cond.selects (yX12_goodOr).cls yX12_goodOr yX12_goodOr ∈ th_tb := kp_104
theorem mf_X12_laysKept : th_MF yX12_laysKept cX12_laysKept 4 (some FieldType.int) 3 := ⟨kw_1726, kw_14, by decide +kernel⟩
theorem im_X12_laysKept : Cond.instanceMethod yX12_laysKept ∈ th_tb := kw_1725
theorem se_X12_laysKept : Cond.selects (yX12_laysKept).cls yX12_laysKept yX12_laysKept ∈ th_tb := kp_101
theorem mf_X12_rollsKept : th_MF yX12_rollsKept cX12_rollsKept 2 (some FieldType.int) 1 := ⟨kw_1749, kw_14, by decide +kernel⟩
theorem im_X12_rollsKept : Cond.instanceMethod yX12_rollsKept ∈ th_tb := kw_1748
theorem se_X12_rollsKept : Cond.selects (yX12_rollsKept).cls yX12_rollsKept yX12_rollsKept ∈ th_tb := kp_105
theorem mf_X12_mirrorsKept : th_MF yX12_mirrorsKept cX12_mirrorsKept 2 (some FieldType.int) 0 := ⟨kw_1757, kw_14, by decide +kernel⟩
theorem im_X12_mirrorsKept : Cond.instanceMethod yX12_mirrorsKept ∈ th_tb := kw_1756
theorem se_X12_mirrorsKept : Cond.selects (yX12_mirrorsKept).cls yX12_mirrorsKept yX12_mirrorsKept ∈ th_tb := kp_106
theorem mf_X12_passesKept : th_MF yX12_passesKept cX12_passesKept 1 (some FieldType.int) 0 := ⟨kw_1765, kw_14, by decide +kernel⟩
theorem im_X12_passesKept : Cond.instanceMethod yX12_passesKept ∈ th_tb := kw_1764
theorem se_X12_passesKept : Cond.selects (yX12_passesKept).cls yX12_passesKept yX12_passesKept ∈ th_tb := kp_107
theorem mf_X12_lay : th_MF yX12_lay cX12_lay 4 (some FieldType.int) 3 := ⟨kw_1722, kw_14, by decide +kernel⟩
theorem im_X12_lay : Cond.instanceMethod yX12_lay ∈ th_tb := kw_1720
theorem se_X12_lay : Cond.selects (yX12_lay).cls yX12_lay yX12_lay ∈ th_tb := kw_1721
theorem mf_X12_roll : th_MF yX12_roll cX12_roll 2 (some FieldType.int) 1 := ⟨kw_1745, kw_14, by decide +kernel⟩
theorem im_X12_roll : Cond.instanceMethod yX12_roll ∈ th_tb := kw_1743
theorem se_X12_roll : Cond.selects (yX12_roll).cls yX12_roll yX12_roll ∈ th_tb := kw_1744
theorem mf_X12_mirror : th_MF yX12_mirror cX12_mirror 1 (some FieldType.int) 0 := ⟨kw_1753, kw_14, by decide +kernel⟩
theorem im_X12_mirror : Cond.instanceMethod yX12_mirror ∈ th_tb := kw_1751
theorem se_X12_mirror : Cond.selects (yX12_mirror).cls yX12_mirror yX12_mirror ∈ th_tb := kw_1752
theorem mf_X12_pass : th_MF yX12_pass cX12_pass 1 (some FieldType.int) 0 := ⟨kw_1761, kw_14, by decide +kernel⟩
theorem im_X12_pass : Cond.instanceMethod yX12_pass ∈ th_tb := kw_1759
theorem se_X12_pass : Cond.selects (yX12_pass).cls yX12_pass yX12_pass ∈ th_tb := kw_1760
theorem mf_X12_priceAt : th_MF yX12_priceAt cX12_priceAt 3 (some FieldType.int) 2 := ⟨kw_1817, kw_14, by decide +kernel⟩
theorem im_X12_priceAt : Cond.instanceMethod yX12_priceAt ∈ th_tb := kw_1816
theorem se_X12_priceAt : Cond.selects (yX12_priceAt).cls yX12_priceAt yX12_priceAt ∈ th_tb := kp_118
theorem mf_X12_laysPrices : th_MF yX12_laysPrices cX12_laysPrices 6 (none) 1 := ⟨kw_1788, kw_14, by decide +kernel⟩
theorem im_X12_laysPrices : Cond.instanceMethod yX12_laysPrices ∈ th_tb := kw_1787
theorem se_X12_laysPrices : Cond.selects (yX12_laysPrices).cls yX12_laysPrices yX12_laysPrices ∈ th_tb := kp_111
theorem mf_X12_rolledWhole : th_MF yX12_rolledWhole cX12_rolledWhole 3 (some FieldType.int) 0 := ⟨kw_1784, kw_14, by decide +kernel⟩
theorem im_X12_rolledWhole : Cond.instanceMethod yX12_rolledWhole ∈ th_tb := kw_1783
theorem se_X12_rolledWhole : Cond.selects (yX12_rolledWhole).cls yX12_rolledWhole yX12_rolledWhole ∈ th_tb := kp_110
theorem mf_X12_carpetBehind : th_MF yX12_carpetBehind cX12_carpetBehind 8 (some FieldType.int) 3 := ⟨kw_1808, kw_14, by decide +kernel⟩
theorem im_X12_carpetBehind : Cond.instanceMethod yX12_carpetBehind ∈ th_tb := kw_1807
theorem se_X12_carpetBehind : Cond.selects (yX12_carpetBehind).cls yX12_carpetBehind yX12_carpetBehind ∈ th_tb := kp_116
theorem mf_X12_isSeenSo : th_MF yX12_isSeenSo cX12_isSeenSo 5 (some FieldType.boolean) 1 := ⟨kw_1804, kw_14, by decide +kernel⟩
theorem im_X12_isSeenSo : Cond.instanceMethod yX12_isSeenSo ∈ th_tb := kw_1803
theorem se_X12_isSeenSo : Cond.selects (yX12_isSeenSo).cls yX12_isSeenSo yX12_isSeenSo ∈ th_tb := kp_115
theorem mf_X12_countsRow : th_MF yX12_countsRow cX12_countsRow 5 (none) 1 := ⟨kw_1813, kw_14, by decide +kernel⟩
theorem im_X12_countsRow : Cond.instanceMethod yX12_countsRow ∈ th_tb := kw_1812
theorem se_X12_countsRow : Cond.selects (yX12_countsRow).cls yX12_countsRow yX12_countsRow ∈ th_tb := kp_117
theorem mf_X12_fills : th_MF yX12_fills cX12_fills 4 (none) 2 := ⟨kw_1800, kw_14, by decide +kernel⟩
theorem im_X12_fills : Cond.instanceMethod yX12_fills ∈ th_tb := kw_1799
theorem se_X12_fills : Cond.selects (yX12_fills).cls yX12_fills yX12_fills ∈ th_tb := kp_114
theorem mf_X12_goesOn : th_MF yX12_goesOn cX12_goesOn 8 (none) 3 := ⟨kw_1796, kw_14, by decide +kernel⟩
theorem im_X12_goesOn : Cond.instanceMethod yX12_goesOn ∈ th_tb := kw_1795
theorem se_X12_goesOn : Cond.selects (yX12_goesOn).cls yX12_goesOn yX12_goesOn ∈ th_tb := kp_113
theorem mf_X12_goesThrough : th_MF yX12_goesThrough cX12_goesThrough 4 (none) 3 := ⟨kw_1792, kw_14, by decide +kernel⟩
theorem im_X12_goesThrough : Cond.instanceMethod yX12_goesThrough ∈ th_tb := kw_1791
theorem se_X12_goesThrough : Cond.selects (yX12_goesThrough).cls yX12_goesThrough yX12_goesThrough ∈ th_tb := kp_112
theorem mf_X12_fillsNow : th_MF yX12_fillsNow cX12_fillsNow 3 (none) 1 := ⟨kw_1780, kw_14, by decide +kernel⟩
theorem im_X12_fillsNow : Cond.instanceMethod yX12_fillsNow ∈ th_tb := kw_1779
theorem se_X12_fillsNow : Cond.selects (yX12_fillsNow).cls yX12_fillsNow yX12_fillsNow ∈ th_tb := kp_109
theorem mf_X12_fill : th_MF yX12_fill cX12_fill 2 (some FieldType.int) 1 := ⟨kw_1776, kw_14, by decide +kernel⟩
theorem im_X12_fill : Cond.instanceMethod yX12_fill ∈ th_tb := kw_1774
theorem se_X12_fill : Cond.selects (yX12_fill).cls yX12_fill yX12_fill ∈ th_tb := kw_1775
theorem mf_X12_ways : th_MF yX12_ways cX12_ways 1 (some FieldType.int) 0 := ⟨kw_1821, kw_14, by decide +kernel⟩
theorem im_X12_ways : Cond.instanceMethod yX12_ways ∈ th_tb := kw_1819
theorem se_X12_ways : Cond.selects (yX12_ways).cls yX12_ways yX12_ways ∈ th_tb := kw_1820
theorem mf_X12_cheapest : th_MF yX12_cheapest cX12_cheapest 1 (some FieldType.int) 0 := ⟨kw_1825, kw_14, by decide +kernel⟩
theorem im_X12_cheapest : Cond.instanceMethod yX12_cheapest ∈ th_tb := kw_1823
theorem se_X12_cheapest : Cond.selects (yX12_cheapest).cls yX12_cheapest yX12_cheapest ∈ th_tb := kw_1824
theorem mf_X12_compare : th_MF yX12_compare cX12_compare 4 (some FieldType.int) 1 := ⟨kw_1829, kw_14, by decide +kernel⟩
theorem im_X12_compare : Cond.instanceMethod yX12_compare ∈ th_tb := kw_1827
theorem se_X12_compare : Cond.selects (yX12_compare).cls yX12_compare yX12_compare ∈ th_tb := kw_1828
theorem mf_X12_isMovable : th_MF yX12_isMovable cX12_isMovable 4 (some FieldType.boolean) 1 := ⟨kw_1838, kw_14, by decide +kernel⟩
theorem im_X12_isMovable : Cond.instanceMethod yX12_isMovable ∈ th_tb := kw_1837
theorem se_X12_isMovable : Cond.selects (yX12_isMovable).cls yX12_isMovable yX12_isMovable ∈ th_tb := kp_119
theorem mf_X12_free : th_MF yX12_free cX12_free 3 (some FieldType.int) 0 := ⟨kw_1834, kw_14, by decide +kernel⟩
theorem im_X12_free : Cond.instanceMethod yX12_free ∈ th_tb := kw_1832
theorem se_X12_free : Cond.selects (yX12_free).cls yX12_free yX12_free ∈ th_tb := kw_1833
theorem mf_X12_canFill : th_MF yX12_canFill cX12_canFill 5 (some FieldType.boolean) 3 := ⟨kw_1846, kw_14, by decide +kernel⟩
theorem im_X12_canFill : Cond.instanceMethod yX12_canFill ∈ th_tb := kw_1845
theorem se_X12_canFill : Cond.selects (yX12_canFill).cls yX12_canFill yX12_canFill ∈ th_tb := kp_120
theorem mf_X12_halls : th_MF yX12_halls cX12_halls 7 (some FieldType.int) 1 := ⟨kw_1842, kw_14, by decide +kernel⟩
theorem im_X12_halls : Cond.instanceMethod yX12_halls ∈ th_tb := kw_1840
theorem se_X12_halls : Cond.selects (yX12_halls).cls yX12_halls yX12_halls ∈ th_tb := kw_1841
theorem mf_X12_within : th_MF yX12_within cX12_within 9 (some FieldType.int) 4 := ⟨kw_1854, kw_14, by decide +kernel⟩
theorem im_X12_within : Cond.instanceMethod yX12_within ∈ th_tb := kw_1853
theorem se_X12_within : Cond.selects (yX12_within).cls yX12_within yX12_within ∈ th_tb := kp_121
theorem mf_X12_inner : th_MF yX12_inner cX12_inner 8 (some FieldType.int) 0 := ⟨kw_1850, kw_14, by decide +kernel⟩
theorem im_X12_inner : Cond.instanceMethod yX12_inner ∈ th_tb := kw_1848
theorem se_X12_inner : Cond.selects (yX12_inner).cls yX12_inner yX12_inner ∈ th_tb := kw_1849
theorem mf_X12_isCross : th_MF yX12_isCross cX12_isCross 8 (some FieldType.boolean) 2 := ⟨kw_1862, kw_14, by decide +kernel⟩
theorem im_X12_isCross : Cond.instanceMethod yX12_isCross ∈ th_tb := kw_1861
theorem se_X12_isCross : Cond.selects (yX12_isCross).cls yX12_isCross yX12_isCross ∈ th_tb := kp_122
theorem mf_X12_crosses : th_MF yX12_crosses cX12_crosses 4 (some FieldType.int) 0 := ⟨kw_1858, kw_14, by decide +kernel⟩
theorem im_X12_crosses : Cond.instanceMethod yX12_crosses ∈ th_tb := kw_1856
theorem se_X12_crosses : Cond.selects (yX12_crosses).cls yX12_crosses yX12_crosses ∈ th_tb := kw_1857
theorem mf_X12_currents : th_MF yX12_currents cX12_currents 5 (some FieldType.int) 2 := ⟨kw_1866, kw_14, by decide +kernel⟩
theorem im_X12_currents : Cond.instanceMethod yX12_currents ∈ th_tb := kw_1864
theorem se_X12_currents : Cond.selects (yX12_currents).cls yX12_currents yX12_currents ∈ th_tb := kw_1865
theorem mf_X12_fitting : th_MF yX12_fitting cX12_fitting 5 (some FieldType.int) 1 := ⟨kw_1870, kw_14, by decide +kernel⟩
theorem im_X12_fitting : Cond.instanceMethod yX12_fitting ∈ th_tb := kw_1868
theorem se_X12_fitting : Cond.selects (yX12_fitting).cls yX12_fitting yX12_fitting ∈ th_tb := kw_1869
theorem mf_X12_alike : th_MF yX12_alike cX12_alike 4 (some FieldType.int) 0 := ⟨kw_1874, kw_14, by decide +kernel⟩
theorem im_X12_alike : Cond.instanceMethod yX12_alike ∈ th_tb := kw_1872
theorem se_X12_alike : Cond.selects (yX12_alike).cls yX12_alike yX12_alike ∈ th_tb := kw_1873
theorem mf_X12_seen : th_MF yX12_seen cX12_seen 5 (some FieldType.int) 3 := ⟨kw_1878, kw_14, by decide +kernel⟩
theorem im_X12_seen : Cond.instanceMethod yX12_seen ∈ th_tb := kw_1876
theorem se_X12_seen : Cond.selects (yX12_seen).cls yX12_seen yX12_seen ∈ th_tb := kw_1877
theorem mf_X12_forget : th_MF yX12_forget cX12_forget 2 (some FieldType.int) 0 := ⟨kw_1882, kw_14, by decide +kernel⟩
theorem im_X12_forget : Cond.instanceMethod yX12_forget ∈ th_tb := kw_1880
theorem se_X12_forget : Cond.selects (yX12_forget).cls yX12_forget yX12_forget ∈ th_tb := kw_1881
theorem mf_X12_laysFloors : th_MF yX12_laysFloors cX12_laysFloors 2 (none) 0 := ⟨kw_1890, kw_14, by decide +kernel⟩
theorem im_X12_laysFloors : Cond.instanceMethod yX12_laysFloors ∈ th_tb := kw_1889
theorem se_X12_laysFloors : Cond.selects (yX12_laysFloors).cls yX12_laysFloors yX12_laysFloors ∈ th_tb := kp_123
theorem mf_X12_floors : th_MF yX12_floors cX12_floors 1 (some FieldType.int) 0 := ⟨kw_1886, kw_14, by decide +kernel⟩
theorem im_X12_floors : Cond.instanceMethod yX12_floors ∈ th_tb := kw_1884
theorem se_X12_floors : Cond.selects (yX12_floors).cls yX12_floors yX12_floors ∈ th_tb := kw_1885
theorem mf_X12_mostAt : th_MF yX12_mostAt cX12_mostAt 4 (some FieldType.int) 1 := ⟨kw_1898, kw_14, by decide +kernel⟩
theorem im_X12_mostAt : Cond.instanceMethod yX12_mostAt ∈ th_tb := kw_1897
theorem se_X12_mostAt : Cond.selects (yX12_mostAt).cls yX12_mostAt yX12_mostAt ∈ th_tb := kp_124
theorem mf_X12_look : th_MF yX12_look cX12_look 6 (some FieldType.int) 1 := ⟨kw_1894, kw_14, by decide +kernel⟩
theorem im_X12_look : Cond.instanceMethod yX12_look ∈ th_tb := kw_1892
theorem se_X12_look : Cond.selects (yX12_look).cls yX12_look yX12_look ∈ th_tb := kw_1893
theorem mf_X12_few : th_MF yX12_few cX12_few 6 (some FieldType.long) 2 := ⟨kw_1902, kw_14, by decide +kernel⟩
theorem im_X12_few : Cond.instanceMethod yX12_few ∈ th_tb := kw_1900
theorem se_X12_few : Cond.selects (yX12_few).cls yX12_few yX12_few ∈ th_tb := kw_1901
theorem mf_X12_stopped : th_MF yX12_stopped cX12_stopped 1 (some FieldType.int) 0 := ⟨kw_1909, kw_14, by decide +kernel⟩
theorem im_X12_stopped : Cond.instanceMethod yX12_stopped ∈ th_tb := kw_1907
theorem se_X12_stopped : Cond.selects (yX12_stopped).cls yX12_stopped yX12_stopped ∈ th_tb := kw_1908
theorem mf_X12_orders : th_MF yX12_orders cX12_orders 5 (some FieldType.int) 0 := ⟨kw_1913, kw_14, by decide +kernel⟩
theorem im_X12_orders : Cond.instanceMethod yX12_orders ∈ th_tb := kw_1911
theorem se_X12_orders : Cond.selects (yX12_orders).cls yX12_orders yX12_orders ∈ th_tb := kw_1912
theorem mf_X12_goesAlong : th_MF yX12_goesAlong cX12_goesAlong 5 (none) 2 := ⟨kw_1925, kw_14, by decide +kernel⟩
theorem im_X12_goesAlong : Cond.instanceMethod yX12_goesAlong ∈ th_tb := kw_1924
theorem se_X12_goesAlong : Cond.selects (yX12_goesAlong).cls yX12_goesAlong yX12_goesAlong ∈ th_tb := kp_127
theorem mf_X12_small : th_MF yX12_small cX12_small 2 (some FieldType.int) 1 := ⟨kw_1932, kw_14, by decide +kernel⟩
theorem st_X12_small : Cond.static yX12_small ∈ th_tb := kw_1931
theorem mf_X12_obeys : th_MF yX12_obeys cX12_obeys 2 (some FieldType.int) 0 := ⟨kw_1929, kw_14, by decide +kernel⟩
theorem im_X12_obeys : Cond.instanceMethod yX12_obeys ∈ th_tb := kw_1928
theorem se_X12_obeys : Cond.selects (yX12_obeys).cls yX12_obeys yX12_obeys ∈ th_tb := kp_128
theorem mf_X12_runs : th_MF yX12_runs cX12_runs 5 (some FieldType.boolean) 1 := ⟨kw_1921, kw_14, by decide +kernel⟩
theorem im_X12_runs : Cond.instanceMethod yX12_runs ∈ th_tb := kw_1920
theorem se_X12_runs : Cond.selects (yX12_runs).cls yX12_runs yX12_runs ∈ th_tb := kp_126
theorem mf_X12_draws : th_MF yX12_draws cX12_draws 2 (some FieldType.int) 1 := ⟨kw_1945, kw_14, by decide +kernel⟩
theorem im_X12_draws : Cond.instanceMethod yX12_draws ∈ th_tb := kw_1944
theorem se_X12_draws : Cond.selects (yX12_draws).cls yX12_draws yX12_draws ∈ th_tb := kp_130
theorem mf_X12_years : th_MF yX12_years cX12_years 8 (some FieldType.int) 2 := ⟨kw_1941, kw_14, by decide +kernel⟩
theorem im_X12_years : Cond.instanceMethod yX12_years ∈ th_tb := kw_1939
theorem se_X12_years : Cond.selects (yX12_years).cls yX12_years yX12_years ∈ th_tb := kw_1940
theorem mf_X12_drawn : th_MF yX12_drawn cX12_drawn 3 (some FieldType.int) 2 := ⟨kw_1952, kw_14, by decide +kernel⟩
theorem im_X12_drawn : Cond.instanceMethod yX12_drawn ∈ th_tb := kw_1950
theorem se_X12_drawn : Cond.selects (yX12_drawn).cls yX12_drawn yX12_drawn ∈ th_tb := kw_1951
theorem mf_X12_ragMany : th_MF yX12_ragMany cX12_ragMany 3 (some FieldType.int) 0 := ⟨kw_1960, kw_14, by decide +kernel⟩
theorem im_X12_ragMany : Cond.instanceMethod yX12_ragMany ∈ th_tb := kw_1959
theorem se_X12_ragMany : Cond.selects (yX12_ragMany).cls yX12_ragMany yX12_ragMany ∈ th_tb := kp_131
theorem mf_X12_count : th_MF yX12_count cX12_count 2 (some FieldType.int) 1 := ⟨kw_1956, kw_14, by decide +kernel⟩
theorem im_X12_count : Cond.instanceMethod yX12_count ∈ th_tb := kw_1954
theorem se_X12_count : Cond.selects (yX12_count).cls yX12_count yX12_count ∈ th_tb := kw_1955
theorem mf_X12_status : th_MF yX12_status cX12_status 1 (some FieldType.int) 0 := ⟨kw_1964, kw_14, by decide +kernel⟩
theorem im_X12_status : Cond.instanceMethod yX12_status ∈ th_tb := kw_1962
theorem se_X12_status : Cond.selects (yX12_status).cls yX12_status yX12_status ∈ th_tb := kw_1963
theorem mf_X0_init : th_MF yX0_init cX0_init 1 (none) 0 := ⟨kw_371, kw_13, by decide +kernel⟩
theorem im_X0_init : Cond.instanceMethod yX0_init ∈ th_tb := kw_370
theorem mf_X0_fewer : th_MF yX0_fewer cX0_fewer 7 (some FieldType.long) 3 := ⟨kw_1156, kw_13, by decide +kernel⟩
theorem im_X0_fewer : Cond.instanceMethod yX0_fewer ∈ th_tb := kw_1154
theorem se_X0_fewer : Cond.selects (yX0_fewer).cls yX0_fewer yX0_fewer ∈ th_tb := kw_1155
theorem mf_X0_setStart : th_MF yX0_setStart cX0_setStart 6 (none) 1 := ⟨kw_1160, kw_13, by decide +kernel⟩
theorem im_X0_setStart : Cond.instanceMethod yX0_setStart ∈ th_tb := kw_1159
theorem se_X0_setStart : Cond.selects (yX0_setStart).cls yX0_setStart yX0_setStart ∈ th_tb := kp_43
theorem mf_X0_addOneMore : th_MF yX0_addOneMore cX0_addOneMore 9 (none) 2 := ⟨kw_1166, kw_13, by decide +kernel⟩
theorem im_X0_addOneMore : Cond.instanceMethod yX0_addOneMore ∈ th_tb := kw_1165
theorem se_X0_addOneMore : Cond.selects (yX0_addOneMore).cls yX0_addOneMore yX0_addOneMore ∈ th_tb := kp_44
theorem mf_X1_init : th_MF yX1_init cX1_init 1 (none) 0 := ⟨kw_40, kw_3, by decide +kernel⟩
theorem im_X1_init : Cond.instanceMethod yX1_init ∈ th_tb := kw_39
theorem mf_X1_copyFrom : th_MF yX1_copyFrom cX1_copyFrom 2 (none) 1 := ⟨kw_783, kw_3, by decide +kernel⟩
theorem im_X1_copyFrom : Cond.instanceMethod yX1_copyFrom ∈ th_tb := kw_781
theorem se_X1_copyFrom : Cond.selects (yX1_copyFrom).cls yX1_copyFrom yX1_copyFrom ∈ th_tb := kw_782
theorem mf_X1_add : th_MF yX1_add cX1_add 4 (some FieldType.int) 3 := ⟨kw_439, kw_3, by decide +kernel⟩
theorem im_X1_add : Cond.instanceMethod yX1_add ∈ th_tb := kw_437
theorem se_X1_add : Cond.selects (yX1_add).cls yX1_add yX1_add ∈ th_tb := kw_438
theorem mf_X1_has : th_MF yX1_has cX1_has 2 (some FieldType.boolean) 1 := ⟨kw_455, kw_3, by decide +kernel⟩
theorem im_X1_has : Cond.instanceMethod yX1_has ∈ th_tb := kw_453
theorem se_X1_has : Cond.selects (yX1_has).cls yX1_has yX1_has ∈ th_tb := kw_454
theorem mf_X1_isLaid : th_MF yX1_isLaid cX1_isLaid 2 (some FieldType.boolean) 1 := ⟨kw_459, kw_3, by decide +kernel⟩
theorem im_X1_isLaid : Cond.instanceMethod yX1_isLaid ∈ th_tb := kw_457
theorem se_X1_isLaid : Cond.selects (yX1_isLaid).cls yX1_isLaid yX1_isLaid ∈ th_tb := kw_458
theorem mf_X1_isReady : th_MF yX1_isReady cX1_isReady 2 (some FieldType.boolean) 1 := ⟨kw_550, kw_3, by decide +kernel⟩
theorem im_X1_isReady : Cond.instanceMethod yX1_isReady ∈ th_tb := kw_548
theorem se_X1_isReady : Cond.selects (yX1_isReady).cls yX1_isReady yX1_isReady ∈ th_tb := kw_549
theorem mf_X1_laidCarpets : th_MF yX1_laidCarpets cX1_laidCarpets 3 (some FieldType.int) 0 := ⟨kw_514, kw_3, by decide +kernel⟩
theorem im_X1_laidCarpets : Cond.instanceMethod yX1_laidCarpets ∈ th_tb := kw_512
theorem se_X1_laidCarpets : Cond.selects (yX1_laidCarpets).cls yX1_laidCarpets yX1_laidCarpets ∈ th_tb := kw_513
theorem mf_X1_rags : th_MF yX1_rags cX1_rags 3 (some FieldType.int) 0 := ⟨kw_1215, kw_3, by decide +kernel⟩
theorem im_X1_rags : Cond.instanceMethod yX1_rags ∈ th_tb := kw_1213
theorem se_X1_rags : Cond.selects (yX1_rags).cls yX1_rags yX1_rags ∈ th_tb := kw_1214
theorem mf_X1_areaWithoutRags : th_MF yX1_areaWithoutRags cX1_areaWithoutRags 3 (some FieldType.int) 0 := ⟨kw_1015, kw_3, by decide +kernel⟩
theorem im_X1_areaWithoutRags : Cond.instanceMethod yX1_areaWithoutRags ∈ th_tb := kw_1013
theorem se_X1_areaWithoutRags : Cond.selects (yX1_areaWithoutRags).cls yX1_areaWithoutRags yX1_areaWithoutRags ∈ th_tb := kw_1014
theorem mf_X1_bareCells : th_MF yX1_bareCells cX1_bareCells 3 (some FieldType.int) 0 := ⟨kw_800, kw_3, by decide +kernel⟩
theorem im_X1_bareCells : Cond.instanceMethod yX1_bareCells ∈ th_tb := kw_798
theorem se_X1_bareCells : Cond.selects (yX1_bareCells).cls yX1_bareCells yX1_bareCells ∈ th_tb := kw_799
theorem mf_X1_carpetOn : th_MF yX1_carpetOn cX1_carpetOn 4 (some FieldType.int) 2 := ⟨kw_523, kw_3, by decide +kernel⟩
theorem im_X1_carpetOn : Cond.instanceMethod yX1_carpetOn ∈ th_tb := kw_521
theorem se_X1_carpetOn : Cond.selects (yX1_carpetOn).cls yX1_carpetOn yX1_carpetOn ∈ th_tb := kw_522
theorem mf_X1_hasPlaceFor : th_MF yX1_hasPlaceFor cX1_hasPlaceFor 5 (some FieldType.boolean) 3 := ⟨kw_546, kw_3, by decide +kernel⟩
theorem im_X1_hasPlaceFor : Cond.instanceMethod yX1_hasPlaceFor ∈ th_tb := kw_544
theorem se_X1_hasPlaceFor : Cond.selects (yX1_hasPlaceFor).cls yX1_hasPlaceFor yX1_hasPlaceFor ∈ th_tb := kw_545
theorem mf_X1_rollUp : th_MF yX1_rollUp cX1_rollUp 2 (none) 1 := ⟨kw_821, kw_3, by decide +kernel⟩
theorem im_X1_rollUp : Cond.instanceMethod yX1_rollUp ∈ th_tb := kw_819
theorem se_X1_rollUp : Cond.selects (yX1_rollUp).cls yX1_rollUp yX1_rollUp ∈ th_tb := kw_820
theorem mf_X1_emptyInto : th_MF yX1_emptyInto cX1_emptyInto 4 (none) 2 := ⟨kw_1020, kw_3, by decide +kernel⟩
theorem im_X1_emptyInto : Cond.instanceMethod yX1_emptyInto ∈ th_tb := kw_1018
theorem se_X1_emptyInto : Cond.selects (yX1_emptyInto).cls yX1_emptyInto yX1_emptyInto ∈ th_tb := kw_1019
theorem mf_X1_turnOver : th_MF yX1_turnOver cX1_turnOver 3 (some FieldType.int) 0 := ⟨kw_830, kw_3, by decide +kernel⟩
theorem im_X1_turnOver : Cond.instanceMethod yX1_turnOver ∈ th_tb := kw_828
theorem se_X1_turnOver : Cond.selects (yX1_turnOver).cls yX1_turnOver yX1_turnOver ∈ th_tb := kw_829
theorem mf_X1_wearAYear : th_MF yX1_wearAYear cX1_wearAYear 5 (some FieldType.int) 2 := ⟨kw_838, kw_3, by decide +kernel⟩
theorem im_X1_wearAYear : Cond.instanceMethod yX1_wearAYear ∈ th_tb := kw_836
theorem se_X1_wearAYear : Cond.selects (yX1_wearAYear).cls yX1_wearAYear yX1_wearAYear ∈ th_tb := kw_837
theorem mf_X1_drawRows : th_MF yX1_drawRows cX1_drawRows 4 (none) 0 := ⟨kw_894, kw_3, by decide +kernel⟩
theorem im_X1_drawRows : Cond.instanceMethod yX1_drawRows ∈ th_tb := kw_892
theorem se_X1_drawRows : Cond.selects (yX1_drawRows).cls yX1_drawRows yX1_drawRows ∈ th_tb := kw_893
theorem mf_X1_firstBareCell : th_MF yX1_firstBareCell cX1_firstBareCell 4 (some FieldType.int) 0 := ⟨kw_890, kw_3, by decide +kernel⟩
theorem im_X1_firstBareCell : Cond.instanceMethod yX1_firstBareCell ∈ th_tb := kw_888
theorem se_X1_firstBareCell : Cond.selects (yX1_firstBareCell).cls yX1_firstBareCell yX1_firstBareCell ∈ th_tb := kw_889
theorem mf_X1_placesFor : th_MF yX1_placesFor cX1_placesFor 7 (some FieldType.int) 1 := ⟨kw_1067, kw_3, by decide +kernel⟩
theorem im_X1_placesFor : Cond.instanceMethod yX1_placesFor ∈ th_tb := kw_1065
theorem se_X1_placesFor : Cond.selects (yX1_placesFor).cls yX1_placesFor yX1_placesFor ∈ th_tb := kw_1066
theorem mf_X1_innerHalls : th_MF yX1_innerHalls cX1_innerHalls 3 (some FieldType.int) 0 := ⟨kw_1028, kw_3, by decide +kernel⟩
theorem im_X1_innerHalls : Cond.instanceMethod yX1_innerHalls ∈ th_tb := kw_1026
theorem se_X1_innerHalls : Cond.selects (yX1_innerHalls).cls yX1_innerHalls yX1_innerHalls ∈ th_tb := kw_1027
theorem mf_X1_isInnerHall : th_MF yX1_isInnerHall cX1_isInnerHall 8 (some FieldType.boolean) 1 := ⟨kw_1038, kw_3, by decide +kernel⟩
theorem im_X1_isInnerHall : Cond.instanceMethod yX1_isInnerHall ∈ th_tb := kw_1037
theorem se_X1_isInnerHall : Cond.selects (yX1_isInnerHall).cls yX1_isInnerHall yX1_isInnerHall ∈ th_tb := kp_38
theorem mf_X1_crossPoints : th_MF yX1_crossPoints cX1_crossPoints 3 (some FieldType.int) 0 := ⟨kw_1047, kw_3, by decide +kernel⟩
theorem im_X1_crossPoints : Cond.instanceMethod yX1_crossPoints ∈ th_tb := kw_1045
theorem se_X1_crossPoints : Cond.selects (yX1_crossPoints).cls yX1_crossPoints yX1_crossPoints ∈ th_tb := kw_1046
theorem mf_X1_threeMoreMeetAt : th_MF yX1_threeMoreMeetAt cX1_threeMoreMeetAt 9 (some FieldType.boolean) 2 := ⟨kw_1051, kw_3, by decide +kernel⟩
theorem im_X1_threeMoreMeetAt : Cond.instanceMethod yX1_threeMoreMeetAt ∈ th_tb := kw_1050
theorem se_X1_threeMoreMeetAt : Cond.selects (yX1_threeMoreMeetAt).cls yX1_threeMoreMeetAt yX1_threeMoreMeetAt ∈ th_tb := kp_39
theorem mf_X1_sidesAtLine : th_MF yX1_sidesAtLine cX1_sidesAtLine 5 (some FieldType.int) 2 := ⟨kw_1059, kw_3, by decide +kernel⟩
theorem im_X1_sidesAtLine : Cond.instanceMethod yX1_sidesAtLine ∈ th_tb := kw_1057
theorem se_X1_sidesAtLine : Cond.selects (yX1_sidesAtLine).cls yX1_sidesAtLine yX1_sidesAtLine ∈ th_tb := kw_1058
theorem mf_X1_twosOfOneSide : th_MF yX1_twosOfOneSide cX1_twosOfOneSide 4 (some FieldType.int) 0 := ⟨kw_1075, kw_3, by decide +kernel⟩
theorem im_X1_twosOfOneSide : Cond.instanceMethod yX1_twosOfOneSide ∈ th_tb := kw_1073
theorem se_X1_twosOfOneSide : Cond.selects (yX1_twosOfOneSide).cls yX1_twosOfOneSide yX1_twosOfOneSide ∈ th_tb := kw_1074
theorem mf_X2_init : th_MF yX2_init cX2_init 1 (none) 0 := ⟨kw_251, kw_8, by decide +kernel⟩
theorem im_X2_init : Cond.instanceMethod yX2_init ∈ th_tb := kw_250
theorem mf_X2_costOf : th_MF yX2_costOf cX2_costOf 6 (some FieldType.int) 5 := ⟨kw_534, kw_8, by decide +kernel⟩
theorem im_X2_costOf : Cond.instanceMethod yX2_costOf ∈ th_tb := kw_532
theorem se_X2_costOf : Cond.selects (yX2_costOf).cls yX2_costOf yX2_costOf ∈ th_tb := kw_533
theorem mf_X2_wearOf : th_MF yX2_wearOf cX2_wearOf 4 (some FieldType.int) 3 := ⟨kw_472, kw_8, by decide +kernel⟩
theorem im_X2_wearOf : Cond.instanceMethod yX2_wearOf ∈ th_tb := kw_470
theorem se_X2_wearOf : Cond.selects (yX2_wearOf).cls yX2_wearOf yX2_wearOf ∈ th_tb := kw_471
theorem mf_X2_isBarred : th_MF yX2_isBarred cX2_isBarred 6 (some FieldType.boolean) 5 := ⟨kw_538, kw_8, by decide +kernel⟩
theorem im_X2_isBarred : Cond.instanceMethod yX2_isBarred ∈ th_tb := kw_536
theorem se_X2_isBarred : Cond.selects (yX2_isBarred).cls yX2_isBarred yX2_isBarred ∈ th_tb := kw_537
theorem mf_X2_holds : th_MF yX2_holds cX2_holds 4 (some FieldType.boolean) 2 := ⟨kw_480, kw_8, by decide +kernel⟩
theorem im_X2_holds : Cond.instanceMethod yX2_holds ∈ th_tb := kw_479
theorem se_X2_holds : Cond.selects (yX2_holds).cls yX2_holds yX2_holds ∈ th_tb := kp_1
theorem mf_X3_init : th_MF yX3_init cX3_init 1 (none) 0 := ⟨kw_294, kw_11, by decide +kernel⟩
theorem im_X3_init : Cond.instanceMethod yX3_init ∈ th_tb := kw_293
theorem mf_X3_clear : th_MF yX3_clear cX3_clear 2 (none) 0 := ⟨kw_919, kw_11, by decide +kernel⟩
theorem im_X3_clear : Cond.instanceMethod yX3_clear ∈ th_tb := kw_917
theorem se_X3_clear : Cond.selects (yX3_clear).cls yX3_clear yX3_clear ∈ th_tb := kw_918
theorem mf_X3_slotFor : th_MF yX3_slotFor cX3_slotFor 5 (some FieldType.int) 1 := ⟨kw_936, kw_11, by decide +kernel⟩
theorem im_X3_slotFor : Cond.instanceMethod yX3_slotFor ∈ th_tb := kw_935
theorem se_X3_slotFor : Cond.selects (yX3_slotFor).cls yX3_slotFor yX3_slotFor ∈ th_tb := kp_29
theorem mf_X3_find : th_MF yX3_find cX3_find 4 (some FieldType.int) 1 := ⟨kw_932, kw_11, by decide +kernel⟩
theorem im_X3_find : Cond.instanceMethod yX3_find ∈ th_tb := kw_930
theorem se_X3_find : Cond.selects (yX3_find).cls yX3_find yX3_find ∈ th_tb := kw_931
theorem mf_X3_keep : th_MF yX3_keep cX3_keep 4 (none) 2 := ⟨kw_978, kw_11, by decide +kernel⟩
theorem im_X3_keep : Cond.instanceMethod yX3_keep ∈ th_tb := kw_976
theorem se_X3_keep : Cond.selects (yX3_keep).cls yX3_keep yX3_keep ∈ th_tb := kw_977
theorem mf_X3_put : th_MF yX3_put cX3_put 6 (none) 3 := ⟨kw_986, kw_11, by decide +kernel⟩
theorem im_X3_put : Cond.instanceMethod yX3_put ∈ th_tb := kw_985
theorem se_X3_put : Cond.selects (yX3_put).cls yX3_put yX3_put ∈ th_tb := kp_37
theorem mf_X3_grow : th_MF yX3_grow cX3_grow 5 (none) 0 := ⟨kw_982, kw_11, by decide +kernel⟩
theorem im_X3_grow : Cond.instanceMethod yX3_grow ∈ th_tb := kw_981
theorem se_X3_grow : Cond.selects (yX3_grow).cls yX3_grow yX3_grow ∈ th_tb := kp_36
theorem mf_X3_slotOfNth : th_MF yX3_slotOfNth cX3_slotOfNth 2 (some FieldType.int) 1 := ⟨kw_1125, kw_11, by decide +kernel⟩
theorem im_X3_slotOfNth : Cond.instanceMethod yX3_slotOfNth ∈ th_tb := kw_1123
theorem se_X3_slotOfNth : Cond.selects (yX3_slotOfNth).cls yX3_slotOfNth yX3_slotOfNth ∈ th_tb := kw_1124
theorem mf_X3_keyIn : th_MF yX3_keyIn cX3_keyIn 2 (some FieldType.long) 1 := ⟨kw_1133, kw_11, by decide +kernel⟩
theorem im_X3_keyIn : Cond.instanceMethod yX3_keyIn ∈ th_tb := kw_1131
theorem se_X3_keyIn : Cond.selects (yX3_keyIn).cls yX3_keyIn yX3_keyIn ∈ th_tb := kw_1132
theorem mf_X3_valueIn : th_MF yX3_valueIn cX3_valueIn 2 (some FieldType.int) 1 := ⟨kw_941, kw_11, by decide +kernel⟩
theorem im_X3_valueIn : Cond.instanceMethod yX3_valueIn ∈ th_tb := kw_939
theorem se_X3_valueIn : Cond.selects (yX3_valueIn).cls yX3_valueIn yX3_valueIn ∈ th_tb := kw_940
theorem mf_X3_flowIn : th_MF yX3_flowIn cX3_flowIn 2 (some FieldType.int) 1 := ⟨kw_1129, kw_11, by decide +kernel⟩
theorem im_X3_flowIn : Cond.instanceMethod yX3_flowIn ∈ th_tb := kw_1127
theorem se_X3_flowIn : Cond.selects (yX3_flowIn).cls yX3_flowIn yX3_flowIn ∈ th_tb := kw_1128
theorem mf_X3_addFlow : th_MF yX3_addFlow cX3_addFlow 3 (none) 2 := ⟨kw_1121, kw_11, by decide +kernel⟩
theorem im_X3_addFlow : Cond.instanceMethod yX3_addFlow ∈ th_tb := kw_1119
theorem se_X3_addFlow : Cond.selects (yX3_addFlow).cls yX3_addFlow yX3_addFlow ∈ th_tb := kw_1120
theorem mf_X4_init : th_MF yX4_init cX4_init 1 (none) 0 := ⟨kw_263, kw_9, by decide +kernel⟩
theorem im_X4_init : Cond.instanceMethod yX4_init ∈ th_tb := kw_262
theorem mf_X4_clear : th_MF yX4_clear cX4_clear 1 (none) 0 := ⟨kw_443, kw_9, by decide +kernel⟩
theorem im_X4_clear : Cond.instanceMethod yX4_clear ∈ th_tb := kw_441
theorem se_X4_clear : Cond.selects (yX4_clear).cls yX4_clear yX4_clear ∈ th_tb := kw_442
theorem mf_X4_note : th_MF yX4_note cX4_note 4 (none) 2 := ⟨kw_812, kw_9, by decide +kernel⟩
theorem im_X4_note : Cond.instanceMethod yX4_note ∈ th_tb := kw_810
theorem se_X4_note : Cond.selects (yX4_note).cls yX4_note yX4_note ∈ th_tb := kw_811
theorem mf_X4_takeBack : th_MF yX4_takeBack cX4_takeBack 3 (some FieldType.int) 1 := ⟨kw_882, kw_9, by decide +kernel⟩
theorem im_X4_takeBack : Cond.instanceMethod yX4_takeBack ∈ th_tb := kw_880
theorem se_X4_takeBack : Cond.selects (yX4_takeBack).cls yX4_takeBack yX4_takeBack ∈ th_tb := kw_881
theorem mf_X4_save : th_MF yX4_save cX4_save 2 (none) 1 := ⟨kw_779, kw_9, by decide +kernel⟩
theorem im_X4_save : Cond.instanceMethod yX4_save ∈ th_tb := kw_777
theorem se_X4_save : Cond.selects (yX4_save).cls yX4_save yX4_save ∈ th_tb := kw_778
theorem mf_X4_restore : th_MF yX4_restore cX4_restore 2 (none) 1 := ⟨kw_845, kw_9, by decide +kernel⟩
theorem im_X4_restore : Cond.instanceMethod yX4_restore ∈ th_tb := kw_843
theorem se_X4_restore : Cond.selects (yX4_restore).cls yX4_restore yX4_restore ∈ th_tb := kw_844
theorem mf_X5_init : th_MF yX5_init cX5_init 1 (none) 0 := ⟨kw_192, kw_6, by decide +kernel⟩
theorem im_X5_init : Cond.instanceMethod yX5_init ∈ th_tb := kw_191
theorem mf_X5_read : th_MF yX5_read cX5_read 5 (some FieldType.int) 3 := ⟨kw_585, kw_6, by decide +kernel⟩
theorem im_X5_read : Cond.instanceMethod yX5_read ∈ th_tb := kw_583
theorem se_X5_read : Cond.selects (yX5_read).cls yX5_read yX5_read ∈ th_tb := kw_584
theorem mf_X5_scan : th_MF yX5_scan cX5_scan 6 (none) 0 := ⟨kw_593, kw_6, by decide +kernel⟩
theorem im_X5_scan : Cond.instanceMethod yX5_scan ∈ th_tb := kw_592
theorem se_X5_scan : Cond.selects (yX5_scan).cls yX5_scan yX5_scan ∈ th_tb := kp_4
theorem mf_X5_isLetter : th_MF yX5_isLetter cX5_isLetter 1 (some FieldType.boolean) 1 := ⟨kw_596, kw_6, by decide +kernel⟩
theorem st_X5_isLetter : Cond.static yX5_isLetter ∈ th_tb := kw_595
theorem mf_X5_isDigit : th_MF yX5_isDigit cX5_isDigit 1 (some FieldType.boolean) 1 := ⟨kw_686, kw_6, by decide +kernel⟩
theorem st_X5_isDigit : Cond.static yX5_isDigit ∈ th_tb := kw_685
theorem mf_X5_endOfLetters : th_MF yX5_endOfLetters cX5_endOfLetters 3 (some FieldType.int) 1 := ⟨kw_600, kw_6, by decide +kernel⟩
theorem im_X5_endOfLetters : Cond.instanceMethod yX5_endOfLetters ∈ th_tb := kw_599
theorem se_X5_endOfLetters : Cond.selects (yX5_endOfLetters).cls yX5_endOfLetters yX5_endOfLetters ∈ th_tb := kp_5
theorem mf_X5_endOfDigits : th_MF yX5_endOfDigits cX5_endOfDigits 3 (some FieldType.int) 1 := ⟨kw_690, kw_6, by decide +kernel⟩
theorem im_X5_endOfDigits : Cond.instanceMethod yX5_endOfDigits ∈ th_tb := kw_689
theorem se_X5_endOfDigits : Cond.selects (yX5_endOfDigits).cls yX5_endOfDigits yX5_endOfDigits ∈ th_tb := kp_8
theorem mf_X5_valueFrom : th_MF yX5_valueFrom cX5_valueFrom 5 (some FieldType.int) 2 := ⟨kw_694, kw_6, by decide +kernel⟩
theorem im_X5_valueFrom : Cond.instanceMethod yX5_valueFrom ∈ th_tb := kw_693
theorem se_X5_valueFrom : Cond.selects (yX5_valueFrom).cls yX5_valueFrom yX5_valueFrom ∈ th_tb := kp_9
theorem mf_X5_wordFrom : th_MF yX5_wordFrom cX5_wordFrom 3 (some FieldType.int) 2 := ⟨kw_604, kw_6, by decide +kernel⟩
theorem im_X5_wordFrom : Cond.instanceMethod yX5_wordFrom ∈ th_tb := kw_603
theorem se_X5_wordFrom : Cond.selects (yX5_wordFrom).cls yX5_wordFrom yX5_wordFrom ∈ th_tb := kp_6
theorem mf_X5_is : th_MF yX5_is cX5_is 5 (some FieldType.boolean) 3 := ⟨kw_609, kw_6, by decide +kernel⟩
theorem im_X5_is : Cond.instanceMethod yX5_is ∈ th_tb := kw_608
theorem se_X5_is : Cond.selects (yX5_is).cls yX5_is yX5_is ∈ th_tb := kp_7
theorem mf_X5_fail : th_MF yX5_fail cX5_fail 1 (none) 0 := ⟨kw_703, kw_6, by decide +kernel⟩
theorem im_X5_fail : Cond.instanceMethod yX5_fail ∈ th_tb := kw_702
theorem se_X5_fail : Cond.selects (yX5_fail).cls yX5_fail yX5_fail ∈ th_tb := kp_11
theorem mf_X5_take : th_MF yX5_take cX5_take 2 (some FieldType.boolean) 1 := ⟨kw_720, kw_6, by decide +kernel⟩
theorem im_X5_take : Cond.instanceMethod yX5_take ∈ th_tb := kw_719
theorem se_X5_take : Cond.selects (yX5_take).cls yX5_take yX5_take ∈ th_tb := kp_13
theorem mf_X5_seenToken : th_MF yX5_seenToken cX5_seenToken 1 (some FieldType.int) 0 := ⟨kw_732, kw_6, by decide +kernel⟩
theorem im_X5_seenToken : Cond.instanceMethod yX5_seenToken ∈ th_tb := kw_731
theorem se_X5_seenToken : Cond.selects (yX5_seenToken).cls yX5_seenToken yX5_seenToken ∈ th_tb := kp_16
theorem mf_X5_takeNumber : th_MF yX5_takeNumber cX5_takeNumber 4 (some FieldType.int) 2 := ⟨kw_740, kw_6, by decide +kernel⟩
theorem im_X5_takeNumber : Cond.instanceMethod yX5_takeNumber ∈ th_tb := kw_739
theorem se_X5_takeNumber : Cond.selects (yX5_takeNumber).cls yX5_takeNumber yX5_takeNumber ∈ th_tb := kp_18
theorem mf_X5_readClause : th_MF yX5_readClause cX5_readClause 3 (none) 0 := ⟨kw_699, kw_6, by decide +kernel⟩
theorem im_X5_readClause : Cond.instanceMethod yX5_readClause ∈ th_tb := kw_698
theorem se_X5_readClause : Cond.selects (yX5_readClause).cls yX5_readClause yX5_readClause ∈ th_tb := kp_10
theorem mf_X5_readSums : th_MF yX5_readSums cX5_readSums 3 (none) 1 := ⟨kw_715, kw_6, by decide +kernel⟩
theorem im_X5_readSums : Cond.instanceMethod yX5_readSums ∈ th_tb := kw_714
theorem se_X5_readSums : Cond.selects (yX5_readSums).cls yX5_readSums yX5_readSums ∈ th_tb := kp_12
theorem mf_X5_readTest : th_MF yX5_readTest cX5_readTest 5 (none) 0 := ⟨kw_757, kw_6, by decide +kernel⟩
theorem im_X5_readTest : Cond.instanceMethod yX5_readTest ∈ th_tb := kw_756
theorem se_X5_readTest : Cond.selects (yX5_readTest).cls yX5_readTest yX5_readTest ∈ th_tb := kp_19
theorem mf_X5_readPlain : th_MF yX5_readPlain cX5_readPlain 3 (none) 0 := ⟨kw_761, kw_6, by decide +kernel⟩
theorem im_X5_readPlain : Cond.instanceMethod yX5_readPlain ∈ th_tb := kw_760
theorem se_X5_readPlain : Cond.selects (yX5_readPlain).cls yX5_readPlain yX5_readPlain ∈ th_tb := kp_20
theorem mf_X5_openBracket : th_MF yX5_openBracket cX5_openBracket 1 (some FieldType.boolean) 0 := ⟨kw_736, kw_6, by decide +kernel⟩
theorem im_X5_openBracket : Cond.instanceMethod yX5_openBracket ∈ th_tb := kw_735
theorem se_X5_openBracket : Cond.selects (yX5_openBracket).cls yX5_openBracket yX5_openBracket ∈ th_tb := kp_17
theorem mf_X5_readSum : th_MF yX5_readSum cX5_readSum 4 (none) 0 := ⟨kw_724, kw_6, by decide +kernel⟩
theorem im_X5_readSum : Cond.instanceMethod yX5_readSum ∈ th_tb := kw_723
theorem se_X5_readSum : Cond.selects (yX5_readSum).cls yX5_readSum yX5_readSum ∈ th_tb := kp_14
theorem mf_X5_codeOf : th_MF yX5_codeOf cX5_codeOf 1 (some FieldType.int) 1 := ⟨kw_753, kw_6, by decide +kernel⟩
theorem st_X5_codeOf : Cond.static yX5_codeOf ∈ th_tb := kw_752
theorem mf_X5_readPart : th_MF yX5_readPart cX5_readPart 4 (none) 0 := ⟨kw_728, kw_6, by decide +kernel⟩
theorem im_X5_readPart : Cond.instanceMethod yX5_readPart ∈ th_tb := kw_727
theorem se_X5_readPart : Cond.selects (yX5_readPart).cls yX5_readPart yX5_readPart ∈ th_tb := kp_15
theorem mf_X5_orderCode : th_MF yX5_orderCode cX5_orderCode 1 (some FieldType.int) 1 := ⟨kw_743, kw_6, by decide +kernel⟩
theorem st_X5_orderCode : Cond.static yX5_orderCode ∈ th_tb := kw_742
theorem mf_X5_lawCode : th_MF yX5_lawCode cX5_lawCode 1 (some FieldType.int) 1 := ⟨kw_746, kw_6, by decide +kernel⟩
theorem st_X5_lawCode : Cond.static yX5_lawCode ∈ th_tb := kw_745
theorem mf_X6_init : th_MF yX6_init cX6_init 1 (none) 0 := ⟨kw_228, kw_7, by decide +kernel⟩
theorem im_X6_init : Cond.instanceMethod yX6_init ∈ th_tb := kw_227
theorem mf_X6_setLawWords : th_MF yX6_setLawWords cX6_setLawWords 5 (none) 4 := ⟨kw_476, kw_7, by decide +kernel⟩
theorem im_X6_setLawWords : Cond.instanceMethod yX6_setLawWords ∈ th_tb := kw_474
theorem se_X6_setLawWords : Cond.selects (yX6_setLawWords).cls yX6_setLawWords yX6_setLawWords ∈ th_tb := kw_475
theorem mf_X6_setOrderWords : th_MF yX6_setOrderWords cX6_setOrderWords 3 (none) 1 := ⟨kw_796, kw_7, by decide +kernel⟩
theorem im_X6_setOrderWords : Cond.instanceMethod yX6_setOrderWords ∈ th_tb := kw_794
theorem se_X6_setOrderWords : Cond.selects (yX6_setOrderWords).cls yX6_setOrderWords yX6_setOrderWords ∈ th_tb := kw_795
theorem mf_X6_isSo : th_MF yX6_isSo cX6_isSo 5 (some FieldType.boolean) 2 := ⟨kw_488, kw_7, by decide +kernel⟩
theorem im_X6_isSo : Cond.instanceMethod yX6_isSo ∈ th_tb := kw_486
theorem se_X6_isSo : Cond.selects (yX6_isSo).cls yX6_isSo yX6_isSo ∈ th_tb := kw_487
theorem mf_X6_reckonSums : th_MF yX6_reckonSums cX6_reckonSums 6 (some FieldType.boolean) 2 := ⟨kw_500, kw_7, by decide +kernel⟩
theorem im_X6_reckonSums : Cond.instanceMethod yX6_reckonSums ∈ th_tb := kw_498
theorem se_X6_reckonSums : Cond.selects (yX6_reckonSums).cls yX6_reckonSums yX6_reckonSums ∈ th_tb := kw_499
theorem mf_X6_reckon : th_MF yX6_reckon cX6_reckon 13 (some FieldType.long) 3 := ⟨kw_493, kw_7, by decide +kernel⟩
theorem im_X6_reckon : Cond.instanceMethod yX6_reckon ∈ th_tb := kw_492
theorem se_X6_reckon : Cond.selects (yX6_reckon).cls yX6_reckon yX6_reckon ∈ th_tb := kp_2
theorem mf_X7_init : th_MF yX7_init cX7_init 1 (none) 0 := ⟨kw_288, kw_10, by decide +kernel⟩
theorem im_X7_init : Cond.instanceMethod yX7_init ∈ th_tb := kw_287
theorem mf_X7_prepare : th_MF yX7_prepare cX7_prepare 4 (none) 3 := ⟨kw_905, kw_10, by decide +kernel⟩
theorem im_X7_prepare : Cond.instanceMethod yX7_prepare ∈ th_tb := kw_903
theorem se_X7_prepare : Cond.selects (yX7_prepare).cls yX7_prepare yX7_prepare ∈ th_tb := kw_904
theorem mf_X7_heed : th_MF yX7_heed cX7_heed 4 (some FieldType.boolean) 1 := ⟨kw_1099, kw_10, by decide +kernel⟩
theorem im_X7_heed : Cond.instanceMethod yX7_heed ∈ th_tb := kw_1097
theorem se_X7_heed : Cond.selects (yX7_heed).cls yX7_heed yX7_heed ∈ th_tb := kw_1098
theorem mf_X7_number : th_MF yX7_number cX7_number 2 (some FieldType.int) 1 := ⟨kw_911, kw_10, by decide +kernel⟩
theorem im_X7_number : Cond.instanceMethod yX7_number ∈ th_tb := kw_909
theorem se_X7_number : Cond.selects (yX7_number).cls yX7_number yX7_number ∈ th_tb := kw_910
theorem mf_X7_leastCost : th_MF yX7_leastCost cX7_leastCost 1 (some FieldType.int) 0 := ⟨kw_1007, kw_10, by decide +kernel⟩
theorem im_X7_leastCost : Cond.instanceMethod yX7_leastCost ∈ th_tb := kw_1005
theorem se_X7_leastCost : Cond.selects (yX7_leastCost).cls yX7_leastCost yX7_leastCost ∈ th_tb := kw_1006
theorem mf_X7_rowLength : th_MF yX7_rowLength cX7_rowLength 1 (some FieldType.int) 0 := ⟨kw_990, kw_10, by decide +kernel⟩
theorem im_X7_rowLength : Cond.instanceMethod yX7_rowLength ∈ th_tb := kw_988
theorem se_X7_rowLength : Cond.selects (yX7_rowLength).cls yX7_rowLength yX7_rowLength ∈ th_tb := kw_989
theorem mf_X7_rowCarpet : th_MF yX7_rowCarpet cX7_rowCarpet 2 (some FieldType.int) 1 := ⟨kw_994, kw_10, by decide +kernel⟩
theorem im_X7_rowCarpet : Cond.instanceMethod yX7_rowCarpet ∈ th_tb := kw_992
theorem se_X7_rowCarpet : Cond.selects (yX7_rowCarpet).cls yX7_rowCarpet yX7_rowCarpet ∈ th_tb := kw_993
theorem mf_X7_fillsAlone : th_MF yX7_fillsAlone cX7_fillsAlone 3 (some FieldType.boolean) 1 := ⟨kw_1083, kw_10, by decide +kernel⟩
theorem im_X7_fillsAlone : Cond.instanceMethod yX7_fillsAlone ∈ th_tb := kw_1081
theorem se_X7_fillsAlone : Cond.selects (yX7_fillsAlone).cls yX7_fillsAlone yX7_fillsAlone ∈ th_tb := kw_1082
theorem mf_X7_bestLook : th_MF yX7_bestLook cX7_bestLook 3 (some FieldType.int) 0 := ⟨kw_1141, kw_10, by decide +kernel⟩
theorem im_X7_bestLook : Cond.instanceMethod yX7_bestLook ∈ th_tb := kw_1139
theorem se_X7_bestLook : Cond.selects (yX7_bestLook).cls yX7_bestLook yX7_bestLook ∈ th_tb := kw_1140
theorem mf_X7_mostAt : th_MF yX7_mostAt cX7_mostAt 4 (some FieldType.int) 1 := ⟨kw_1145, kw_10, by decide +kernel⟩
theorem im_X7_mostAt : Cond.instanceMethod yX7_mostAt ∈ th_tb := kw_1143
theorem se_X7_mostAt : Cond.selects (yX7_mostAt).cls yX7_mostAt yX7_mostAt ∈ th_tb := kw_1144
theorem mf_X7_begin : th_MF yX7_begin cX7_begin 3 (none) 2 := ⟨kw_915, kw_10, by decide +kernel⟩
theorem im_X7_begin : Cond.instanceMethod yX7_begin ∈ th_tb := kw_914
theorem se_X7_begin : Cond.selects (yX7_begin).cls yX7_begin yX7_begin ∈ th_tb := kp_26
theorem mf_X7_areaReady : th_MF yX7_areaReady cX7_areaReady 3 (some FieldType.int) 0 := ⟨kw_923, kw_10, by decide +kernel⟩
theorem im_X7_areaReady : Cond.instanceMethod yX7_areaReady ∈ th_tb := kw_922
theorem se_X7_areaReady : Cond.selects (yX7_areaReady).cls yX7_areaReady yX7_areaReady ∈ th_tb := kp_27
theorem mf_X7_solve : th_MF yX7_solve cX7_solve 11 (some FieldType.int) 4 := ⟨kw_928, kw_10, by decide +kernel⟩
theorem im_X7_solve : Cond.instanceMethod yX7_solve ∈ th_tb := kw_927
theorem se_X7_solve : Cond.selects (yX7_solve).cls yX7_solve yX7_solve ∈ th_tb := kp_28
theorem mf_X7_cheaper : th_MF yX7_cheaper cX7_cheaper 3 (some FieldType.int) 3 := ⟨kw_973, kw_10, by decide +kernel⟩
theorem st_X7_cheaper : Cond.static yX7_cheaper ∈ th_tb := kw_972
theorem mf_X7_isBare : th_MF yX7_isBare cX7_isBare 6 (some FieldType.boolean) 2 := ⟨kw_949, kw_10, by decide +kernel⟩
theorem im_X7_isBare : Cond.instanceMethod yX7_isBare ∈ th_tb := kw_948
theorem se_X7_isBare : Cond.selects (yX7_isBare).cls yX7_isBare yX7_isBare ∈ th_tb := kp_31
theorem mf_X7_firstBare : th_MF yX7_firstBare cX7_firstBare 5 (some FieldType.int) 2 := ⟨kw_945, kw_10, by decide +kernel⟩
theorem im_X7_firstBare : Cond.instanceMethod yX7_firstBare ∈ th_tb := kw_944
theorem se_X7_firstBare : Cond.selects (yX7_firstBare).cls yX7_firstBare yX7_firstBare ∈ th_tb := kp_30
theorem mf_X7_fits : th_MF yX7_fits cX7_fits 10 (some FieldType.boolean) 3 := ⟨kw_954, kw_10, by decide +kernel⟩
theorem im_X7_fits : Cond.instanceMethod yX7_fits ∈ th_tb := kw_953
theorem se_X7_fits : Cond.selects (yX7_fits).cls yX7_fits yX7_fits ∈ th_tb := kp_32
theorem mf_X7_agreesWithSeen : th_MF yX7_agreesWithSeen cX7_agreesWithSeen 7 (some FieldType.boolean) 3 := ⟨kw_958, kw_10, by decide +kernel⟩
theorem im_X7_agreesWithSeen : Cond.instanceMethod yX7_agreesWithSeen ∈ th_tb := kw_957
theorem se_X7_agreesWithSeen : Cond.selects (yX7_agreesWithSeen).cls yX7_agreesWithSeen yX7_agreesWithSeen ∈ th_tb := kp_33
theorem mf_X7_priceAt : th_MF yX7_priceAt cX7_priceAt 6 (some FieldType.int) 2 := ⟨kw_962, kw_10, by decide +kernel⟩
theorem im_X7_priceAt : Cond.instanceMethod yX7_priceAt ∈ th_tb := kw_961
theorem se_X7_priceAt : Cond.selects (yX7_priceAt).cls yX7_priceAt yX7_priceAt ∈ th_tb := kp_34
theorem mf_X7_keyWith : th_MF yX7_keyWith cX7_keyWith 10 (some FieldType.long) 3 := ⟨kw_968, kw_10, by decide +kernel⟩
theorem im_X7_keyWith : Cond.instanceMethod yX7_keyWith ∈ th_tb := kw_967
theorem se_X7_keyWith : Cond.selects (yX7_keyWith).cls yX7_keyWith yX7_keyWith ∈ th_tb := kp_35
theorem mf_X7_tallyFills : th_MF yX7_tallyFills cX7_tallyFills 3 (none) 0 := ⟨kw_1108, kw_10, by decide +kernel⟩
theorem im_X7_tallyFills : Cond.instanceMethod yX7_tallyFills ∈ th_tb := kw_1106
theorem se_X7_tallyFills : Cond.selects (yX7_tallyFills).cls yX7_tallyFills yX7_tallyFills ∈ th_tb := kw_1107
theorem mf_X7_tallyKey : th_MF yX7_tallyKey cX7_tallyKey 7 (none) 2 := ⟨kw_1137, kw_10, by decide +kernel⟩
theorem im_X7_tallyKey : Cond.instanceMethod yX7_tallyKey ∈ th_tb := kw_1136
theorem se_X7_tallyKey : Cond.selects (yX7_tallyKey).cls yX7_tallyKey yX7_tallyKey ∈ th_tb := kp_42
theorem mf_X7_tallyRow : th_MF yX7_tallyRow cX7_tallyRow 10 (some FieldType.int) 4 := ⟨kw_1113, kw_10, by decide +kernel⟩
theorem im_X7_tallyRow : Cond.instanceMethod yX7_tallyRow ∈ th_tb := kw_1112
theorem se_X7_tallyRow : Cond.selects (yX7_tallyRow).cls yX7_tallyRow yX7_tallyRow ∈ th_tb := kp_40
theorem mf_X7_addToTally : th_MF yX7_addToTally cX7_addToTally 7 (none) 3 := ⟨kw_1117, kw_10, by decide +kernel⟩
theorem im_X7_addToTally : Cond.instanceMethod yX7_addToTally ∈ th_tb := kw_1116
theorem se_X7_addToTally : Cond.selects (yX7_addToTally).cls yX7_addToTally yX7_addToTally ∈ th_tb := kp_41
theorem mf_X8_init : th_MF yX8_init cX8_init 2 (none) 0 := ⟨kw_34, kw_2, by decide +kernel⟩
theorem im_X8_init : Cond.instanceMethod yX8_init ∈ th_tb := kw_33
theorem mf_X8_lawOf : th_MF yX8_lawOf cX8_lawOf 2 (some (FieldType.object "CarpetHalls$Text")) 1 := ⟨kw_468, kw_2, by decide +kernel⟩
theorem im_X8_lawOf : Cond.instanceMethod yX8_lawOf ∈ th_tb := kw_466
theorem se_X8_lawOf : Cond.selects (yX8_lawOf).cls yX8_lawOf yX8_lawOf ∈ th_tb := kw_467
theorem mf_X8_forcedLaw : th_MF yX8_forcedLaw cX8_forcedLaw 1 (some (FieldType.object "CarpetHalls$Text")) 0 := ⟨kw_464, kw_2, by decide +kernel⟩
theorem im_X8_forcedLaw : Cond.instanceMethod yX8_forcedLaw ∈ th_tb := kw_462
theorem se_X8_forcedLaw : Cond.selects (yX8_forcedLaw).cls yX8_forcedLaw yX8_forcedLaw ∈ th_tb := kw_463
theorem mf_X8_copyFrom : th_MF yX8_copyFrom cX8_copyFrom 3 (none) 1 := ⟨kw_1196, kw_2, by decide +kernel⟩
theorem im_X8_copyFrom : Cond.instanceMethod yX8_copyFrom ∈ th_tb := kw_1194
theorem se_X8_copyFrom : Cond.selects (yX8_copyFrom).cls yX8_copyFrom yX8_copyFrom ∈ th_tb := kw_1195
theorem mf_X9_init : th_MF yX9_init cX9_init 1 (none) 0 := ⟨kw_174, kw_5, by decide +kernel⟩
theorem im_X9_init : Cond.instanceMethod yX9_init ∈ th_tb := kw_173
theorem mf_X9_addFour : th_MF yX9_addFour cX9_addFour 3 (none) 1 := ⟨kw_565, kw_5, by decide +kernel⟩
theorem im_X9_addFour : Cond.instanceMethod yX9_addFour ∈ th_tb := kw_563
theorem se_X9_addFour : Cond.selects (yX9_addFour).cls yX9_addFour yX9_addFour ∈ th_tb := kw_564
theorem mf_X10_init : th_MF yX10_init cX10_init 1 (none) 0 := ⟨kw_110, kw_4, by decide +kernel⟩
theorem im_X10_init : Cond.instanceMethod yX10_init ∈ th_tb := kw_109
theorem mf_X10_clear : th_MF yX10_clear cX10_clear 1 (none) 0 := ⟨kw_589, kw_4, by decide +kernel⟩
theorem im_X10_clear : Cond.instanceMethod yX10_clear ∈ th_tb := kw_587
theorem se_X10_clear : Cond.selects (yX10_clear).cls yX10_clear yX10_clear ∈ th_tb := kw_588
theorem mf_X10_copyFrom : th_MF yX10_copyFrom cX10_copyFrom 2 (none) 1 := ⟨kw_1201, kw_4, by decide +kernel⟩
theorem im_X10_copyFrom : Cond.instanceMethod yX10_copyFrom ∈ th_tb := kw_1199
theorem se_X10_copyFrom : Cond.selects (yX10_copyFrom).cls yX10_copyFrom yX10_copyFrom ∈ th_tb := kw_1200
theorem mf_X10_add : th_MF yX10_add cX10_add 2 (none) 1 := ⟨kw_750, kw_4, by decide +kernel⟩
theorem im_X10_add : Cond.instanceMethod yX10_add ∈ th_tb := kw_748
theorem se_X10_add : Cond.selects (yX10_add).cls yX10_add yX10_add ∈ th_tb := kw_749
theorem mf_X10_addJump : th_MF yX10_addJump cX10_addJump 2 (some FieldType.int) 1 := ⟨kw_769, kw_4, by decide +kernel⟩
theorem im_X10_addJump : Cond.instanceMethod yX10_addJump ∈ th_tb := kw_767
theorem se_X10_addJump : Cond.selects (yX10_addJump).cls yX10_addJump yX10_addJump ∈ th_tb := kw_768
theorem mf_X10_setCode : th_MF yX10_setCode cX10_setCode 3 (none) 2 := ⟨kw_765, kw_4, by decide +kernel⟩
theorem im_X10_setCode : Cond.instanceMethod yX10_setCode ∈ th_tb := kw_763
theorem se_X10_setCode : Cond.selects (yX10_setCode).cls yX10_setCode yX10_setCode ∈ th_tb := kw_764
theorem mf_X10_openClause : th_MF yX10_openClause cX10_openClause 2 (none) 1 := ⟨kw_707, kw_4, by decide +kernel⟩
theorem im_X10_openClause : Cond.instanceMethod yX10_openClause ∈ th_tb := kw_705
theorem se_X10_openClause : Cond.selects (yX10_openClause).cls yX10_openClause yX10_openClause ∈ th_tb := kw_706
theorem mf_X10_setMark : th_MF yX10_setMark cX10_setMark 4 (none) 2 := ⟨kw_711, kw_4, by decide +kernel⟩
theorem im_X10_setMark : Cond.instanceMethod yX10_setMark ∈ th_tb := kw_709
theorem se_X10_setMark : Cond.selects (yX10_setMark).cls yX10_setMark yX10_setMark ∈ th_tb := kw_710
theorem mf_X10_mark : th_MF yX10_mark cX10_mark 4 (some FieldType.int) 2 := ⟨kw_484, kw_4, by decide +kernel⟩
theorem im_X10_mark : Cond.instanceMethod yX10_mark ∈ th_tb := kw_482
theorem se_X10_mark : Cond.selects (yX10_mark).cls yX10_mark yX10_mark ∈ th_tb := kw_483
theorem mf_J6_bitCount_0f7a4 : th_MF yJ6_bitCount_0f7a4 cJ6_bitCount_0f7a4 1 (some FieldType.int) 1 := ⟨kw_1031, kw_21, by decide +kernel⟩
theorem st_J6_bitCount_0f7a4 : Cond.static yJ6_bitCount_0f7a4 ∈ th_tb := kw_1030
theorem mf_J9_max_7cf53 : th_MF yJ9_max_7cf53 cJ9_max_7cf53 2 (some FieldType.int) 2 := ⟨kw_506, kw_15, by decide +kernel⟩
theorem st_J9_max_7cf53 : Cond.static yJ9_max_7cf53 ∈ th_tb := kw_505
theorem mf_J9_min_7cf53 : th_MF yJ9_min_7cf53 cJ9_min_7cf53 2 (some FieldType.int) 2 := ⟨kw_503, kw_15, by decide +kernel⟩
theorem st_J9_min_7cf53 : Cond.static yJ9_min_7cf53 ∈ th_tb := kw_502
theorem mf_J0_charAt_5068e : th_MF yJ0_charAt_5068e cJ0_charAt_5068e 2 (some FieldType.char) 1 := ⟨kw_623, kw_16, by decide +kernel⟩
theorem im_J0_charAt_5068e : Cond.instanceMethod yJ0_charAt_5068e ∈ th_tb := kw_621
theorem se_J0_charAt_5068e : Cond.selects (yJ0_charAt_5068e).cls yJ0_charAt_5068e yJ0_charAt_5068e ∈ th_tb := kw_622
theorem mf_J0_checkIndex_df160 : th_MF yJ0_checkIndex_df160 cJ0_checkIndex_df160 2 (none) 2 := ⟨kw_633, kw_16, by decide +kernel⟩
theorem st_J0_checkIndex_df160 : Cond.static yJ0_checkIndex_df160 ∈ th_tb := kw_632
theorem mf_J0_coder_7d493 : th_MF yJ0_coder_7d493 cJ0_coder_7d493 1 (some FieldType.byte) 0 := ⟨kw_617, kw_16, by decide +kernel⟩
theorem im_J0_coder_7d493 : Cond.instanceMethod yJ0_coder_7d493 ∈ th_tb := kw_615
theorem se_J0_coder_7d493 : Cond.selects (yJ0_coder_7d493).cls yJ0_coder_7d493 yJ0_coder_7d493 ∈ th_tb := kw_616
theorem mf_J0_isLatin1_aae02 : th_MF yJ0_isLatin1_aae02 cJ0_isLatin1_aae02 1 (some FieldType.boolean) 0 := ⟨kw_627, kw_16, by decide +kernel⟩
theorem im_J0_isLatin1_aae02 : Cond.instanceMethod yJ0_isLatin1_aae02 ∈ th_tb := kw_625
theorem se_J0_isLatin1_aae02 : Cond.selects (yJ0_isLatin1_aae02).cls yJ0_isLatin1_aae02 yJ0_isLatin1_aae02 ∈ th_tb := kw_626
theorem mf_J0_length_8abf5 : th_MF yJ0_length_8abf5 cJ0_length_8abf5 1 (some FieldType.int) 0 := ⟨kw_613, kw_16, by decide +kernel⟩
theorem im_J0_length_8abf5 : Cond.instanceMethod yJ0_length_8abf5 ∈ th_tb := kw_611
theorem se_J0_length_8abf5 : Cond.selects (yJ0_length_8abf5).cls yJ0_length_8abf5 yJ0_length_8abf5 ∈ th_tb := kw_612
theorem mf_J1_charAt_3b067 : th_MF yJ1_charAt_3b067 cJ1_charAt_3b067 2 (some FieldType.char) 2 := ⟨kw_630, kw_17, by decide +kernel⟩
theorem st_J1_charAt_3b067 : Cond.static yJ1_charAt_3b067 ∈ th_tb := kw_629
theorem mf_J2_charAt_3b067 : th_MF yJ2_charAt_3b067 cJ2_charAt_3b067 2 (some FieldType.char) 2 := ⟨kw_641, kw_19, by decide +kernel⟩
theorem st_J2_charAt_3b067 : Cond.static yJ2_charAt_3b067 ∈ th_tb := kw_640
theorem mf_J2_checkIndex_2214a : th_MF yJ2_checkIndex_2214a cJ2_checkIndex_2214a 2 (none) 2 := ⟨kw_644, kw_19, by decide +kernel⟩
theorem st_J2_checkIndex_2214a : Cond.static yJ2_checkIndex_2214a ∈ th_tb := kw_643
theorem mf_J2_getChar_3b067 : th_MF yJ2_getChar_3b067 cJ2_getChar_3b067 2 (some FieldType.char) 2 := ⟨kw_651, kw_19, by decide +kernel⟩
theorem st_J2_getChar_3b067 : Cond.static yJ2_getChar_3b067 ∈ th_tb := kw_650
theorem mf_J2_length_9d52b : th_MF yJ2_length_9d52b cJ2_length_9d52b 1 (some FieldType.int) 1 := ⟨kw_647, kw_19, by decide +kernel⟩
theorem st_J2_length_9d52b : Cond.static yJ2_length_9d52b ∈ th_tb := kw_646
theorem mf_J7_fill_53178 : th_MF yJ7_fill_53178 cJ7_fill_53178 4 (none) 2 := ⟨kw_897, kw_12, by decide +kernel⟩
theorem st_J7_fill_53178 : Cond.static yJ7_fill_53178 ∈ th_tb := kw_896
theorem mf_J7_fill_d0a16 : th_MF yJ7_fill_d0a16 cJ7_fill_d0a16 5 (none) 2 := ⟨kw_299, kw_12, by decide +kernel⟩
theorem st_J7_fill_d0a16 : Cond.static yJ7_fill_d0a16 ∈ th_tb := kw_298
theorem km_X11_11 : Cond.methodLink RX11 11 yX8_init ∈ th_tb := kw_32
theorem km_X11_26 : Cond.methodLink RX11 26 yX1_init ∈ th_tb := kw_169
theorem km_X11_36 : Cond.methodLink RX11 36 yX9_init ∈ th_tb := kw_172
theorem km_X11_43 : Cond.methodLink RX11 43 yX5_init ∈ th_tb := kw_190
theorem km_X11_50 : Cond.methodLink RX11 50 yX10_init ∈ th_tb := kw_223
theorem km_X11_57 : Cond.methodLink RX11 57 yX6_init ∈ th_tb := kw_226
theorem km_X11_64 : Cond.methodLink RX11 64 yX2_init ∈ th_tb := kw_249
theorem km_X11_71 : Cond.methodLink RX11 71 yX4_init ∈ th_tb := kw_261
theorem km_X11_78 : Cond.methodLink RX11 78 yX7_init ∈ th_tb := kw_286
theorem km_X11_85 : Cond.methodLink RX11 85 yX0_init ∈ th_tb := kw_369
theorem km_X11_110 : Cond.methodLink RX11 110 yX1_add ∈ th_tb := kw_436
theorem km_X11_114 : Cond.methodLink RX11 114 yX4_clear ∈ th_tb := kw_440
theorem km_X11_117 : Cond.methodLink RX11 117 yX11_answer ∈ th_tb := kw_444
theorem km_X11_121 : Cond.methodLink RX11 121 yX1_has ∈ th_tb := kw_452
theorem km_X11_140 : Cond.methodLink RX11 140 yX1_isLaid ∈ th_tb := kw_456
theorem km_X11_143 : Cond.methodLink RX11 143 yX8_forcedLaw ∈ th_tb := kw_461
theorem km_X11_147 : Cond.methodLink RX11 147 yX2_wearOf ∈ th_tb := kw_469
theorem km_X11_151 : Cond.methodLink RX11 151 yX1_laidCarpets ∈ th_tb := kw_511
theorem km_X11_161 : Cond.methodLink RX11 161 yX1_carpetOn ∈ th_tb := kw_520
theorem km_X11_165 : Cond.methodLink RX11 165 yX11_onGrid ∈ th_tb := kw_528
theorem km_X11_168 : Cond.methodLink RX11 168 yX2_costOf ∈ th_tb := kw_531
theorem km_X11_172 : Cond.methodLink RX11 172 yX2_isBarred ∈ th_tb := kw_535
theorem km_X11_176 : Cond.methodLink RX11 176 yX11_canLie ∈ th_tb := kw_539
theorem km_X11_180 : Cond.methodLink RX11 180 yX11_mostOfTerm ∈ th_tb := kw_555
theorem km_X11_189 : Cond.methodLink RX11 189 yX9_addFour ∈ th_tb := kw_562
theorem km_X11_203 : Cond.methodLink RX11 203 yX5_read ∈ th_tb := kw_582
theorem km_X11_207 : Cond.methodLink RX11 207 yX4_save ∈ th_tb := kw_776
theorem km_X11_217 : Cond.methodLink RX11 217 yX10_mark ∈ th_tb := kw_788
theorem km_X11_220 : Cond.methodLink RX11 220 yX11_runOnce ∈ th_tb := kw_789
theorem km_X11_223 : Cond.methodLink RX11 223 yX4_restore ∈ th_tb := kw_842
theorem km_X11_226 : Cond.methodLink RX11 226 yX8_lawOf ∈ th_tb := kw_858
theorem km_X11_233 : Cond.methodLink RX11 233 yX11_doLay ∈ th_tb := kw_805
theorem km_X11_236 : Cond.methodLink RX11 236 yX11_doRoll ∈ th_tb := kw_814
theorem km_X11_239 : Cond.methodLink RX11 239 yX11_doMirror ∈ th_tb := kw_823
theorem km_X11_242 : Cond.methodLink RX11 242 yX11_doPass ∈ th_tb := kw_831
theorem km_X11_245 : Cond.methodLink RX11 245 yX4_takeBack ∈ th_tb := kw_879
theorem km_X11_249 : Cond.methodLink RX11 249 yX1_bareCells ∈ th_tb := kw_822
theorem km_X11_252 : Cond.methodLink RX11 252 yX1_firstBareCell ∈ th_tb := kw_887
theorem km_X11_255 : Cond.methodLink RX11 255 yX7_prepare ∈ th_tb := kw_902
theorem km_X11_259 : Cond.methodLink RX11 259 yX7_number ∈ th_tb := kw_908
theorem km_X11_262 : Cond.methodLink RX11 262 yX7_rowLength ∈ th_tb := kw_987
theorem km_X11_265 : Cond.methodLink RX11 265 yX7_rowCarpet ∈ th_tb := kw_991
theorem km_X11_269 : Cond.methodLink RX11 269 yX7_leastCost ∈ th_tb := kw_1004
theorem km_X11_272 : Cond.methodLink RX11 272 yX1_areaWithoutRags ∈ th_tb := kw_1012
theorem km_X11_275 : Cond.methodLink RX11 275 yX1_copyFrom ∈ th_tb := kw_1016
theorem km_X11_278 : Cond.methodLink RX11 278 yX1_emptyInto ∈ th_tb := kw_1017
theorem km_X11_282 : Cond.methodLink RX11 282 yX1_innerHalls ∈ th_tb := kw_1025
theorem km_X11_285 : Cond.methodLink RX11 285 yX1_crossPoints ∈ th_tb := kw_1044
theorem km_X11_288 : Cond.methodLink RX11 288 yX1_sidesAtLine ∈ th_tb := kw_1056
theorem km_X11_292 : Cond.methodLink RX11 292 yX1_placesFor ∈ th_tb := kw_1064
theorem km_X11_295 : Cond.methodLink RX11 295 yX1_twosOfOneSide ∈ th_tb := kw_1072
theorem km_X11_301 : Cond.methodLink RX11 301 yX1_rollUp ∈ th_tb := kw_818
theorem km_X11_304 : Cond.methodLink RX11 304 yX7_fillsAlone ∈ th_tb := kw_1080
theorem km_X11_319 : Cond.methodLink RX11 319 yX7_heed ∈ th_tb := kw_1096
theorem km_X11_323 : Cond.methodLink RX11 323 yX7_tallyFills ∈ th_tb := kw_1105
theorem km_X11_326 : Cond.methodLink RX11 326 yX7_bestLook ∈ th_tb := kw_1138
theorem km_X11_329 : Cond.methodLink RX11 329 yX7_mostAt ∈ th_tb := kw_1147
theorem km_X11_334 : Cond.methodLink RX11 334 yX0_fewer ∈ th_tb := kw_1153
theorem km_X11_339 : Cond.methodLink RX11 339 yX11_drawYear ∈ th_tb := kw_1177
theorem km_X11_342 : Cond.methodLink RX11 342 yX8_copyFrom ∈ th_tb := kw_1193
theorem km_X11_345 : Cond.methodLink RX11 345 yX1_rags ∈ th_tb := kw_1212
theorem km_X11_354 : Cond.methodLink RX11 354 yX1_hasPlaceFor ∈ th_tb := kw_543
theorem km_X11_358 : Cond.methodLink RX11 358 yX4_note ∈ th_tb := kw_809
theorem km_X11_362 : Cond.methodLink RX11 362 yJ9_min_7cf53 ∈ th_tb := kw_813
theorem km_X11_367 : Cond.methodLink RX11 367 yX1_turnOver ∈ th_tb := kw_827
theorem km_X11_370 : Cond.methodLink RX11 370 yX1_wearAYear ∈ th_tb := kw_835
theorem km_X11_374 : Cond.methodLink RX11 374 yX6_setOrderWords ∈ th_tb := kw_793
theorem km_X11_377 : Cond.methodLink RX11 377 yX6_isSo ∈ th_tb := kw_803
theorem km_X11_381 : Cond.methodLink RX11 381 yX6_reckonSums ∈ th_tb := kw_804
theorem km_X11_388 : Cond.methodLink RX11 388 yX11_nextDraw ∈ th_tb := kw_1181
theorem km_X0_13 : Cond.methodLink RX0 13 yX0_setStart ∈ th_tb := kw_1157
theorem km_X0_17 : Cond.methodLink RX0 17 yX0_addOneMore ∈ th_tb := kw_1163
theorem km_X0_23 : Cond.methodLink RX0 23 yJ7_fill_d0a16 ∈ th_tb := kw_1161
theorem km_X1_52 : Cond.methodLink RX1 52 yX1_has ∈ th_tb := kw_460
theorem km_X1_56 : Cond.methodLink RX1 56 yX1_isLaid ∈ th_tb := kw_515
theorem km_X1_59 : Cond.methodLink RX1 59 yX1_isReady ∈ th_tb := kw_547
theorem km_X1_62 : Cond.methodLink RX1 62 yX1_rollUp ∈ th_tb := kw_841
theorem km_X1_66 : Cond.methodLink RX1 66 yX2_wearOf ∈ th_tb := kw_839
theorem km_X1_72 : Cond.methodLink RX1 72 yJ9_max_7cf53 ∈ th_tb := kw_840
theorem km_X1_78 : Cond.methodLink RX1 78 yJ7_fill_53178 ∈ th_tb := kw_895
theorem km_X1_84 : Cond.methodLink RX1 84 yX1_drawRows ∈ th_tb := kw_891
theorem km_X1_87 : Cond.methodLink RX1 87 yJ6_bitCount_0f7a4 ∈ th_tb := kw_1029
theorem km_X1_93 : Cond.methodLink RX1 93 yX1_isInnerHall ∈ th_tb := kw_1035
theorem km_X1_96 : Cond.methodLink RX1 96 yJ9_min_7cf53 ∈ th_tb := kw_1039
theorem km_X1_99 : Cond.methodLink RX1 99 yX1_threeMoreMeetAt ∈ th_tb := kw_1048
theorem km_X2_11 : Cond.methodLink RX2 11 yX6_init ∈ th_tb := kw_254
theorem km_X2_18 : Cond.methodLink RX2 18 yX6_setLawWords ∈ th_tb := kw_473
theorem km_X2_24 : Cond.methodLink RX2 24 yX2_holds ∈ th_tb := kw_477
theorem km_X2_32 : Cond.methodLink RX2 32 yJ9_min_7cf53 ∈ th_tb := kw_501
theorem km_X2_38 : Cond.methodLink RX2 38 yJ9_max_7cf53 ∈ th_tb := kw_504
theorem km_X2_58 : Cond.methodLink RX2 58 yX10_mark ∈ th_tb := kw_481
theorem km_X2_61 : Cond.methodLink RX2 61 yX6_isSo ∈ th_tb := kw_485
theorem km_X2_64 : Cond.methodLink RX2 64 yX6_reckonSums ∈ th_tb := kw_497
theorem km_X3_38 : Cond.methodLink RX3 38 yJ7_fill_d0a16 ∈ th_tb := kw_297
theorem km_X3_46 : Cond.methodLink RX3 46 yX3_slotFor ∈ th_tb := kw_933
theorem km_X3_50 : Cond.methodLink RX3 50 yX3_grow ∈ th_tb := kw_979
theorem km_X3_53 : Cond.methodLink RX3 53 yX3_put ∈ th_tb := kw_983
theorem km_X4_20 : Cond.methodLink RX4 20 yX1_init ∈ th_tb := kw_266
theorem km_X4_53 : Cond.methodLink RX4 53 yX1_copyFrom ∈ th_tb := kw_780
theorem km_X5_43 : Cond.methodLink RX5 43 yX10_clear ∈ th_tb := kw_586
theorem km_X5_48 : Cond.methodLink RX5 48 yX5_scan ∈ th_tb := kw_590
theorem km_X5_51 : Cond.methodLink RX5 51 yX5_readClause ∈ th_tb := kw_696
theorem km_X5_54 : Cond.methodLink RX5 54 yX5_take ∈ th_tb := kw_717
theorem km_X5_58 : Cond.methodLink RX5 58 yX5_fail ∈ th_tb := kw_700
theorem km_X5_69 : Cond.methodLink RX5 69 yX5_isLetter ∈ th_tb := kw_594
theorem km_X5_72 : Cond.methodLink RX5 72 yX5_endOfLetters ∈ th_tb := kw_597
theorem km_X5_76 : Cond.methodLink RX5 76 yX5_wordFrom ∈ th_tb := kw_601
theorem km_X5_80 : Cond.methodLink RX5 80 yX5_isDigit ∈ th_tb := kw_684
theorem km_X5_83 : Cond.methodLink RX5 83 yX5_endOfDigits ∈ th_tb := kw_687
theorem km_X5_86 : Cond.methodLink RX5 86 yX5_valueFrom ∈ th_tb := kw_691
theorem km_X5_89 : Cond.methodLink RX5 89 yJ9_min_7cf53 ∈ th_tb := kw_695
theorem km_X5_96 : Cond.methodLink RX5 96 yX5_is ∈ th_tb := kw_606
theorem km_X5_151 : Cond.methodLink RX5 151 yJ0_length_8abf5 ∈ th_tb := kw_610
theorem km_X5_156 : Cond.methodLink RX5 156 yJ0_charAt_5068e ∈ th_tb := kw_620
theorem km_X5_160 : Cond.methodLink RX5 160 yX10_openClause ∈ th_tb := kw_704
theorem km_X5_164 : Cond.methodLink RX5 164 yX5_readSums ∈ th_tb := kw_712
theorem km_X5_167 : Cond.methodLink RX5 167 yX5_takeNumber ∈ th_tb := kw_737
theorem km_X5_170 : Cond.methodLink RX5 170 yX10_setMark ∈ th_tb := kw_716
theorem km_X5_177 : Cond.methodLink RX5 177 yX5_readTest ∈ th_tb := kw_754
theorem km_X5_180 : Cond.methodLink RX5 180 yX5_readSum ∈ th_tb := kw_721
theorem km_X5_183 : Cond.methodLink RX5 183 yX5_readPlain ∈ th_tb := kw_758
theorem km_X5_186 : Cond.methodLink RX5 186 yX5_seenToken ∈ th_tb := kw_729
theorem km_X5_189 : Cond.methodLink RX5 189 yX10_setCode ∈ th_tb := kw_762
theorem km_X5_192 : Cond.methodLink RX5 192 yX10_addJump ∈ th_tb := kw_766
theorem km_X5_195 : Cond.methodLink RX5 195 yX5_openBracket ∈ th_tb := kw_733
theorem km_X5_199 : Cond.methodLink RX5 199 yX10_add ∈ th_tb := kw_747
theorem km_X5_202 : Cond.methodLink RX5 202 yX5_readPart ∈ th_tb := kw_725
theorem km_X5_205 : Cond.methodLink RX5 205 yX5_codeOf ∈ th_tb := kw_751
theorem km_X5_208 : Cond.methodLink RX5 208 yX5_orderCode ∈ th_tb := kw_741
theorem km_X5_211 : Cond.methodLink RX5 211 yX5_lawCode ∈ th_tb := kw_744
theorem km_X6_44 : Cond.methodLink RX6 44 yX1_bareCells ∈ th_tb := kw_797
theorem km_X6_52 : Cond.methodLink RX6 52 yX1_has ∈ th_tb := kw_801
theorem km_X6_56 : Cond.methodLink RX6 56 yX1_isLaid ∈ th_tb := kw_802
theorem km_X6_59 : Cond.methodLink RX6 59 yX10_mark ∈ th_tb := kw_489
theorem km_X6_63 : Cond.methodLink RX6 63 yX6_reckon ∈ th_tb := kw_490
theorem km_X7_11 : Cond.methodLink RX7 11 yX3_init ∈ th_tb := kw_292
theorem km_X7_54 : Cond.methodLink RX7 54 yX1_drawRows ∈ th_tb := kw_906
theorem km_X7_59 : Cond.methodLink RX7 59 yX1_bareCells ∈ th_tb := kw_907
theorem km_X7_83 : Cond.methodLink RX7 83 yX1_carpetOn ∈ th_tb := kw_1100
theorem km_X7_93 : Cond.methodLink RX7 93 yX7_begin ∈ th_tb := kw_912
theorem km_X7_97 : Cond.methodLink RX7 97 yX7_areaReady ∈ th_tb := kw_920
theorem km_X7_100 : Cond.methodLink RX7 100 yX7_solve ∈ th_tb := kw_925
theorem km_X7_104 : Cond.methodLink RX7 104 yX7_firstBare ∈ th_tb := kw_942
theorem km_X7_108 : Cond.methodLink RX7 108 yX7_fits ∈ th_tb := kw_951
theorem km_X7_112 : Cond.methodLink RX7 112 yX7_priceAt ∈ th_tb := kw_959
theorem km_X7_115 : Cond.methodLink RX7 115 yX7_isBare ∈ th_tb := kw_946
theorem km_X7_119 : Cond.methodLink RX7 119 yX7_mostAt ∈ th_tb := kw_1142
theorem km_X7_126 : Cond.methodLink RX7 126 yJ9_max_7cf53 ∈ th_tb := kw_1146
theorem km_X7_138 : Cond.methodLink RX7 138 yX3_clear ∈ th_tb := kw_916
theorem km_X7_141 : Cond.methodLink RX7 141 yX1_isReady ∈ th_tb := kw_924
theorem km_X7_145 : Cond.methodLink RX7 145 yX3_find ∈ th_tb := kw_929
theorem km_X7_149 : Cond.methodLink RX7 149 yX3_valueIn ∈ th_tb := kw_938
theorem km_X7_152 : Cond.methodLink RX7 152 yX7_keyWith ∈ th_tb := kw_965
theorem km_X7_156 : Cond.methodLink RX7 156 yX7_cheaper ∈ th_tb := kw_971
theorem km_X7_160 : Cond.methodLink RX7 160 yX3_keep ∈ th_tb := kw_975
theorem km_X7_164 : Cond.methodLink RX7 164 yJ9_min_7cf53 ∈ th_tb := kw_974
theorem km_X7_172 : Cond.methodLink RX7 172 yX7_agreesWithSeen ∈ th_tb := kw_955
theorem km_X7_176 : Cond.methodLink RX7 176 yX2_isBarred ∈ th_tb := kw_963
theorem km_X7_182 : Cond.methodLink RX7 182 yX2_costOf ∈ th_tb := kw_964
theorem km_X7_190 : Cond.methodLink RX7 190 yJ7_fill_53178 ∈ th_tb := kw_1109
theorem km_X7_199 : Cond.methodLink RX7 199 yX7_tallyRow ∈ th_tb := kw_1110
theorem km_X7_202 : Cond.methodLink RX7 202 yX3_addFlow ∈ th_tb := kw_1118
theorem km_X7_209 : Cond.methodLink RX7 209 yX3_slotOfNth ∈ th_tb := kw_1122
theorem km_X7_212 : Cond.methodLink RX7 212 yX3_flowIn ∈ th_tb := kw_1126
theorem km_X7_215 : Cond.methodLink RX7 215 yX3_keyIn ∈ th_tb := kw_1130
theorem km_X7_219 : Cond.methodLink RX7 219 yX7_tallyKey ∈ th_tb := kw_1134
theorem km_X7_222 : Cond.methodLink RX7 222 yX7_addToTally ∈ th_tb := kw_1114
theorem km_X8_11 : Cond.methodLink RX8 11 yX1_init ∈ th_tb := kw_38
theorem km_X8_44 : Cond.methodLink RX8 44 yX10_init ∈ th_tb := kw_108
theorem km_X8_45 : Cond.methodLink RX8 45 yX8_lawOf ∈ th_tb := kw_465
theorem km_X8_49 : Cond.methodLink RX8 49 yX1_copyFrom ∈ th_tb := kw_1197
theorem km_X8_53 : Cond.methodLink RX8 53 yX10_copyFrom ∈ th_tb := kw_1198
theorem km_X10_31 : Cond.methodLink RX10 31 yX10_add ∈ th_tb := kw_770
theorem km_X10_35 : Cond.methodLink RX10 35 yX10_setMark ∈ th_tb := kw_708
theorem km_X12_14 : Cond.methodLink RX12 14 yX12_good ∈ th_tb := kw_1409
theorem km_X12_18 : Cond.methodLink RX12 18 yX12_lies ∈ th_tb := kw_1402
theorem km_X12_109 : Cond.methodLink RX12 109 yX12_refuses ∈ th_tb := kw_1405
theorem km_X12_112 : Cond.methodLink RX12 112 yX12_settled ∈ th_tb := kw_1417
theorem km_X12_115 : Cond.methodLink RX12 115 yX12_many ∈ th_tb := kw_1431
theorem km_X12_119 : Cond.methodLink RX12 119 yX12_isSide ∈ th_tb := kw_1428
theorem km_X12_123 : Cond.methodLink RX12 123 yX12_rolls ∈ th_tb := kw_1439
theorem km_X12_127 : Cond.methodLink RX12 127 yX12_canBe ∈ th_tb := kw_1425
theorem km_X12_130 : Cond.methodLink RX12 130 yX12_adds ∈ th_tb := kw_1435
theorem km_X12_134 : Cond.methodLink RX12 134 yX12_isCarpet ∈ th_tb := kw_1447
theorem km_X12_137 : Cond.methodLink RX12 137 yX12_isLaid ∈ th_tb := kw_1451
theorem km_X12_140 : Cond.methodLink RX12 140 yX12_wearsNow ∈ th_tb := kw_1455
theorem km_X12_143 : Cond.methodLink RX12 143 yX12_laidMany ∈ th_tb := kw_1524
theorem km_X12_146 : Cond.methodLink RX12 146 yX12_covers ∈ th_tb := kw_1532
theorem km_X12_149 : Cond.methodLink RX12 149 yX12_isAlong ∈ th_tb := kw_1540
theorem km_X12_152 : Cond.methodLink RX12 152 yX12_costsAt ∈ th_tb := kw_1543
theorem km_X12_156 : Cond.methodLink RX12 156 yX12_isBarred ∈ th_tb := kw_1547
theorem km_X12_159 : Cond.methodLink RX12 159 yX12_canLay ∈ th_tb := kw_1551
theorem km_X12_162 : Cond.methodLink RX12 162 yX12_isTerm ∈ th_tb := kw_1575
theorem km_X12_166 : Cond.methodLink RX12 166 yX12_termAt ∈ th_tb := kw_1578
theorem km_X12_178 : Cond.methodLink RX12 178 yX12_isSmall ∈ th_tb := kw_1613
theorem km_X12_181 : Cond.methodLink RX12 181 yX12_isDigit ∈ th_tb := kw_1616
theorem km_X12_184 : Cond.methodLink RX12 184 yX12_wordOf ∈ th_tb := kw_1619
theorem km_X12_192 : Cond.methodLink RX12 192 yX12_fine ∈ th_tb := kw_1636
theorem km_X12_199 : Cond.methodLink RX12 199 yX12_takes0 ∈ th_tb := kw_1632
theorem km_X12_202 : Cond.methodLink RX12 202 yX12_faults ∈ th_tb := kw_1652
theorem km_X12_208 : Cond.methodLink RX12 208 yX12_readSum ∈ th_tb := kw_1640
theorem km_X12_211 : Cond.methodLink RX12 211 yX12_must ∈ th_tb := kw_1656
theorem km_X12_214 : Cond.methodLink RX12 214 yX12_readTest ∈ th_tb := kw_1672
theorem km_X12_217 : Cond.methodLink RX12 217 yX12_readMore ∈ th_tb := kw_1668
theorem km_X12_220 : Cond.methodLink RX12 220 yX12_mustNumber ∈ th_tb := kw_1664
theorem km_X12_228 : Cond.methodLink RX12 228 yX12_readOrder ∈ th_tb := kw_1628
theorem km_X12_231 : Cond.methodLink RX12 231 yX12_readClause ∈ th_tb := kw_1684
theorem km_X12_234 : Cond.methodLink RX12 234 yX12_readBoth ∈ th_tb := kw_1676
theorem km_X12_237 : Cond.methodLink RX12 237 yX12_readPlain ∈ th_tb := kw_1680
theorem km_X12_240 : Cond.methodLink RX12 240 yX12_sign ∈ th_tb := kw_1483
theorem km_X12_244 : Cond.methodLink RX12 244 yX12_readTerm ∈ th_tb := kw_1644
theorem km_X12_247 : Cond.methodLink RX12 247 yX12_readPart ∈ th_tb := kw_1648
theorem km_X12_256 : Cond.methodLink RX12 256 yX12_leaf ∈ th_tb := kw_1660
theorem km_X12_259 : Cond.methodLink RX12 259 yX12_splits ∈ th_tb := kw_1609
theorem km_X12_262 : Cond.methodLink RX12 262 yX12_readOne ∈ th_tb := kw_1624
theorem km_X12_265 : Cond.methodLink RX12 265 yX12_reads ∈ th_tb := kw_1605
theorem km_X12_268 : Cond.methodLink RX12 268 yX12_readsAs ∈ th_tb := kw_1601
theorem km_X12_272 : Cond.methodLink RX12 272 yX12_lays ∈ th_tb := kw_1688
theorem km_X12_275 : Cond.methodLink RX12 275 yX12_isLaw ∈ th_tb := kw_1700
theorem km_X12_284 : Cond.methodLink RX12 284 yX12_codeAt ∈ th_tb := kw_1467
theorem km_X12_294 : Cond.methodLink RX12 294 yX12_termOf ∈ th_tb := kw_1475
theorem km_X12_298 : Cond.methodLink RX12 298 yX12_bounded ∈ th_tb := kw_1498
theorem km_X12_302 : Cond.methodLink RX12 302 yX12_partOf ∈ th_tb := kw_1479
theorem km_X12_305 : Cond.methodLink RX12 305 yX12_passes0 ∈ th_tb := kw_1486
theorem km_X12_308 : Cond.methodLink RX12 308 yX12_sumOf ∈ th_tb := kw_1471
theorem km_X12_314 : Cond.methodLink RX12 314 yX12_orderValue ∈ th_tb := kw_1490
theorem km_X12_323 : Cond.methodLink RX12 323 yX12_bareMany ∈ th_tb := kw_1494
theorem km_X12_326 : Cond.methodLink RX12 326 yX12_bothOf ∈ th_tb := kw_1508
theorem km_X12_329 : Cond.methodLink RX12 329 yX12_plainOf ∈ th_tb := kw_1512
theorem km_X12_332 : Cond.methodLink RX12 332 yX12_positiveOf ∈ th_tb := kw_1516
theorem km_X12_335 : Cond.methodLink RX12 335 yX12_testOf ∈ th_tb := kw_1504
theorem km_X12_338 : Cond.methodLink RX12 338 yX12_setsAsked ∈ th_tb := kw_1463
theorem km_X12_341 : Cond.methodLink RX12 341 yX12_tells ∈ th_tb := kw_1459
theorem km_X12_345 : Cond.methodLink RX12 345 yX12_turnsSquare ∈ th_tb := kw_1563
theorem km_X12_348 : Cond.methodLink RX12 348 yX12_isIn ∈ th_tb := kw_1712
theorem km_X12_351 : Cond.methodLink RX12 351 yX12_laysCovered ∈ th_tb := kw_1559
theorem km_X12_354 : Cond.methodLink RX12 354 yX12_firstBare ∈ th_tb := kw_1708
theorem km_X12_357 : Cond.methodLink RX12 357 yX12_isWhole ∈ th_tb := kw_1555
theorem km_X12_360 : Cond.methodLink RX12 360 yX12_isFree ∈ th_tb := kw_1567
theorem km_X12_364 : Cond.methodLink RX12 364 yX12_lesser ∈ th_tb := kw_1735
theorem km_X12_367 : Cond.methodLink RX12 367 yX12_greater ∈ th_tb := kw_1770
theorem km_X12_370 : Cond.methodLink RX12 370 yX12_keeps ∈ th_tb := kw_1727
theorem km_X12_373 : Cond.methodLink RX12 373 yX12_laysAt ∈ th_tb := kw_1731
theorem km_X12_376 : Cond.methodLink RX12 376 yX12_yearPasses ∈ th_tb := kw_1766
theorem km_X12_379 : Cond.methodLink RX12 379 yX12_laysKept ∈ th_tb := kw_1723
theorem km_X12_382 : Cond.methodLink RX12 382 yX12_goodOr ∈ th_tb := kw_1738
theorem km_X12_385 : Cond.methodLink RX12 385 yX12_rollsKept ∈ th_tb := kw_1746
theorem km_X12_388 : Cond.methodLink RX12 388 yX12_mirrorsKept ∈ th_tb := kw_1754
theorem km_X12_391 : Cond.methodLink RX12 391 yX12_passesKept ∈ th_tb := kw_1762
theorem km_X12_394 : Cond.methodLink RX12 394 yX12_at ∈ th_tb := kw_1809
theorem km_X12_397 : Cond.methodLink RX12 397 yX12_carpetBehind ∈ th_tb := kw_1805
theorem km_X12_403 : Cond.methodLink RX12 403 yX12_isSeenSo ∈ th_tb := kw_1801
theorem km_X12_412 : Cond.methodLink RX12 412 yX12_countsRow ∈ th_tb := kw_1810
theorem km_X12_427 : Cond.methodLink RX12 427 yX12_fills ∈ th_tb := kw_1797
theorem km_X12_430 : Cond.methodLink RX12 430 yX12_priceAt ∈ th_tb := kw_1814
theorem km_X12_433 : Cond.methodLink RX12 433 yX12_goesOn ∈ th_tb := kw_1793
theorem km_X12_436 : Cond.methodLink RX12 436 yX12_rolledWhole ∈ th_tb := kw_1781
theorem km_X12_439 : Cond.methodLink RX12 439 yX12_laysPrices ∈ th_tb := kw_1785
theorem km_X12_442 : Cond.methodLink RX12 442 yX12_goesThrough ∈ th_tb := kw_1789
theorem km_X12_445 : Cond.methodLink RX12 445 yX12_fillsNow ∈ th_tb := kw_1777
theorem km_X12_449 : Cond.methodLink RX12 449 yX12_cheapest ∈ th_tb := kw_1830
theorem km_X12_452 : Cond.methodLink RX12 452 yX12_isMovable ∈ th_tb := kw_1835
theorem km_X12_455 : Cond.methodLink RX12 455 yX12_canFill ∈ th_tb := kw_1843
theorem km_X12_458 : Cond.methodLink RX12 458 yX12_within ∈ th_tb := kw_1851
theorem km_X12_462 : Cond.methodLink RX12 462 yX12_isCross ∈ th_tb := kw_1859
theorem km_X12_465 : Cond.methodLink RX12 465 yX12_laysFloors ∈ th_tb := kw_1887
theorem km_X12_468 : Cond.methodLink RX12 468 yX12_mostAt ∈ th_tb := kw_1895
theorem km_X12_477 : Cond.methodLink RX12 477 yX12_laysAside ∈ th_tb := kw_1914
theorem km_X12_483 : Cond.methodLink RX12 483 yX12_runs ∈ th_tb := kw_1918
theorem km_X12_486 : Cond.methodLink RX12 486 yX12_takesBack ∈ th_tb := kw_1934
theorem km_X12_503 : Cond.methodLink RX12 503 yX12_small ∈ th_tb := kw_1930
theorem km_X12_507 : Cond.methodLink RX12 507 yX12_goesAlong ∈ th_tb := kw_1922
theorem km_X12_511 : Cond.methodLink RX12 511 yX12_obeys ∈ th_tb := kw_1926
theorem km_X12_523 : Cond.methodLink RX12 523 yX12_draws ∈ th_tb := kw_1942
theorem km_X12_526 : Cond.methodLink RX12 526 yX12_ragMany ∈ th_tb := kw_1957
theorem kac_X1_46 : Cond.methodLink RX1 46 arraycopyName ∈ th_tb := kw_784
theorem kac_X4_32 : Cond.methodLink RX4 32 arraycopyName ∈ th_tb := kw_787
theorem kac_X8_56 : Cond.methodLink RX8 56 arraycopyName ∈ th_tb := kw_1203
theorem kac_X10_25 : Cond.methodLink RX10 25 arraycopyName ∈ th_tb := kw_1202
theorem kw_nat : Cond.native arraycopyName ∈ th_tb := kw_786
theorem kw_sta : Cond.static arraycopyName ∈ th_tb := kw_785
theorem kw_sys : Cond.initialized "java/lang/System" ∈ th_tb := kw_20
theorem kma_X11_362 : Cond.methodLink RX11 362 Lib.Math.min.name ∈ th_tb := kw_813
theorem kma_X1_72 : Cond.methodLink RX1 72 Lib.Math.max.name ∈ th_tb := kw_840
theorem kma_X1_96 : Cond.methodLink RX1 96 Lib.Math.min.name ∈ th_tb := kw_1039
theorem kma_X2_32 : Cond.methodLink RX2 32 Lib.Math.min.name ∈ th_tb := kw_501
theorem kma_X2_38 : Cond.methodLink RX2 38 Lib.Math.max.name ∈ th_tb := kw_504
theorem kma_X5_89 : Cond.methodLink RX5 89 Lib.Math.min.name ∈ th_tb := kw_695
theorem kma_X7_126 : Cond.methodLink RX7 126 Lib.Math.max.name ∈ th_tb := kw_1146
theorem kma_X7_164 : Cond.methodLink RX7 164 Lib.Math.min.name ∈ th_tb := kw_974
theorem kw_mins : Cond.static Lib.Math.min.name ∈ th_tb := kw_502
theorem kw_minc : Cond.code Lib.Math.min.name Lib.Math.min.code 2 (some .int) ∈ th_tb := kw_503
theorem kw_maxs : Cond.static Lib.Math.max.name ∈ th_tb := kw_505
theorem kw_maxc : Cond.code Lib.Math.max.name Lib.Math.max.code 2 (some .int) ∈ th_tb := kw_506
theorem kw_mini : Cond.initialized "java/lang/Math" ∈ th_tb := kw_15
end
section
theorem tk_m8 : ((-8) : Int32).toInt = (-8) := rfl
theorem tk_m6 : ((-6) : Int32).toInt = (-6) := rfl
theorem tk_m5 : ((-5) : Int32).toInt = (-5) := rfl
theorem tk_m4 : ((-4) : Int32).toInt = (-4) := rfl
theorem tk_m3 : ((-3) : Int32).toInt = (-3) := rfl
theorem tk_m2 : ((-2) : Int32).toInt = (-2) := rfl
theorem tk_m1 : ((-1) : Int32).toInt = (-1) := rfl
theorem tk_0 : (0 : Int32).toInt = 0 := rfl
theorem tk_1 : (1 : Int32).toInt = 1 := rfl
theorem tk_2 : (2 : Int32).toInt = 2 := rfl
theorem tk_3 : (3 : Int32).toInt = 3 := rfl
theorem tk_4 : (4 : Int32).toInt = 4 := rfl
theorem tk_5 : (5 : Int32).toInt = 5 := rfl
theorem tk_6 : (6 : Int32).toInt = 6 := rfl
theorem tk_7 : (7 : Int32).toInt = 7 := rfl
theorem tk_8 : (8 : Int32).toInt = 8 := rfl
theorem tk_9 : (9 : Int32).toInt = 9 := rfl
theorem tk_10 : (10 : Int32).toInt = 10 := rfl
theorem tk_11 : (11 : Int32).toInt = 11 := rfl
theorem tk_12 : (12 : Int32).toInt = 12 := rfl
theorem tk_13 : (13 : Int32).toInt = 13 := rfl
theorem tk_14 : (14 : Int32).toInt = 14 := rfl
theorem tk_15 : (15 : Int32).toInt = 15 := rfl
theorem tk_16 : (16 : Int32).toInt = 16 := rfl
theorem tk_17 : (17 : Int32).toInt = 17 := rfl
theorem tk_18 : (18 : Int32).toInt = 18 := rfl
theorem tk_19 : (19 : Int32).toInt = 19 := rfl
theorem tk_20 : (20 : Int32).toInt = 20 := rfl
theorem tk_21 : (21 : Int32).toInt = 21 := rfl
theorem tk_22 : (22 : Int32).toInt = 22 := rfl
theorem tk_23 : (23 : Int32).toInt = 23 := rfl
theorem tk_24 : (24 : Int32).toInt = 24 := rfl
theorem tk_25 : (25 : Int32).toInt = 25 := rfl
theorem tk_26 : (26 : Int32).toInt = 26 := rfl
theorem tk_27 : (27 : Int32).toInt = 27 := rfl
theorem tk_28 : (28 : Int32).toInt = 28 := rfl
theorem tk_29 : (29 : Int32).toInt = 29 := rfl
theorem tk_30 : (30 : Int32).toInt = 30 := rfl
theorem tk_31 : (31 : Int32).toInt = 31 := rfl
theorem tk_32 : (32 : Int32).toInt = 32 := rfl
theorem tk_33 : (33 : Int32).toInt = 33 := rfl
theorem tk_34 : (34 : Int32).toInt = 34 := rfl
theorem tk_35 : (35 : Int32).toInt = 35 := rfl
theorem tk_36 : (36 : Int32).toInt = 36 := rfl
theorem tk_37 : (37 : Int32).toInt = 37 := rfl
theorem tk_38 : (38 : Int32).toInt = 38 := rfl
theorem tk_39 : (39 : Int32).toInt = 39 := rfl
theorem tk_40 : (40 : Int32).toInt = 40 := rfl
theorem tk_41 : (41 : Int32).toInt = 41 := rfl
theorem tk_42 : (42 : Int32).toInt = 42 := rfl
theorem tk_43 : (43 : Int32).toInt = 43 := rfl
theorem tk_44 : (44 : Int32).toInt = 44 := rfl
theorem tk_45 : (45 : Int32).toInt = 45 := rfl
theorem tk_46 : (46 : Int32).toInt = 46 := rfl
theorem tk_47 : (47 : Int32).toInt = 47 := rfl
theorem tk_48 : (48 : Int32).toInt = 48 := rfl
theorem tk_49 : (49 : Int32).toInt = 49 := rfl
theorem tk_50 : (50 : Int32).toInt = 50 := rfl
theorem tk_51 : (51 : Int32).toInt = 51 := rfl
theorem tk_52 : (52 : Int32).toInt = 52 := rfl
theorem tk_53 : (53 : Int32).toInt = 53 := rfl
theorem tk_54 : (54 : Int32).toInt = 54 := rfl
theorem tk_55 : (55 : Int32).toInt = 55 := rfl
theorem tk_56 : (56 : Int32).toInt = 56 := rfl
theorem tk_57 : (57 : Int32).toInt = 57 := rfl
theorem tk_58 : (58 : Int32).toInt = 58 := rfl
theorem tk_59 : (59 : Int32).toInt = 59 := rfl
theorem tk_60 : (60 : Int32).toInt = 60 := rfl
theorem tk_61 : (61 : Int32).toInt = 61 := rfl
theorem tk_62 : (62 : Int32).toInt = 62 := rfl
theorem tk_63 : (63 : Int32).toInt = 63 := rfl
theorem tk_64 : (64 : Int32).toInt = 64 := rfl
theorem tk_65 : (65 : Int32).toInt = 65 := rfl
theorem tk_66 : (66 : Int32).toInt = 66 := rfl
theorem tk_67 : (67 : Int32).toInt = 67 := rfl
theorem tk_68 : (68 : Int32).toInt = 68 := rfl
theorem tk_69 : (69 : Int32).toInt = 69 := rfl
theorem tk_70 : (70 : Int32).toInt = 70 := rfl
theorem tk_71 : (71 : Int32).toInt = 71 := rfl
theorem tk_72 : (72 : Int32).toInt = 72 := rfl
theorem tk_73 : (73 : Int32).toInt = 73 := rfl
theorem tk_74 : (74 : Int32).toInt = 74 := rfl
theorem tk_75 : (75 : Int32).toInt = 75 := rfl
theorem tk_76 : (76 : Int32).toInt = 76 := rfl
theorem tk_77 : (77 : Int32).toInt = 77 := rfl
theorem tk_78 : (78 : Int32).toInt = 78 := rfl
theorem tk_79 : (79 : Int32).toInt = 79 := rfl
theorem tk_80 : (80 : Int32).toInt = 80 := rfl
theorem tk_81 : (81 : Int32).toInt = 81 := rfl
theorem tk_82 : (82 : Int32).toInt = 82 := rfl
theorem tk_83 : (83 : Int32).toInt = 83 := rfl
theorem tk_84 : (84 : Int32).toInt = 84 := rfl
theorem tk_85 : (85 : Int32).toInt = 85 := rfl
theorem tk_86 : (86 : Int32).toInt = 86 := rfl
theorem tk_87 : (87 : Int32).toInt = 87 := rfl
theorem tk_88 : (88 : Int32).toInt = 88 := rfl
theorem tk_89 : (89 : Int32).toInt = 89 := rfl
theorem tk_90 : (90 : Int32).toInt = 90 := rfl
theorem tk_91 : (91 : Int32).toInt = 91 := rfl
theorem tk_92 : (92 : Int32).toInt = 92 := rfl
theorem tk_93 : (93 : Int32).toInt = 93 := rfl
theorem tk_94 : (94 : Int32).toInt = 94 := rfl
theorem tk_95 : (95 : Int32).toInt = 95 := rfl
theorem tk_96 : (96 : Int32).toInt = 96 := rfl
theorem tk_97 : (97 : Int32).toInt = 97 := rfl
theorem tk_98 : (98 : Int32).toInt = 98 := rfl
theorem tk_99 : (99 : Int32).toInt = 99 := rfl
theorem tk_100 : (100 : Int32).toInt = 100 := rfl
theorem tk_101 : (101 : Int32).toInt = 101 := rfl
theorem tk_102 : (102 : Int32).toInt = 102 := rfl
theorem tk_103 : (103 : Int32).toInt = 103 := rfl
theorem tk_104 : (104 : Int32).toInt = 104 := rfl
theorem tk_105 : (105 : Int32).toInt = 105 := rfl
theorem tk_106 : (106 : Int32).toInt = 106 := rfl
theorem tk_107 : (107 : Int32).toInt = 107 := rfl
theorem tk_108 : (108 : Int32).toInt = 108 := rfl
theorem tk_109 : (109 : Int32).toInt = 109 := rfl
theorem tk_110 : (110 : Int32).toInt = 110 := rfl
theorem tk_111 : (111 : Int32).toInt = 111 := rfl
theorem tk_112 : (112 : Int32).toInt = 112 := rfl
theorem tk_113 : (113 : Int32).toInt = 113 := rfl
theorem tk_114 : (114 : Int32).toInt = 114 := rfl
theorem tk_115 : (115 : Int32).toInt = 115 := rfl
theorem tk_116 : (116 : Int32).toInt = 116 := rfl
theorem tk_117 : (117 : Int32).toInt = 117 := rfl
theorem tk_118 : (118 : Int32).toInt = 118 := rfl
theorem tk_119 : (119 : Int32).toInt = 119 := rfl
theorem tk_120 : (120 : Int32).toInt = 120 := rfl
theorem tk_121 : (121 : Int32).toInt = 121 := rfl
theorem tk_122 : (122 : Int32).toInt = 122 := rfl
theorem tk_123 : (123 : Int32).toInt = 123 := rfl
theorem tk_124 : (124 : Int32).toInt = 124 := rfl
theorem tk_125 : (125 : Int32).toInt = 125 := rfl
theorem tk_126 : (126 : Int32).toInt = 126 := rfl
theorem tk_127 : (127 : Int32).toInt = 127 := rfl
theorem tk_128 : (128 : Int32).toInt = 128 := rfl
theorem tk_129 : (129 : Int32).toInt = 129 := rfl
theorem tk_130 : (130 : Int32).toInt = 130 := rfl
theorem tk_131 : (131 : Int32).toInt = 131 := rfl
theorem tk_132 : (132 : Int32).toInt = 132 := rfl
theorem tk_133 : (133 : Int32).toInt = 133 := rfl
theorem tk_134 : (134 : Int32).toInt = 134 := rfl
theorem tk_135 : (135 : Int32).toInt = 135 := rfl
theorem tk_136 : (136 : Int32).toInt = 136 := rfl
theorem tk_137 : (137 : Int32).toInt = 137 := rfl
theorem tk_138 : (138 : Int32).toInt = 138 := rfl
theorem tk_139 : (139 : Int32).toInt = 139 := rfl
theorem tk_140 : (140 : Int32).toInt = 140 := rfl
theorem tk_141 : (141 : Int32).toInt = 141 := rfl
theorem tk_142 : (142 : Int32).toInt = 142 := rfl
theorem tk_143 : (143 : Int32).toInt = 143 := rfl
theorem tk_144 : (144 : Int32).toInt = 144 := rfl
theorem tk_145 : (145 : Int32).toInt = 145 := rfl
theorem tk_146 : (146 : Int32).toInt = 146 := rfl
theorem tk_147 : (147 : Int32).toInt = 147 := rfl
theorem tk_148 : (148 : Int32).toInt = 148 := rfl
theorem tk_149 : (149 : Int32).toInt = 149 := rfl
theorem tk_150 : (150 : Int32).toInt = 150 := rfl
theorem tk_151 : (151 : Int32).toInt = 151 := rfl
theorem tk_152 : (152 : Int32).toInt = 152 := rfl
theorem tk_153 : (153 : Int32).toInt = 153 := rfl
theorem tk_154 : (154 : Int32).toInt = 154 := rfl
theorem tk_155 : (155 : Int32).toInt = 155 := rfl
theorem tk_156 : (156 : Int32).toInt = 156 := rfl
theorem tk_157 : (157 : Int32).toInt = 157 := rfl
theorem tk_158 : (158 : Int32).toInt = 158 := rfl
theorem tk_159 : (159 : Int32).toInt = 159 := rfl
theorem tk_160 : (160 : Int32).toInt = 160 := rfl
theorem tk_161 : (161 : Int32).toInt = 161 := rfl
theorem tk_162 : (162 : Int32).toInt = 162 := rfl
theorem tk_163 : (163 : Int32).toInt = 163 := rfl
theorem tk_164 : (164 : Int32).toInt = 164 := rfl
theorem tk_165 : (165 : Int32).toInt = 165 := rfl
theorem tk_166 : (166 : Int32).toInt = 166 := rfl
theorem tk_167 : (167 : Int32).toInt = 167 := rfl
theorem tk_168 : (168 : Int32).toInt = 168 := rfl
theorem tk_169 : (169 : Int32).toInt = 169 := rfl
theorem tk_170 : (170 : Int32).toInt = 170 := rfl
theorem tk_171 : (171 : Int32).toInt = 171 := rfl
theorem tk_172 : (172 : Int32).toInt = 172 := rfl
theorem tk_173 : (173 : Int32).toInt = 173 := rfl
theorem tk_174 : (174 : Int32).toInt = 174 := rfl
theorem tk_175 : (175 : Int32).toInt = 175 := rfl
theorem tk_176 : (176 : Int32).toInt = 176 := rfl
theorem tk_177 : (177 : Int32).toInt = 177 := rfl
theorem tk_178 : (178 : Int32).toInt = 178 := rfl
theorem tk_179 : (179 : Int32).toInt = 179 := rfl
theorem tk_180 : (180 : Int32).toInt = 180 := rfl
theorem tk_181 : (181 : Int32).toInt = 181 := rfl
theorem tk_182 : (182 : Int32).toInt = 182 := rfl
theorem tk_183 : (183 : Int32).toInt = 183 := rfl
theorem tk_184 : (184 : Int32).toInt = 184 := rfl
theorem tk_185 : (185 : Int32).toInt = 185 := rfl
theorem tk_186 : (186 : Int32).toInt = 186 := rfl
theorem tk_187 : (187 : Int32).toInt = 187 := rfl
theorem tk_188 : (188 : Int32).toInt = 188 := rfl
theorem tk_189 : (189 : Int32).toInt = 189 := rfl
theorem tk_190 : (190 : Int32).toInt = 190 := rfl
theorem tk_191 : (191 : Int32).toInt = 191 := rfl
theorem tk_192 : (192 : Int32).toInt = 192 := rfl
theorem tk_193 : (193 : Int32).toInt = 193 := rfl
theorem tk_194 : (194 : Int32).toInt = 194 := rfl
theorem tk_195 : (195 : Int32).toInt = 195 := rfl
theorem tk_196 : (196 : Int32).toInt = 196 := rfl
theorem tk_197 : (197 : Int32).toInt = 197 := rfl
theorem tk_198 : (198 : Int32).toInt = 198 := rfl
theorem tk_199 : (199 : Int32).toInt = 199 := rfl
theorem tk_255 : (255 : Int32).toInt = 255 := rfl
theorem tk_300 : (300 : Int32).toInt = 300 := rfl
theorem tk_301 : (301 : Int32).toInt = 301 := rfl
theorem tk_302 : (302 : Int32).toInt = 302 := rfl
theorem tk_303 : (303 : Int32).toInt = 303 := rfl
theorem tk_304 : (304 : Int32).toInt = 304 := rfl
theorem tk_305 : (305 : Int32).toInt = 305 := rfl
theorem tk_306 : (306 : Int32).toInt = 306 := rfl
theorem tk_307 : (307 : Int32).toInt = 307 := rfl
theorem tk_308 : (308 : Int32).toInt = 308 := rfl
theorem tk_309 : (309 : Int32).toInt = 309 := rfl
theorem tk_310 : (310 : Int32).toInt = 310 := rfl
theorem tk_311 : (311 : Int32).toInt = 311 := rfl
theorem tk_312 : (312 : Int32).toInt = 312 := rfl
theorem tk_313 : (313 : Int32).toInt = 313 := rfl
theorem tk_314 : (314 : Int32).toInt = 314 := rfl
theorem tk_315 : (315 : Int32).toInt = 315 := rfl
theorem tk_316 : (316 : Int32).toInt = 316 := rfl
theorem tk_317 : (317 : Int32).toInt = 317 := rfl
theorem tk_318 : (318 : Int32).toInt = 318 := rfl
theorem tk_319 : (319 : Int32).toInt = 319 := rfl
theorem tk_320 : (320 : Int32).toInt = 320 := rfl
theorem tk_321 : (321 : Int32).toInt = 321 := rfl
theorem tk_322 : (322 : Int32).toInt = 322 := rfl
theorem tk_323 : (323 : Int32).toInt = 323 := rfl
theorem tk_324 : (324 : Int32).toInt = 324 := rfl
theorem tk_325 : (325 : Int32).toInt = 325 := rfl
theorem tk_326 : (326 : Int32).toInt = 326 := rfl
theorem tk_327 : (327 : Int32).toInt = 327 := rfl
theorem tk_400 : (400 : Int32).toInt = 400 := rfl
theorem tk_450 : (450 : Int32).toInt = 450 := rfl
theorem tk_999 : (999 : Int32).toInt = 999 := rfl
theorem tk_1000 : (1000 : Int32).toInt = 1000 := rfl
theorem tk_1001 : (1001 : Int32).toInt = 1001 := rfl
theorem tk_1103 : (1103 : Int32).toInt = 1103 := rfl
theorem tk_2000 : (2000 : Int32).toInt = 2000 := rfl
theorem tk_2001 : (2001 : Int32).toInt = 2001 := rfl
theorem tk_2005 : (2005 : Int32).toInt = 2005 := rfl
theorem tk_2014 : (2014 : Int32).toInt = 2014 := rfl
theorem tk_2880 : (2880 : Int32).toInt = 2880 := rfl
theorem tk_3000 : (3000 : Int32).toInt = 3000 := rfl
theorem tk_3001 : (3001 : Int32).toInt = 3001 := rfl
theorem tk_3002 : (3002 : Int32).toInt = 3002 := rfl
theorem tk_3003 : (3003 : Int32).toInt = 3003 := rfl
theorem tk_3004 : (3004 : Int32).toInt = 3004 := rfl
theorem tk_3005 : (3005 : Int32).toInt = 3005 := rfl
theorem tk_3006 : (3006 : Int32).toInt = 3006 := rfl
theorem tk_3007 : (3007 : Int32).toInt = 3007 := rfl
theorem tk_3008 : (3008 : Int32).toInt = 3008 := rfl
theorem tk_3009 : (3009 : Int32).toInt = 3009 := rfl
theorem tk_3010 : (3010 : Int32).toInt = 3010 := rfl
theorem tk_9999 : (9999 : Int32).toInt = 9999 := rfl
theorem tk_12345 : (12345 : Int32).toInt = 12345 := rfl
theorem tk_1000000 : (1000000 : Int32).toInt = 1000000 := rfl
theorem tk_1000003 : (1000003 : Int32).toInt = 1000003 := rfl
theorem tk_252645135 : (252645135 : Int32).toInt = 252645135 := rfl
theorem tk_858993459 : (858993459 : Int32).toInt = 858993459 := rfl
theorem tk_1000000000 : (1000000000 : Int32).toInt = 1000000000 := rfl
theorem tk_1431655765 : (1431655765 : Int32).toInt = 1431655765 := rfl
theorem tk_n10 : (nI 10).toInt = 10 := rfl
theorem tk_n12 : (nI 12).toInt = 12 := rfl
theorem tk_n14 : (nI 14).toInt = 14 := rfl
section TR2
variable {p : Program} {l : Launch} {e : Env} {R : Room} {s : State} {m : MethodId} {args : Array Value} {below : List Frame} {meth : Method} {c : Code} {H H0 : Heap} {locs : List Loc} {cells slots : Nat} {Q : State → Prop}
variable {cc : ByteArray} {pc : Nat} {ls : Array Slot} {rest : List Value} {G : th_G} {Γ Γ0 : th_Ga} {L : List (Nat × Nat)}
theorem th_B_s {locs1 : List Loc} (hB : th_B G Γ Γ0 L H0 H locs) (hS : va_S (fun q => G.1.2.2 ≤ q) H0 H locs1) : th_B G Γ Γ0 L H0 H locs1 := ⟨hB.1, hS, hB.2.2⟩
theorem th_B_c {locs1 : List Loc} {H1 : Heap} {L1 : List (Nat × Nat)} (hB : th_B G Γ Γ L H0 H locs) (hI : th_I G Γ H1) (hS : va_S (fun q => G.1.2.2 ≤ q) H0 H1 locs1) (hF : th_F G Γ L1 H H1) (hs : L1.all (fun q => L.contains q) = true) : th_B G Γ Γ L H0 H1 locs1 := ⟨hI, hS, th_F_tr hB.2.2 hF hs⟩
theorem tr_iinc {i nL k : Nat} {n : Int} {x : Int32} {a : Int} {lv : List (Nat × Value)} (lv' : Int32 → List (Nat × Value)) (hexec : p.tables.exec = Jvm.exec) (hb : c.code = cc) (hdg : decode cc pc = .ok (.iinc i n, 3)) (h : lv_has ls nL lv) (hk : lv[k]? = some (i, .int x)) (ha : x.toInt = a) (hn0 : (Int32.ofInt n).toInt = n) (h1 : -2147483648 ≤ a + n) (h2 : a + n ≤ 2147483647) (hn : i < nL) (hl : ∀ z : Int32, (i, Value.int z) :: lv.filter (fun q => !(q.1 == i) && !(q.1 + 1 == i && q.2.category == 2)) = lv' z)
    (kk : ∀ (z : Int32) (ls' : Array Slot), z.toInt = a + n → lv_has ls' nL (lv' z) → W p l e R s m args below meth c H locs cells slots Q (F0 m (pc + 3) ls' rest)) : W p l e R s m args below meth c H locs cells slots Q (F0 m pc ls rest) :=
  lv_iinc hexec hb hdg h hk rfl hn (hl (x + Int32.ofInt n)) (fun ls' hl' => kk _ ls' (ti_add ha hn0 h1 h2) hl')
theorem tr_iincA {i nL k : Nat} {n : Int} {x : Int32} {lv : List (Nat × Value)} (lv' : Int32 → List (Nat × Value)) (hexec : p.tables.exec = Jvm.exec) (hb : c.code = cc) (hdg : decode cc pc = .ok (.iinc i n, 3)) (h : lv_has ls nL lv) (hk : lv[k]? = some (i, .int x)) (hn : i < nL) (hl : ∀ z : Int32, (i, Value.int z) :: lv.filter (fun q => !(q.1 == i) && !(q.1 + 1 == i && q.2.category == 2)) = lv' z)
    (kk : ∀ (z : Int32) (ls' : Array Slot), lv_has ls' nL (lv' z) → W p l e R s m args below meth c H locs cells slots Q (F0 m (pc + 3) ls' rest)) : W p l e R s m args below meth c H locs cells slots Q (F0 m pc ls rest) :=
  lv_iinc hexec hb hdg h hk rfl hn (hl (x + Int32.ofInt n)) (fun ls' hl' => kk _ ls' hl')
theorem th_getK {nL : Nat} {own : String} (hC : th_C p s m args c cc nL own G) {k : Nat} {C : String} {T : u_T} {N : Nat} {ty : Nat → FieldType} (hcf : th_CF k C T N ty) (hI : th_I G Γ H) {a r o j index : Nat} {fs : List th_sp} {v : Value} (ha : Γ a = (r, o)) (hr : th_ro r = some (.inl (k, fs))) (hN : fs.length = N) (hj : j < fs.length) (hv : th_sl H a (G.1.1.2 k j) = v)
    (hl : Cond.fieldLink own index C (T j).2.1 (T j).2.2.1 ∈ th_tb) (hdg : decode cc pc = .ok (.getfield index, 3))
    (kk : W p l e R s m args below meth c H locs cells slots Q (F0 m (pc + 3) ls (v :: rest))) : W p l e R s m args below meth c H locs cells slots Q (F0 m pc ls (.ref a :: rest)) :=
  th_get hC hcf hI ha hr hN (List.getElem?_eq_getElem hj) hl hdg (fun w hw _ => by rw [← hw, hv]; exact kk)
theorem th_getQ {nL : Nat} {own : String} (hC : th_C p s m args c cc nL own G) {k : Nat} {C : String} {T : u_T} {N : Nat} {ty : Nat → FieldType} (hcf : th_CF k C T N ty) (hI : th_I G Γ H) {a r o j index r2 : Nat} {fs : List th_sp} {hi : Int} (ha : Γ a = (r, o)) (hr : th_ro r = some (.inl (k, fs))) (hN : fs.length = N) (hq : fs[j]? = some (3, (r2 : Int), hi))
    (hl : Cond.fieldLink own index C (T j).2.1 (T j).2.2.1 ∈ th_tb) (hdg : decode cc pc = .ok (.getfield index, 3))
    (kk : ∀ v : Value, th_sl H a (G.1.1.2 k j) = v → (v = .null ∨ ∃ b : Nat, v = .ref b ∧ Γ b = (r2, 0)) → W p l e R s m args below meth c H locs cells slots Q (F0 m (pc + 3) ls (v :: rest))) : W p l e R s m args below meth c H locs cells slots Q (F0 m pc ls (.ref a :: rest)) :=
  th_get hC hcf hI ha hr hN hq hl hdg (fun v hv hs => kk v hv (hs.elim Or.inl (fun ⟨b, h1, h2⟩ => Or.inr ⟨b, h1, by simpa using h2⟩)))
theorem tr_qr {v : Value} {r : Nat} (h : v = .null ∨ ∃ b : Nat, v = .ref b ∧ Γ b = (r, 0)) : v = .null ∨ ∃ b : Nat, v = .ref b := by
  rcases h with h | ⟨b, h, -⟩
  · exact Or.inl h
  · exact Or.inr ⟨b, h⟩
theorem tr_qn {v : Value} {C : String} (h : v = .null ∨ ∃ b : Nat, v = .ref b) : narrow (.object C) v = v ∧ fits (.object C) v = true := by
  rcases h with rfl | ⟨b, rfl⟩
  · exact ⟨rfl, rfl⟩
  · exact ⟨rfl, rfl⟩
theorem tr_vload_n (hexec : p.tables.exec = Jvm.exec) (hb : c.code = cc) {k : Fin 4} {i : Nat} {v : Value} (hdg : decode cc pc = .ok (.aload_n k, 1)) (hi : (k : Nat) = i) (hl : ls[i]? = some (.val v)) (hv : v = .null ∨ ∃ b : Nat, v = .ref b)
    (kk : W p l e R s m args below meth c H locs cells slots Q (F0 m (pc + 1) ls (v :: rest))) : W p l e R s m args below meth c H locs cells slots Q (F0 m pc ls rest) := by
  rcases hv with rfl | ⟨b, rfl⟩
  · exact lv_aload_nN hexec hb hdg hi hl kk
  · exact lv_aload_n hexec hb hdg hi hl kk
theorem tr_vload (hexec : p.tables.exec = Jvm.exec) (hb : c.code = cc) {i : Nat} {v : Value} (hdg : decode cc pc = .ok (.aload i, 2)) (hl : ls[i]? = some (.val v)) (hv : v = .null ∨ ∃ b : Nat, v = .ref b)
    (kk : W p l e R s m args below meth c H locs cells slots Q (F0 m (pc + 2) ls (v :: rest))) : W p l e R s m args below meth c H locs cells slots Q (F0 m pc ls rest) := by
  rcases hv with rfl | ⟨b, rfl⟩
  · exact lv_aloadN hexec hb hdg hl kk
  · exact lv_aload hexec hb hdg hl kk
theorem tr_vstore_n (hexec : p.tables.exec = Jvm.exec) (hb : c.code = cc) {k : Fin 4} {i nL : Nat} {v : Value} {lv lv' : List (Nat × Value)} (hdg : decode cc pc = .ok (.astore_n k, 1)) (hi : (k : Nat) = i) (h : lv_has ls nL lv) (hv : v = .null ∨ ∃ b : Nat, v = .ref b) (hn : i < nL) (hl : (i, v) :: lv.filter (fun q => !(q.1 == i) && !(q.1 + 1 == i && q.2.category == 2)) = lv')
    (kk : ∀ ls' : Array Slot, lv_has ls' nL lv' → W p l e R s m args below meth c H locs cells slots Q (F0 m (pc + 1) ls' rest)) : W p l e R s m args below meth c H locs cells slots Q (F0 m pc ls (v :: rest)) := by
  rcases hv with rfl | ⟨b, rfl⟩
  · exact lv_astore_nN hexec hb hdg hi h hn hl kk
  · exact lv_astore_n hexec hb hdg hi h hn hl kk
theorem tr_vstore (hexec : p.tables.exec = Jvm.exec) (hb : c.code = cc) {i nL : Nat} {v : Value} {lv lv' : List (Nat × Value)} (hdg : decode cc pc = .ok (.astore i, 2)) (h : lv_has ls nL lv) (hv : v = .null ∨ ∃ b : Nat, v = .ref b) (hn : i < nL) (hl : (i, v) :: lv.filter (fun q => !(q.1 == i) && !(q.1 + 1 == i && q.2.category == 2)) = lv')
    (kk : ∀ ls' : Array Slot, lv_has ls' nL lv' → W p l e R s m args below meth c H locs cells slots Q (F0 m (pc + 2) ls' rest)) : W p l e R s m args below meth c H locs cells slots Q (F0 m pc ls (v :: rest)) := by
  rcases hv with rfl | ⟨b, rfl⟩
  · exact lv_astoreN hexec hb hdg h hn hl kk
  · exact lv_astore hexec hb hdg h hn hl kk
theorem ti_and (x : Int32) (k : Nat) {m : Int32} (hm : m.toBitVec.toNat = 2 ^ k - 1) (hk : k ≤ 30) : 0 ≤ (x &&& m).toInt ∧ (x &&& m).toInt ≤ 2 ^ k - 1 := by
  have h := vp_in_iff.mp (pk_andIn x k hm hk)
  have h2 : ((2 ^ k : Nat) : Int) = 2 ^ k := by simp
  omega
theorem ti_divb {a b : Int} (h0 : 0 ≤ a) (h1 : 0 < b) : 0 ≤ a / b ∧ a / b ≤ a := ⟨Int.ediv_nonneg h0 (by omega), Int.ediv_le_self b h0⟩
theorem ti_remb {a b : Int} (h0 : 0 ≤ a) (h1 : 0 < b) : 0 ≤ a % b ∧ a % b < b := ⟨Int.emod_nonneg a (by omega), Int.emod_lt_of_pos a h1⟩
end TR2
section TR3
variable {p : Program} {l : Launch} {e : Env} {R : Room} {s : State} {m : MethodId} {args : Array Value} {below : List Frame} {meth : Method} {c : Code} {H H0 : Heap} {locs : List Loc} {cells slots : Nat} {Q : State → Prop}
variable {cc : ByteArray} {pc : Nat} {ls : Array Slot} {rest : List Value} {G : th_G} {Γ Γ0 : th_Ga} {L : List (Nat × Nat)}
def th_Cp (H H1 : Heap) (a0 a sp dp n : Nat) : Prop := H1.size = H.size ∧ (∀ q, q ≠ a → H1[q]? = H[q]?) ∧ (∀ i, th_sl H1 a i = va_cpy (th_sl H a0) (th_sl H a) sp dp n i) ∧ th_ln H1 a = th_ln H a
theorem th_sl_out {H : Heap} {a n i : Nat} {cA : ClassId} {f : Nat → Value} (h : H[a]? = some (arrV cA n f)) (hi : n ≤ i) : th_sl H a i = .null := by
  unfold th_sl
  rw [h]
  show ((arrV cA n f).slots[i]?).getD .null = .null
  rw [Array.getElem?_eq_none (by rw [arrV_size]; exact hi)]
  rfl
theorem tr_acopy {nL : Nat} {own : String} (hC : th_C p s m args c cc nL own G) {index : Nat} (hlk : Cond.methodLink own index arraycopyName ∈ th_tb) (k1 : Cond.native arraycopyName ∈ th_tb) (k2 : Cond.static arraycopyName ∈ th_tb) (k3 : Cond.initialized "java/lang/System" ∈ th_tb) (hsz : ls.size = nL)
    (hB : th_B G Γ Γ0 L H0 H locs) {a0 a r0 r o0 o n1 n2 m1 m2 : Nat} {es0 es : Nat → th_sp} (ha0 : Γ a0 = (r0, o0)) (ha : Γ a = (r, o)) (hb0 : Γ0 a = (r, o) ∨ th_ro (Γ0 a).1 = none) (hr0 : th_ro r0 = some (.inr (0, n1, n2, es0))) (hr : th_ro r = some (.inr (0, m1, m2, es))) (hL : th_in L r 0 = true)
    {sp dp n : Int32} {x y z : Int} (hsp : sp.toInt = x) (hdp : dp.toInt = y) (hn : n.toInt = z) (h1 : 0 ≤ x) (h2 : 0 ≤ y) (h3 : 0 ≤ z) (h4 : x + z ≤ (n1 : Int)) (h5 : y + z ≤ (m1 : Int)) (hk : ∀ i, i < z.toNat → (es0 (x.toNat + i)).1 = 0) (he : ∀ (i : Nat) (v : Value), i < z.toNat → th_sat Γ a0 (es0 (x.toNat + i)) v → th_sat Γ a (es (y.toNat + i)) v)
    (hframes : 1 ≤ R.frames) (hlocals : (rest.map fun v => v.category).sum + (nativeFrameWords "java/lang/System" "arraycopy" 5 + 11) ≤ R.locals) (hdg : decode cc pc = .ok (.invokestatic index, 3))
    (kk : ∀ (H1 : Heap) (locs1 : List Loc), th_B G Γ Γ0 L H0 H1 locs1 → th_F G Γ [(r, 0)] H H1 → th_Cp H H1 a0 a x.toNat y.toNat z.toNat → W p l e R s m args below meth c H1 locs1 cells slots Q (F0 m (pc + 3) ls rest)) : W p l e R s m args below meth c H locs cells slots Q (F0 m pc ls (.int n :: .int dp :: .ref a :: .int sp :: .ref a0 :: rest)) := by
  obtain ⟨hx, hb, hml, hown, hts, hK, -⟩ := hC
  obtain ⟨hI, hS0, hF⟩ := hB
  have hq0 := th_ald0 hI ha0 hr0
  have hq1 := th_ald0 hI ha hr
  have hszA := (hI a r o _ ha hr).1
  obtain ⟨n0, i1, i2, hc0, i4, i5⟩ := hq0
  obtain ⟨nd, j1, j2, hc1, j4, j5⟩ := hq1
  have hspn : sp.toNatClampNeg = x.toNat := by rw [← hsp]; rfl
  have hdpn : dp.toNatClampNeg = y.toNat := by rw [← hdp]; rfl
  have hnn : n.toNatClampNeg = z.toNat := by rw [← hn]; rfl
  have nlt : ∀ {q : Int32}, 0 ≤ q.toInt → ¬ q < 0 := fun {q} h9 h8 => by
    have := ti_lt h8
    have h0 : (0 : Int32).toInt = 0 := rfl
    omega
  have hval : ∀ i, i < z.toNat → ∃ v : Int32, th_sl H a0 (x.toNat + i) = .int v := fun i hi => by
    have h6 := i5 (x.toNat + i) (by omega)
    unfold th_sat at h6
    rw [hk i hi] at h6
    obtain ⟨v, hv, -⟩ := h6
    exact ⟨v, hv⟩
  intro T hT X
  obtain ⟨-, k0, hk0, cm0, hkk0⟩ := (hK.2 0 _ rfl).1 n0 (th_sl H a0)
  obtain ⟨-, k1', hk1, cm1, hkk1⟩ := (hK.2 0 _ rfl).1 nd (th_sl H a)
  obtain ⟨vm', X', step⟩ := X.arraycopy hx hown (hts _ hlk) (hts _ k1) (hts _ k2) (hts _ k3) (src := a0) (dst := a) (cs := arrV (G.1.2.1 0) n0 (th_sl H a0)) (cd := arrV (G.1.2.1 0) nd (th_sl H a)) (srcPos := sp) (destPos := dp) (n := n) (by rw [hT]; exact hc0) (by rw [hT]; exact hc1)
    (fun _ h => by cases h) (fun _ h => by cases h) (fun h => by cases h) (fun h => by cases h) hk0 hk1 hkk0 hkk1 (by simp [refKind]) (nlt (by omega)) (nlt (by omega)) (nlt (by omega))
    (by rw [arrV_size]; omega)
    (by rw [arrV_size]; omega)
    (fun vm₁ _ i hi => by
      rw [hnn] at hi
      obtain ⟨v, hv⟩ := hval i hi
      have e : (arrV (G.1.2.1 0) n0 (th_sl H a0)).slots.getD (sp.toNatClampNeg + i) .null = .int v := by
        rw [Array.getD_eq_getD_getElem?, arrV_read _ _ (by omega), hspn, hv]
        rfl
      refine ⟨?_, ?_⟩
      · rw [e]
        rfl
      · rw [e]
        exact trivial)
    (g := F0 m pc ls (.int n :: .int dp :: .ref a :: .int sp :: .ref a0 :: rest)) rfl (by show ls.size = _; rw [hsz, hml]) (rest := rest) rfl (by rw [hb]; exact hdg) hframes (by show 2 * 0 + _ + _ ≤ _; omega)
  have e1 : copied (arrV (G.1.2.1 0) n0 (th_sl H a0)) (arrV (G.1.2.1 0) nd (th_sl H a)) sp dp n = arrV (G.1.2.1 0) nd (va_cpy (th_sl H a0) (th_sl H a) sp.toNatClampNeg dp.toNatClampNeg n.toNatClampNeg) := va_copied (fun z => z) (G.1.2.1 0) (G.1.2.1 0) (th_sl H a0) (th_sl H a) (by rw [hspn, hnn]; omega)
  rw [e1, hspn, hdpn, hnn] at X' step
  have hl : a < H.size := (Array.getElem?_eq_some_iff.mp hc1).1
  generalize hcell : arrV (G.1.2.1 0) nd (va_cpy (th_sl H a0) (th_sl H a) x.toNat y.toNat z.toNat) = cell at X' step
  have hheap : ((T.setVm vm').setCell a cell).heap = H.setIfInBounds a cell := by rw [← hT]; rfl
  have oq : ∀ q : Nat, q ≠ a → (H.setIfInBounds a cell)[q]? = H[q]? := fun q hq => by simp [Array.getElem?_setIfInBounds, Ne.symm hq]
  have ea : (H.setIfInBounds a cell)[a]? = some (arrV (G.1.2.1 0) nd (va_cpy (th_sl H a0) (th_sl H a) x.toNat y.toNat z.toNat)) := by rw [hcell]; simp [Array.getElem?_setIfInBounds, hl]
  have ez : (H.setIfInBounds a cell).size = H.size := by simp
  generalize H.setIfInBounds a cell = H1 at hheap oq ea ez
  have hsl : ∀ i, th_sl H1 a i = va_cpy (th_sl H a0) (th_sl H a) x.toNat y.toNat z.toNat i := fun i => by
    by_cases hi : i < nd
    · exact th_sl_at ea (arrV_read _ _ hi)
    · rw [th_sl_out ea (by omega)]
      unfold va_cpy
      rw [if_neg (by omega), th_sl_out hc1 (by omega)]
  have hln : th_ln H1 a = th_ln H a := by rw [th_ln_at ea, th_ln_at hc1, arrV_size, arrV_size]
  have hcp : th_Cp H H1 a0 a x.toNat y.toNat z.toNat := ⟨ez, oq, hsl, hln⟩
  have hI1 : th_I G Γ H1 := by
    intro a' r' o' d hg hd
    obtain ⟨g1, g2⟩ := hI a' r' o' d hg hd
    refine ⟨g1, ?_⟩
    by_cases hq : a' = a
    · subst hq
      rw [ha] at hg
      cases hg
      rw [hr] at hd
      cases hd
      refine ⟨nd, j1, j2, ?_, fun i hi => ?_⟩
      · rw [ea]
        exact congrArg some (th_arrV (fun i _ => (hsl i).symm))
      · rw [hsl i]
        unfold va_cpy
        split
        · rename_i hin
          have h8 := he (i - y.toNat) (th_sl H a0 (x.toNat + (i - y.toNat))) (by omega) (i5 _ (by omega))
          rw [show y.toNat + (i - y.toNat) = i by omega] at h8
          exact h8
        · exact j5 i hi
    · exact th_ok_kept g2 (oq a' hq)
  have hF9 : ∀ {Γ' : th_Ga} {L' : List (Nat × Nat)} {H' : Heap}, th_F G Γ' L' H' H → (Γ' a = (r, o) ∨ th_ro (Γ' a).1 = none) → th_in L' r 0 = true → th_F G Γ' L' H' H1 := by
    intro Γ' L' H' hF' hb hL'
    refine ⟨by rw [ez]; exact hF'.1, fun a' r' o' d hg hd => ?_⟩
    obtain ⟨a1, a2⟩ := hF'.2 a' r' o' d hg hd
    by_cases hq : a' = a
    · subst hq
      rcases hb with hb | hb
      · rw [hb] at hg
        cases hg
        rw [hr] at hd
        cases hd
        exact ⟨hln.trans a1, fun hf => by rw [hL'] at hf; cases hf⟩
      · rw [hg] at hb
        rw [hd] at hb
        cases hb
    · have e := oq a' hq
      refine ⟨(th_ln_kept e).trans a1, ?_⟩
      rcases d with ⟨k, fs⟩ | ⟨t, n1, n2, es⟩
      · exact fun x hx hf => (th_sl_kept e _).trans (a2 x hx hf)
      · exact fun hf i => (th_sl_kept e _).trans (a2 hf i)
  obtain ⟨t, a1, b1⟩ := kk H1 _ ⟨hI1, ⟨by rw [ez]; exact hS0.1, fun q g1 g2 => by
      rw [oq q (fun e => g2 (by rw [e]; exact hszA))]
      exact hS0.2.1 q g1 g2, fun q hq => by
      rcases List.mem_append.mp hq with h | h
      · exact hS0.2.2 q h
      · obtain ⟨z, -, hz⟩ := List.mem_map.mp h
        rw [← hz]
        exact hszA⟩, hF9 hF hb0 hL⟩ (hF9 th_F_rf (Or.inl ha) (by simp [th_in])) hcp _ hheap X'
  exact ⟨t, step t a1, b1⟩
end TR3
section TR4
variable {p : Program} {l : Launch} {e : Env} {R : Room} {s : State} {m : MethodId} {args : Array Value} {below : List Frame} {meth : Method} {c : Code} {H H0 : Heap} {locs : List Loc} {cells slots : Nat} {Q : State → Prop}
variable {cc : ByteArray} {pc : Nat} {ls : Array Slot} {rest : List Value} {G : th_G} {Γ Γ0 : th_Ga} {L : List (Nat × Nat)}
theorem ti_cmp (x y : Int64) : (-1 ≤ (lg_cmp x y).toInt ∧ (lg_cmp x y).toInt ≤ 1) ∧ ((lg_cmp x y).toInt = 0 ↔ x = y) := by
  unfold lg_cmp
  have h0 : (0 : Int32).toInt = 0 := rfl
  have h1 : (1 : Int32).toInt = 1 := rfl
  have h2 : (-1 : Int32).toInt = -1 := rfl
  split
  · rename_i h
    refine ⟨by omega, fun q => by omega, fun q => ?_⟩
    subst q
    exact absurd (Int64.lt_iff_toInt_lt.mp h) (by omega)
  · split
    · rename_i h
      refine ⟨by omega, fun q => h, fun q => by omega⟩
    · rename_i h
      refine ⟨by omega, fun q => by omega, fun q => absurd q h⟩
theorem tr_lcmp (hexec : p.tables.exec = Jvm.exec) (hb : c.code = cc) {x y : Int64} (hdg : decode cc pc = .ok (.lcmp, 1))
    (kk : ∀ z : Int32, (-1 ≤ z.toInt ∧ z.toInt ≤ 1) → (z.toInt = 0 ↔ x = y) → W p l e R s m args below meth c H locs cells slots Q (F0 m (pc + 1) ls (.int z :: rest))) : W p l e R s m args below meth c H locs cells slots Q (F0 m pc ls (.long y :: .long x :: rest)) :=
  W.lcmp hexec hb hdg (kk _ (ti_cmp x y).1 (ti_cmp x y).2)
theorem th_ialdS {nL : Nat} {own : String} (hC : th_C p s m args c cc nL own G) (hI : th_I G Γ H) {a r o t n1 n2 : Nat} {es : Nat → th_sp} (ha : Γ a = (r, o)) (hr : th_ro r = some (.inr (t, n1, n2, es))) (ht : (th_ty G.1.2.1)[t]? = some (G.1.2.1 t, .int)) {i : Int32} {b : Int} (hi0 : i.toInt = b) (h0 : 0 ≤ b) (h1 : b < (n1 : Int)) (he : (es b.toNat).1 = 0) (hdg : decode cc pc = .ok (.iaload, 1))
    (kk : ∀ x : Int32, th_sl H a b.toNat = .int x → th_sat Γ a (es b.toNat) (.int x) → W p l e R s m args below meth c H locs cells slots Q (F0 m (pc + 1) ls (.int x :: rest))) : W p l e R s m args below meth c H locs cells slots Q (F0 m pc ls (.int i :: .ref a :: rest)) := by
  have he' : es b.toNat = (0, (es b.toNat).2.1, (es b.toNat).2.2) := by rw [← he]
  refine th_ialdF hC hI ha hr ht hi0 h0 h1 he' hdg (fun x hx g1 g2 => kk x hx ?_)
  rw [he']
  exact ⟨x, rfl, g1, g2⟩
theorem th_esm1 (i : Nat) : (th_esm i).1 = 0 := by
  unfold th_esm
  split <;> rfl
theorem th_esm_ge {a i : Nat} {x : Int32} (h : th_sat Γ a (th_esm i) (.int x)) (hi : i % 8 ≠ 1) : 0 ≤ x.toInt := by
  unfold th_esm at h
  rw [if_neg hi] at h
  obtain ⟨y, hy, h1, -⟩ := h
  cases hy
  exact h1
theorem th_esm_st {a i : Nat} {x : Int32} (h : i % 8 = 1 ∨ 0 ≤ x.toInt) : th_sat Γ a (th_esm i) (.int x) := by
  unfold th_esm
  split
  · exact th_sIa
  · exact th_sI (by omega) (ti_hi x)
end TR4
section TR5
variable {p : Program} {l : Launch} {e : Env} {R : Room} {s : State} {m : MethodId} {args : Array Value} {below : List Frame} {meth : Method} {c : Code} {H H0 : Heap} {locs : List Loc} {cells slots : Nat} {Q : State → Prop}
variable {cc : ByteArray} {pc : Nat} {ls : Array Slot} {rest : List Value} {G : th_G} {Γ Γ0 : th_Ga} {L : List (Nat × Nat)}
theorem tr_mmin {nL : Nat} {own : String} (hC : th_C p s m args c cc nL own G) {index : Nat} (hlk : Cond.methodLink own index Lib.Math.min.name ∈ th_tb) (hsz : ls.size = nL) {x y : Int32} {a b : Int} (ha : x.toInt = a) (hy : y.toInt = b) (hframes : 1 ≤ R.frames) (hlocals : (rest.map fun v => v.category).sum + 13 ≤ R.locals) (hc : cells ≤ R.cells) (hs : slots ≤ R.slots) (hdg : decode cc pc = .ok (.invokestatic index, 3))
    (kk : ∀ z : Int32, (z.toInt ≤ a ∧ z.toInt ≤ b ∧ (z.toInt = a ∨ z.toInt = b)) → W p l e R s m args below meth c H locs cells slots Q (F0 m (pc + 3) ls (.int z :: rest))) : W p l e R s m args below meth c H locs cells slots Q (F0 m pc ls (.int y :: .int x :: rest)) := by
  obtain ⟨hx, hb, hml, hown, hts, -⟩ := hC
  refine va_mmin hx hb (hml.trans hsz.symm) hown (hts _ hlk) (hts _ kw_mins) (hts _ kw_mini) (hts _ kw_minc) hframes hlocals hc hs hdg (kk _ ?_)
  split
  · rename_i h; have := ti_lt h; omega
  · rename_i h; have := ti_nlt h; omega
theorem tr_mmax {nL : Nat} {own : String} (hC : th_C p s m args c cc nL own G) {index : Nat} (hlk : Cond.methodLink own index Lib.Math.max.name ∈ th_tb) (hsz : ls.size = nL) {x y : Int32} {a b : Int} (ha : x.toInt = a) (hy : y.toInt = b) (hframes : 1 ≤ R.frames) (hlocals : (rest.map fun v => v.category).sum + 13 ≤ R.locals) (hc : cells ≤ R.cells) (hs : slots ≤ R.slots) (hdg : decode cc pc = .ok (.invokestatic index, 3))
    (kk : ∀ z : Int32, (a ≤ z.toInt ∧ b ≤ z.toInt ∧ (z.toInt = a ∨ z.toInt = b)) → W p l e R s m args below meth c H locs cells slots Q (F0 m (pc + 3) ls (.int z :: rest))) : W p l e R s m args below meth c H locs cells slots Q (F0 m pc ls (.int y :: .int x :: rest)) := by
  obtain ⟨hx, hb, hml, hown, hts, -⟩ := hC
  refine va_mmax hx hb (hml.trans hsz.symm) hown (hts _ hlk) (hts _ kw_maxs) (hts _ kw_mini) (hts _ kw_maxc) hframes hlocals hc hs hdg (kk _ ?_)
  split
  · rename_i h; have := ti_lt h; omega
  · rename_i h; have := ti_nlt h; omega
end TR5
theorem th_sat_m {Γ : th_Ga} {a b : Nat} {q : th_sp} {v : Value} (hq : q.1 = 0) (h : th_sat Γ a q v) : th_sat Γ b q v := by
  unfold th_sat at h ⊢
  rw [hq] at h ⊢
  exact h
theorem th_fb {x : Int32} (h1 : 0 ≤ x.toInt) (h2 : x.toInt ≤ 1) : fits .boolean (.int x) = true := by
  have h := fits_narrow_boolean x
  rw [th_nb h1 h2] at h
  exact h
end
section
section TX
variable {G : th_G} {Γ : th_Ga} {H H1 H2 : Heap}
/-- of a floor: where x isn't NONE, y isn't below 0 -/
def th_XY (G : th_G) (H : Heap) (a : Nat) : Prop := ∀ (bx by_ : Nat), th_sl H a (G.1.1.2 1 3) = .ref bx → th_sl H a (G.1.1.2 1 4) = .ref by_ → ∀ c : Nat, c < 9 → th_sl H bx c ≠ .int (-1) → ∃ y : Int32, th_sl H by_ c = .int y ∧ 0 ≤ y.toInt
/-- the same of each step that is kept -/
def th_PS (H : Heap) (b : Nat) : Prop := ∀ u : Nat, u < 16 → ∀ c : Nat, c < 9 → th_sl H b (30 * u + 3 + c) ≠ .int (-1) → ∃ y : Int32, th_sl H b (30 * u + 12 + c) = .int y ∧ 0 ≤ y.toInt
def th_nq (a b : Nat) : Prop := a ≠ b
/-- a memo's rows: cells that nothing else names, as long as its bits say -/
def th_MA (G : th_G) (Γ : th_Ga) (H : Heap) (b t n : Nat) (f : Nat → Value) : Prop := G.1.2.2 ≤ b ∧ th_ro (Γ b).1 = none ∧ H[b]? = some (arrV (G.1.2.1 t) n f)
def th_MEo (G : th_G) (Γ : th_Ga) (H : Heap) (a n b1 b2 b3 b4 : Nat) : Prop := (n = 10 ∨ n = 12 ∨ n = 14) ∧ th_sl H a (G.1.1.2 3 0) = .int (nI n) ∧ th_sl H a (G.1.1.2 3 1) = .ref b1 ∧ th_sl H a (G.1.1.2 3 2) = .ref b2 ∧ th_sl H a (G.1.1.2 3 3) = .ref b3 ∧ th_sl H a (G.1.1.2 3 4) = .ref b4 ∧ (th_nq b1 b2 ∧ th_nq b1 b3 ∧ th_nq b1 b4 ∧ th_nq b2 b3 ∧ th_nq b2 b4 ∧ th_nq b3 b4) ∧
  (∃ f1 : Nat → Int64, th_MA G Γ H b1 1 (2 ^ n) (fun i => .long (f1 i))) ∧ (∃ f2 : Nat → Int32, th_MA G Γ H b2 0 (2 ^ n) (fun i => .int (f2 i))) ∧ (∃ f3 : Nat → Int32, th_MA G Γ H b3 0 (2 ^ n) (fun i => .int (f3 i))) ∧ (∃ f4 : Nat → Int32, th_MA G Γ H b4 0 (2 ^ (n - 1)) (fun i => .int (f4 i)) ∧ ∀ i, 0 ≤ (f4 i).toInt ∧ (f4 i).toInt < 2 ^ n) ∧ ∃ u : Int32, th_sl H a (G.1.1.2 3 5) = .int u ∧ 0 ≤ u.toInt ∧ u.toInt ≤ 2 ^ (n - 1)
/-- below the first U, each slot with a key is listed; what it says may be said -/
def th_MSu (P : Int → Int → Prop) (H : Heap) (n b1 b2 b4 : Nat) (U : Int) : Prop := ∀ (i : Nat) (x : Int64), i < 2 ^ n → th_sl H b1 i = .long x → x ≠ -1 → (∃ (j : Nat) (y : Int32), (j : Int) < U ∧ th_sl H b4 j = .int y ∧ y.toInt = (i : Int)) ∧ ∃ v : Int32, th_sl H b2 i = .int v ∧ P x.toInt v.toInt
def th_MS (G : th_G) (H : Heap) (a n b1 b2 b4 : Nat) : Prop := ∀ u : Int32, th_sl H a (G.1.1.2 3 5) = .int u → th_MSu (th_pm G) H n b1 b2 b4 u.toInt
def th_ME (G : th_G) (Γ : th_Ga) (H : Heap) (a n b1 b2 b3 b4 : Nat) : Prop := th_MEo G Γ H a n b1 b2 b3 b4 ∧ th_MS G H a n b1 b2 b4
theorem th_MSu_k {P : Int → Int → Prop} {n b1 b2 b4 : Nat} {U : Int} (e1 : H1[b1]? = H[b1]?) (e2 : H1[b2]? = H[b2]?) (e4 : H1[b4]? = H[b4]?) (h : th_MSu P H n b1 b2 b4 U) : th_MSu P H1 n b1 b2 b4 U := fun i x hi hx hn => by
  rw [th_sl_kept e1] at hx
  obtain ⟨⟨j, y, j1, j2, j3⟩, v, v1, v2⟩ := h i x hi hx hn
  exact ⟨⟨j, y, j1, (th_sl_kept e4 _).trans j2, j3⟩, v, (th_sl_kept e2 _).trans v1, v2⟩
/-- what isn't the system's own is as it was -/
def th_T (Γ : th_Ga) (H H1 : Heap) : Prop := ∀ q : Nat, th_ro (Γ q).1 = none → H1[q]? = H[q]?
theorem th_T_tr (h1 : th_T Γ H H1) (h2 : th_T Γ H1 H2) : th_T Γ H H2 := fun q hq => (h2 q hq).trans (h1 q hq)
theorem th_T_o {a r o : Nat} {d : th_De} (ha : Γ a = (r, o)) (hr : th_ro r = some d) (oq : ∀ q, q ≠ a → H1[q]? = H[q]?) : th_T Γ H H1 := fun q hq => oq q (fun e => by rw [e, ha] at hq; rw [hr] at hq; cases hq)
theorem th_T_s {a r o i : Nat} {d : th_De} {v : Value} (ha : Γ a = (r, o)) (hr : th_ro r = some d) (h : th_St H H1 a i v) : th_T Γ H H1 := th_T_o ha hr h.2.2.2.1
theorem th_T_c {a a0 r o x y z : Nat} {d : th_De} (ha : Γ a = (r, o)) (hr : th_ro r = some d) (h : th_Cp H H1 a0 a x y z) : th_T Γ H H1 := th_T_o ha hr h.2.1
def th_RC (G : th_G) (Γ : th_Ga) (H : Heap) : Prop := (∀ a o : Nat, Γ a = (3, o) → th_XY G H a) ∧ (∀ b o : Nat, (Γ b = (18, o) ∨ Γ b = (19, o)) → th_PS H b) ∧ (∀ a o : Nat, Γ a = (12, o) → ∃ n b1 b2 b3 b4 : Nat, th_ME G Γ H a n b1 b2 b3 b4) ∧ ∀ a a' o o' : Nat, Γ a = (12, o) → Γ a' = (12, o') → a = a'
/-- what the relations of the class read -/
def th_RCs : List (Nat × Nat) := [(3, 3), (3, 4), (7, 0), (8, 0), (18, 0), (19, 0), (12, 0), (12, 1), (12, 2), (12, 3), (12, 4), (12, 5)]
theorem th_ns {L : List (Nat × Nat)} (hs : L.all (fun q => !th_RCs.contains q) = true) {r j : Nat} (hm : th_RCs.contains (r, j) = true) : th_in L r j = false := by
  cases h : th_in L r j with
  | false => rfl
  | true =>
    have h2 := List.all_eq_true.mp hs (r, j) (by simpa [th_in] using h)
    rw [hm] at h2
    cases h2
theorem th_fo (hI : th_I G Γ H) {a r o k j r2 : Nat} {fs : List th_sp} {hi : Int} (ha : Γ a = (r, o)) (hr : th_ro r = some (.inl (k, fs))) (hq : fs[j]? = some (4, (r2 : Int), hi)) : ∃ b : Nat, th_sl H a (G.1.1.2 k j) = .ref b ∧ Γ b = (r2, a) := by
  obtain ⟨-, -, h⟩ := hI a r o _ ha hr
  obtain ⟨b, h1, h2⟩ := h j _ hq
  exact ⟨b, h1, by simpa using h2⟩
theorem th_ME_keep {L : List (Nat × Nat)} (hF : th_F G Γ L H H1) (hT : th_T Γ H H1) {a o n b1 b2 b3 b4 : Nat} (ha : Γ a = (12, o)) (h0 : th_in L 12 0 = false) (h1 : th_in L 12 1 = false) (h2 : th_in L 12 2 = false) (h3 : th_in L 12 3 = false) (h4 : th_in L 12 4 = false) (h5 : th_in L 12 5 = false) (h : th_ME G Γ H a n b1 b2 b3 b4) : th_ME G Γ H1 a n b1 b2 b3 b4 := by
  obtain ⟨⟨hn, m0, m1, m2, m3, m4, hd, ⟨f1, g1, k1, e1⟩, ⟨f2, g2, k2, e2⟩, ⟨f3, g3, k3, e3⟩, ⟨f4, ⟨g4, k4, e4⟩, r4⟩, u, mu, hu⟩, ms⟩ := h
  exact ⟨⟨hn, (th_F_o hF ha ro_12 (j := 0) (by decide) h0).trans m0, (th_F_o hF ha ro_12 (j := 1) (by decide) h1).trans m1, (th_F_o hF ha ro_12 (j := 2) (by decide) h2).trans m2, (th_F_o hF ha ro_12 (j := 3) (by decide) h3).trans m3, (th_F_o hF ha ro_12 (j := 4) (by decide) h4).trans m4, hd, ⟨f1, g1, k1, (hT b1 k1).trans e1⟩, ⟨f2, g2, k2, (hT b2 k2).trans e2⟩, ⟨f3, g3, k3, (hT b3 k3).trans e3⟩, ⟨f4, ⟨g4, k4, (hT b4 k4).trans e4⟩, r4⟩, u, (th_F_o hF ha ro_12 (j := 5) (by decide) h5).trans mu, hu⟩, fun u' hu' => th_MSu_k (hT b1 k1) (hT b2 k2) (hT b4 k4) (ms u' ((th_F_o hF ha ro_12 (j := 5) (by decide) h5).symm.trans hu'))⟩
theorem th_RC_F {L : List (Nat × Nat)} (hI : th_I G Γ H1) (hR : th_RC G Γ H) (hF : th_F G Γ L H H1) (hT : th_T Γ H H1) (hs : L.all (fun q => !th_RCs.contains q) = true) : th_RC G Γ H1 := by
  obtain ⟨r1, r2, r3, r4⟩ := hR
  refine ⟨fun a o ha => ?_, fun b o hb => ?_, fun a o ha => ?_, r4⟩
  · obtain ⟨bx, m1, g1⟩ := th_fo hI ha ro_3 (j := 3) (r2 := 7) rfl
    obtain ⟨by_, m2, g2⟩ := th_fo hI ha ro_3 (j := 4) (r2 := 8) rfl
    intro bx' by' e1 e2 c hc hne
    cases m1.symm.trans e1
    cases m2.symm.trans e2
    rw [th_F_a hF g1 ro_7 (th_ns hs rfl)] at hne
    rw [th_F_a hF g2 ro_8 (th_ns hs rfl)]
    exact r1 a o ha bx by_ ((th_F_o hF ha ro_3 (j := 3) (by decide) (th_ns hs rfl)).symm.trans m1) ((th_F_o hF ha ro_3 (j := 4) (by decide) (th_ns hs rfl)).symm.trans m2) c hc hne
  · have hk : ∀ i, th_sl H1 b i = th_sl H b i := by
      rcases hb with hb | hb
      · exact th_F_a hF hb ro_18 (th_ns hs rfl)
      · exact th_F_a hF hb ro_19 (th_ns hs rfl)
    intro u hu c hc
    rw [hk, hk]
    exact r2 b o hb u hu c hc
  · obtain ⟨n, b1, b2, b3, b4, h⟩ := r3 a o ha
    exact ⟨n, b1, b2, b3, b4, th_ME_keep hF hT ha (th_ns hs rfl) (th_ns hs rfl) (th_ns hs rfl) (th_ns hs rfl) (th_ns hs rfl) (th_ns hs rfl) h⟩
/-- the floors apart, all else of the class's relations is kept by what x and y are stored -/
theorem th_RC_q {L : List (Nat × Nat)} (hI : th_I G Γ H1) (hR : th_RC G Γ H) (hF : th_F G Γ L H H1) (hT : th_T Γ H H1) (hs : L.all (fun q => [(7, 0), (8, 0)].contains q || !th_RCs.contains q) = true) (hxy : ∀ a o : Nat, Γ a = (3, o) → th_XY G H1 a) : th_RC G Γ H1 := by
  have hn : ∀ {r j : Nat}, th_RCs.contains (r, j) = true → [(7, 0), (8, 0)].contains (r, j) = false → th_in L r j = false := by
    intro r j hm hq
    cases h : th_in L r j with
    | false => rfl
    | true =>
      have h2 := List.all_eq_true.mp hs (r, j) (by simpa [th_in] using h)
      rw [hm, hq] at h2
      cases h2
  obtain ⟨r1, r2, r3, r4⟩ := hR
  refine ⟨hxy, fun b o hb => ?_, fun a o ha => ?_, r4⟩
  · have hk : ∀ i, th_sl H1 b i = th_sl H b i := by
      rcases hb with hb | hb
      · exact th_F_a hF hb ro_18 (hn rfl rfl)
      · exact th_F_a hF hb ro_19 (hn rfl rfl)
    intro u hu c hc
    rw [hk, hk]
    exact r2 b o hb u hu c hc
  · obtain ⟨n, b1, b2, b3, b4, h⟩ := r3 a o ha
    exact ⟨n, b1, b2, b3, b4, th_ME_keep hF hT ha (hn rfl rfl) (hn rfl rfl) (hn rfl rfl) (hn rfl rfl) (hn rfl rfl) (hn rfl rfl) h⟩
/-- two stores, into x and then into y of one floor at one place -/
theorem th_RC_xy (hI : th_I G Γ H2) (hR : th_RC G Γ H) {a o bx by_ i : Nat} {v w : Int32} (ha : Γ a = (3, o)) (gx : Γ bx = (7, a)) (gy : Γ by_ = (8, a)) (mx : th_sl H a (G.1.1.2 1 3) = .ref bx) (my : th_sl H1 a (G.1.1.2 1 4) = .ref by_) (h1 : th_St H H1 bx i (.int v)) (h2 : th_St H1 H2 by_ i (.int w)) (hF1 : th_F G Γ [(7, 0)] H H1) (hF2 : th_F G Γ [(8, 0)] H1 H2) (hc : v.toInt = -1 ∨ 0 ≤ w.toInt) : th_RC G Γ H2 := by
  have hF : th_F G Γ [(7, 0), (8, 0)] H H2 := th_F_tr (th_F_tr th_F_rf hF1 (by decide)) hF2 (by decide)
  refine th_RC_q hI hR hF (th_T_tr (th_T_s gx ro_7 h1) (th_T_s gy ro_8 h2)) (by decide) fun a' o' ha' => ?_
  obtain ⟨cx, m1, g1⟩ := th_fo hI ha' ro_3 (j := 3) (r2 := 7) rfl
  obtain ⟨cy, m2, g2⟩ := th_fo hI ha' ro_3 (j := 4) (r2 := 8) rfl
  have m1' := (th_F_o hF ha' ro_3 (j := 3) (by decide) (by decide)).symm.trans m1
  have m2' := (th_F_o hF ha' ro_3 (j := 4) (by decide) (by decide)).symm.trans m2
  intro bx' by' e1 e2 c hcc hne
  cases m1.symm.trans e1
  cases m2.symm.trans e2
  obtain ⟨z1, s1, s2, s3, s4⟩ := h1
  obtain ⟨z2, t1, t2, t3, t4⟩ := h2
  have nxy : cx ≠ by_ := fun e => by rw [e, gy] at g1; cases g1
  have nyx : cy ≠ bx := fun e => by rw [e, gx] at g2; cases g2
  have ex : th_sl H2 cx c = th_sl H1 cx c := th_sl_kept (t3 cx nxy) c
  have ey : th_sl H1 cy c = th_sl H cy c := th_sl_kept (s3 cy nyx) c
  by_cases hq : a' = a
  · subst hq
    cases m1'.symm.trans mx
    have my' := (th_F_o hF1 ha ro_3 (j := 4) (by decide) (by decide)).symm.trans my
    cases m2'.symm.trans my'
    by_cases hi : c = i
    · subst hi
      rw [ex, s1] at hne
      refine ⟨w, t1, ?_⟩
      rcases hc with hc | hc
      · exact absurd (congrArg Value.int (Int32.toInt_inj.mp (by rw [hc]; rfl))) hne
      · exact hc
    · rw [ex, s2 c hi] at hne
      rw [t2 c hi, ey]
      exact hR.1 a' o' ha' _ _ m1' m2' c hcc hne
  · have nx : cx ≠ bx := fun e => by rw [e, gx] at g1; exact hq (Prod.mk.inj g1).2.symm
    have ny : cy ≠ by_ := fun e => by rw [e, gy] at g2; exact hq (Prod.mk.inj g2).2.symm
    rw [ex, th_sl_kept (s3 cx nx)] at hne
    rw [th_sl_kept (t3 cy ny), ey]
    exact hR.1 a' o' ha' _ _ m1' m2' c hcc hne
/-- a store into x where x wasn't NONE -/
theorem th_RC_x (hI : th_I G Γ H1) (hR : th_RC G Γ H) {a o bx i : Nat} {v v0 : Int32} (ha : Γ a = (3, o)) (gx : Γ bx = (7, a)) (mx : th_sl H a (G.1.1.2 1 3) = .ref bx) (h1 : th_St H H1 bx i (.int v)) (hF : th_F G Γ [(7, 0)] H H1) (h0 : th_sl H bx i = .int v0) (hc : v0.toInt ≠ -1) : th_RC G Γ H1 := by
  refine th_RC_q hI hR hF (th_T_s gx ro_7 h1) (by decide) fun a' o' ha' => ?_
  obtain ⟨cx, m1, g1⟩ := th_fo hI ha' ro_3 (j := 3) (r2 := 7) rfl
  obtain ⟨cy, m2, g2⟩ := th_fo hI ha' ro_3 (j := 4) (r2 := 8) rfl
  have m1' := (th_F_o hF ha' ro_3 (j := 3) (by decide) (by decide)).symm.trans m1
  have m2' := (th_F_o hF ha' ro_3 (j := 4) (by decide) (by decide)).symm.trans m2
  intro bx' by' e1 e2 c hcc hne
  cases m1.symm.trans e1
  cases m2.symm.trans e2
  obtain ⟨z1, s1, s2, s3, s4⟩ := h1
  have nyx : cy ≠ bx := fun e => by rw [e, gx] at g2; cases g2
  rw [th_sl_kept (s3 cy nyx)]
  refine hR.1 a' o' ha' cx cy m1' m2' c hcc ?_
  by_cases hq : a' = a
  · subst hq
    cases m1'.symm.trans mx
    by_cases hi : c = i
    · subst hi
      rw [h0]
      intro e
      cases e
      exact hc rfl
    · rw [s2 c hi] at hne
      exact hne
  · have nx : cx ≠ bx := fun e => by rw [e, gx] at g1; exact hq (Prod.mk.inj g1).2.symm
    rw [th_sl_kept (s3 cx nx)] at hne
    exact hne
end TX
section TX2
variable {G : th_G} {Γ : th_Ga} {H H1 H2 H3 : Heap}
theorem th_XYu (hR : th_RC G Γ H) {a o bx by_ : Nat} {c : Int} {v y : Int32} (ha : Γ a = (3, o)) (mx : th_sl H a (G.1.1.2 1 3) = .ref bx) (my : th_sl H a (G.1.1.2 1 4) = .ref by_) (h0 : 0 ≤ c) (h1 : c < 9) (hv : th_sl H bx c.toNat = .int v) (hne : v.toInt ≠ -1) (hy : th_sl H by_ c.toNat = .int y) : 0 ≤ y.toInt := by
  obtain ⟨y', e1, e2⟩ := hR.1 a o ha bx by_ mx my c.toNat (by omega) (by rw [hv]; intro e; cases e; exact hne rfl)
  cases hy.symm.trans e1
  exact e2
end TX2
section TX3
variable {G : th_G} {Γ : th_Ga} {H H1 H2 H3 : Heap}
/-- a floor's x and y are set from a row of places where x NONE goes with all, else y not below 0 -/
theorem th_RC_g (hI : th_I G Γ H2) (hR : th_RC G Γ H) {a o tx ty : Nat} {fx fy : Nat → Value} (ha : Γ a = (3, o)) (gx : Γ tx = (7, a)) (gy : Γ ty = (8, a)) (mx : th_sl H a (G.1.1.2 1 3) = .ref tx) (my : th_sl H1 a (G.1.1.2 1 4) = .ref ty)
    (hx : ∀ c, c < 9 → th_sl H1 tx c = fx c) (o1 : ∀ q, q ≠ tx → H1[q]? = H[q]?) (hy : ∀ c, c < 9 → th_sl H2 ty c = fy c) (o2 : ∀ q, q ≠ ty → H2[q]? = H1[q]?) (hF1 : th_F G Γ [(7, 0)] H H1) (hF2 : th_F G Γ [(8, 0)] H1 H2) (hs : ∀ c, c < 9 → fx c ≠ .int (-1) → ∃ y : Int32, fy c = .int y ∧ 0 ≤ y.toInt) : th_RC G Γ H2 := by
  have hF : th_F G Γ [(7, 0), (8, 0)] H H2 := th_F_tr (th_F_tr th_F_rf hF1 (by decide)) hF2 (by decide)
  refine th_RC_q hI hR hF (th_T_tr (th_T_o gx ro_7 o1) (th_T_o gy ro_8 o2)) (by decide) fun a' o' ha' => ?_
  obtain ⟨cx, m1, g1⟩ := th_fo hI ha' ro_3 (j := 3) (r2 := 7) rfl
  obtain ⟨cy, m2, g2⟩ := th_fo hI ha' ro_3 (j := 4) (r2 := 8) rfl
  have m1' := (th_F_o hF ha' ro_3 (j := 3) (by decide) (by decide)).symm.trans m1
  have m2' := (th_F_o hF ha' ro_3 (j := 4) (by decide) (by decide)).symm.trans m2
  intro bx' by' e1 e2 c hcc hne
  cases m1.symm.trans e1
  cases m2.symm.trans e2
  have nxy : cx ≠ ty := fun e => by rw [e, gy] at g1; cases g1
  have nyx : cy ≠ tx := fun e => by rw [e, gx] at g2; cases g2
  have ex : th_sl H2 cx c = th_sl H1 cx c := th_sl_kept (o2 cx nxy) c
  by_cases hq : a' = a
  · subst hq
    cases m1'.symm.trans mx
    have my' := (th_F_o hF1 ha ro_3 (j := 4) (by decide) (by decide)).symm.trans my
    cases m2'.symm.trans my'
    rw [ex, hx c hcc] at hne
    rw [hy c hcc]
    exact hs c hcc hne
  · have nx : cx ≠ tx := fun e => by rw [e, gx] at g1; exact hq (Prod.mk.inj g1).2.symm
    have ny : cy ≠ ty := fun e => by rw [e, gy] at g2; exact hq (Prod.mk.inj g2).2.symm
    rw [ex, th_sl_kept (o1 cx nx)] at hne
    rw [th_sl_kept (o2 cy ny), th_sl_kept (o1 cy nyx)]
    exact hR.1 a' o' ha' cx cy m1' m2' c hcc hne
theorem th_cp0 {a0 a : Nat} (h : th_Cp H H1 a0 a 0 0 9) {c : Nat} (hc : c < 9) : th_sl H1 a c = th_sl H a0 c := by
  rw [h.2.2.1 c]
  unfold va_cpy
  rw [if_pos (by omega)]
  congr 1
  omega
theorem th_RC_cp (hI : th_I G Γ H2) (hR : th_RC G Γ H) {a b o o' tx ox ty oy : Nat} (ha : Γ a = (3, o)) (hb : Γ b = (3, o')) (gx : Γ tx = (7, a)) (gy : Γ ty = (8, a)) (gox : Γ ox = (7, b)) (goy : Γ oy = (8, b)) (mx : th_sl H a (G.1.1.2 1 3) = .ref tx) (my : th_sl H1 a (G.1.1.2 1 4) = .ref ty) (mox : th_sl H b (G.1.1.2 1 3) = .ref ox) (moy : th_sl H1 b (G.1.1.2 1 4) = .ref oy)
    (c1 : th_Cp H H1 ox tx 0 0 9) (c2 : th_Cp H1 H2 oy ty 0 0 9) (hF1 : th_F G Γ [(7, 0)] H H1) (hF2 : th_F G Γ [(8, 0)] H1 H2) : th_RC G Γ H2 := by
  refine th_RC_g hI hR ha gx gy mx my (fx := th_sl H ox) (fy := th_sl H1 oy) (fun c hc => th_cp0 c1 hc) c1.2.1 (fun c hc => th_cp0 c2 hc) c2.2.1 hF1 hF2 fun c hc hne => ?_
  rw [th_F_a hF1 goy ro_8 (by decide)]
  exact hR.1 b o' hb ox oy mox ((th_F_o hF1 hb ro_3 (j := 4) (by decide) (by decide)).symm.trans moy) c hc hne
/-- what is kept of steps apart, all else of the class's relations -/
theorem th_RC_ps {L : List (Nat × Nat)} (hI : th_I G Γ H1) (hR : th_RC G Γ H) (hF : th_F G Γ L H H1) (hT : th_T Γ H H1) (hs : L.all (fun q => [(18, 0), (19, 0)].contains q || !th_RCs.contains q) = true) (hps : ∀ b o : Nat, (Γ b = (18, o) ∨ Γ b = (19, o)) → th_PS H1 b) : th_RC G Γ H1 := by
  have hn : ∀ {r j : Nat}, th_RCs.contains (r, j) = true → [(18, 0), (19, 0)].contains (r, j) = false → th_in L r j = false := by
    intro r j hm hq
    cases h : th_in L r j with
    | false => rfl
    | true =>
      have h2 := List.all_eq_true.mp hs (r, j) (by simpa [th_in] using h)
      rw [hm, hq] at h2
      cases h2
  obtain ⟨r1, r2, r3, r4⟩ := hR
  refine ⟨fun a o ha => ?_, hps, fun a o ha => ?_, r4⟩
  · obtain ⟨bx, m1, g1⟩ := th_fo hI ha ro_3 (j := 3) (r2 := 7) rfl
    obtain ⟨by_, m2, g2⟩ := th_fo hI ha ro_3 (j := 4) (r2 := 8) rfl
    intro bx' by' e1 e2 c hc hne
    cases m1.symm.trans e1
    cases m2.symm.trans e2
    rw [th_F_a hF g1 ro_7 (hn rfl rfl)] at hne
    rw [th_F_a hF g2 ro_8 (hn rfl rfl)]
    exact r1 a o ha bx by_ ((th_F_o hF ha ro_3 (j := 3) (by decide) (hn rfl rfl)).symm.trans m1) ((th_F_o hF ha ro_3 (j := 4) (by decide) (hn rfl rfl)).symm.trans m2) c hc hne
  · obtain ⟨n, b1, b2, b3, b4, h⟩ := r3 a o ha
    exact ⟨n, b1, b2, b3, b4, th_ME_keep hF hT ha (hn rfl rfl) (hn rfl rfl) (hn rfl rfl) (hn rfl rfl) (hn rfl rfl) (hn rfl rfl) h⟩
theorem th_RC_p {L : List (Nat × Nat)} (hI : th_I G Γ H1) (hR : th_RC G Γ H) (hF : th_F G Γ L H H1) (hT : th_T Γ H H1) (hs : L.all (fun q => [(18, 0), (19, 0)].contains q || !th_RCs.contains q) = true) {b : Nat} (oq : ∀ q, q ≠ b → H1[q]? = H[q]?) (hnew : th_PS H1 b) : th_RC G Γ H1 := by
  refine th_RC_ps hI hR hF hT hs fun b' o hb' => ?_
  by_cases hq : b' = b
  · rw [hq]; exact hnew
  · have hk : ∀ i, th_sl H1 b' i = th_sl H b' i := th_sl_kept (oq b' hq)
    intro u hu c hc
    rw [hk, hk]
    exact hR.2.1 b' o hb' u hu c hc
theorem th_PS_shift {b : Nat} (h : th_PS H b) (cp : th_Cp H H1 b b 30 0 450) : th_PS H1 b := by
  intro u hu c hc
  rw [cp.2.2.1, cp.2.2.1]
  unfold va_cpy
  by_cases h9 : u < 15
  · rw [if_pos (by omega), if_pos (by omega)]
    have := h (u + 1) (by omega) c hc
    rw [show 30 * (u + 1) + 3 + c = 30 + (30 * u + 3 + c - 0) by omega, show 30 * (u + 1) + 12 + c = 30 + (30 * u + 12 + c - 0) by omega] at this
    exact this
  · rw [if_neg (by omega), if_neg (by omega)]
    exact h u hu c hc
theorem th_PS_st {b i : Nat} {v : Value} (h : th_PS H b) (st : th_St H H1 b i v) (hi : i % 30 < 3 ∨ 21 ≤ i % 30) : th_PS H1 b := by
  intro u hu c hc
  rw [st.2.2.1 _ (by omega), st.2.2.1 _ (by omega)]
  exact h u hu c hc
theorem th_PS_cpo {b a0 dp : Nat} (h : th_PS H b) (cp : th_Cp H H1 a0 b 0 dp 9) (hd : dp % 30 = 21) : th_PS H1 b := by
  intro u hu c hc
  rw [cp.2.2.1, cp.2.2.1]
  unfold va_cpy
  rw [if_neg (by omega), if_neg (by omega)]
  exact h u hu c hc
theorem th_PS_all {b b0 : Nat} (h : th_PS H b0) (cp : th_Cp H H1 b0 b 0 0 480) : th_PS H1 b := by
  intro u hu c hc
  rw [cp.2.2.1, cp.2.2.1]
  unfold va_cpy
  rw [if_pos (by omega), if_pos (by omega), Nat.sub_zero, Nat.sub_zero, Nat.zero_add, Nat.zero_add]
  exact h u hu c hc
theorem th_PS_xy {b fa ga k d1 d2 : Nat} (h : th_PS H b) (c1 : th_Cp H H1 fa b 0 d1 9) (h1 : d1 = 30 * k + 3) (c2 : th_Cp H1 H2 ga b 0 d2 9) (h2 : d2 = 30 * k + 12) (hs : ∀ c, c < 9 → th_sl H fa c ≠ .int (-1) → ∃ y : Int32, th_sl H1 ga c = .int y ∧ 0 ≤ y.toInt) : th_PS H2 b := by
  intro u hu c hc
  rw [c2.2.2.1, c2.2.2.1]
  unfold va_cpy
  by_cases h9 : u = k
  · subst h9
    rw [if_neg (by omega), if_pos (by omega), c1.2.2.1]
    unfold va_cpy
    rw [if_pos (by omega), show 0 + (30 * u + 3 + c - d1) = c by omega, show 0 + (30 * u + 12 + c - d2) = c by omega]
    exact hs c hc
  · rw [if_neg (by omega), if_neg (by omega), c1.2.2.1, c1.2.2.1]
    unfold va_cpy
    rw [if_neg (by omega), if_neg (by omega)]
    exact h u hu c hc
theorem th_RC_tb (hI : th_I G Γ H2) (hR : th_RC G Γ H) {a o tx ty b ob k d1 d2 : Nat} (ha : Γ a = (3, o)) (gx : Γ tx = (7, a)) (gy : Γ ty = (8, a)) (gb : Γ b = (18, ob)) (mx : th_sl H a (G.1.1.2 1 3) = .ref tx) (my : th_sl H1 a (G.1.1.2 1 4) = .ref ty)
    (c1 : th_Cp H H1 b tx d1 0 9) (h1 : d1 = 30 * k + 3) (hk : k < 16) (c2 : th_Cp H1 H2 b ty d2 0 9) (h2 : d2 = 30 * k + 12) (hF1 : th_F G Γ [(7, 0)] H H1) (hF2 : th_F G Γ [(8, 0)] H1 H2) : th_RC G Γ H2 := by
  refine th_RC_g hI hR ha gx gy mx my (fx := fun c => th_sl H b (30 * k + 3 + c)) (fy := fun c => th_sl H b (30 * k + 12 + c)) (fun c hc => ?_) c1.2.1 (fun c hc => ?_) c2.2.1 hF1 hF2 fun c hc hne => hR.2.1 b ob (Or.inl gb) k hk c hc hne
  · rw [c1.2.2.1]
    unfold va_cpy
    rw [if_pos (by omega), h1, Nat.sub_zero]
  · rw [c2.2.2.1]
    unfold va_cpy
    rw [if_pos (by omega), h2, Nat.sub_zero, th_F_a hF1 gb ro_18 (by decide)]
end TX3
end
section
theorem wb_tb (n : Nat) : (lN n).toBitVec = BitVec.ofNat 64 n := rfl
theorem wb_inj {a b : Int64} (h : a.toBitVec = b.toBitVec) : a = b := Int64.toBitVec_inj.mp h
theorem wb_tn {n : Nat} (h : n < 2 ^ 64) : (lN n).toBitVec.toNat = n := by rw [wb_tb, BitVec.toNat_ofNat, Nat.mod_eq_of_lt h]
theorem wb_of (x : Int64) : ∃ n, n < 2 ^ 64 ∧ x = lN n := ⟨x.toBitVec.toNat, x.toBitVec.isLt, wb_inj (by rw [wb_tb]; simp)⟩
theorem wb_of32 (x : Int32) : ∃ n, n < 2 ^ 32 ∧ x = nI n := ⟨x.toBitVec.toNat, x.toBitVec.isLt, Int32.toBitVec_inj.mp (by show _ = BitVec.ofNat 32 _; simp)⟩
theorem wb_c : ∀ k, k < 64 → ((nI k).toInt64 &&& 63) = lN k := by decide +kernel
theorem wb_cu : ∀ k, k < 64 → ((nI k).toInt64.toUInt64 &&& Int64.toUInt64 63) = UInt64.ofNat k := by decide +kernel
theorem wb_sm : ∀ k, k < 64 → (BitVec.ofNat 64 k).smod 64 = BitVec.ofNat 64 k := by decide +kernel
theorem wb_pw {a b : Nat} (h : a ≤ b) : 2 ^ b = 2 ^ a * 2 ^ (b - a) := by rw [← Nat.pow_add]; congr 1; omega
theorem wb_lt2 {a b : Nat} (h : a < b) : 2 ^ a < 2 ^ b := Nat.pow_lt_pow_right (by decide) h
theorem wb_mod (n : Nat) : lN n = lN (n % 2 ^ 64) := wb_inj (by rw [wb_tb, wb_tb]; apply BitVec.eq_of_toNat_eq; rw [BitVec.toNat_ofNat, BitVec.toNat_ofNat, Nat.mod_mod])
theorem wb_shr {n k : Nat} (hn : n < 2 ^ 64) (hk : k < 64) : ((lN n).toUInt64 >>> ((nI k).toInt64.toUInt64 &&& Int64.toUInt64 63)).toInt64 = lN (n / 2 ^ k) := by
  rw [wb_cu k hk]
  apply wb_inj
  apply BitVec.eq_of_toNat_eq
  show ((lN n).toUInt64 >>> UInt64.ofNat k).toNat = (BitVec.ofNat 64 _).toNat
  have h1 : (UInt64.ofNat k).toNat = k := by
    show (BitVec.ofNat 64 k).toNat = k
    rw [BitVec.toNat_ofNat, Nat.mod_eq_of_lt (by omega)]
  have h2 : (lN n).toUInt64.toNat = n := wb_tn hn
  rw [UInt64.toNat_shiftRight, h1, h2, Nat.mod_eq_of_lt hk, Nat.shiftRight_eq_div_pow, BitVec.toNat_ofNat, Nat.mod_eq_of_lt (Nat.lt_of_le_of_lt (Nat.div_le_self _ _) hn)]
theorem wb_shl (n : Nat) {k : Nat} (hk : k < 64) : lN n <<< ((nI k).toInt64 &&& 63) = lN (n * 2 ^ k) := by
  rw [wb_c k hk]
  apply wb_inj
  rw [Int64.toBitVec_shiftLeft, wb_tb, wb_tb, wb_tb, wb_sm k hk]
  apply BitVec.eq_of_toNat_eq
  rw [BitVec.shiftLeft_eq', BitVec.toNat_shiftLeft, BitVec.toNat_ofNat, BitVec.toNat_ofNat, BitVec.toNat_ofNat, Nat.mod_eq_of_lt (show k < 2 ^ 64 by omega), Nat.shiftLeft_eq, Nat.mul_mod, Nat.mod_mod, ← Nat.mul_mod]
theorem wb_and {a b : Nat} (ha : a < 2 ^ 64) (hb : b < 2 ^ 64) : lN a &&& lN b = lN (a &&& b) := by
  apply wb_inj
  rw [Int64.toBitVec_and, wb_tb, wb_tb, wb_tb]
  apply BitVec.eq_of_toNat_eq
  rw [BitVec.toNat_and, BitVec.toNat_ofNat, BitVec.toNat_ofNat, BitVec.toNat_ofNat, Nat.mod_eq_of_lt ha, Nat.mod_eq_of_lt hb, Nat.mod_eq_of_lt (Nat.and_lt_two_pow _ hb)]
theorem wb_or {a b : Nat} (ha : a < 2 ^ 64) (hb : b < 2 ^ 64) : lN a ||| lN b = lN (a ||| b) := by
  apply wb_inj
  rw [Int64.toBitVec_or, wb_tb, wb_tb, wb_tb]
  apply BitVec.eq_of_toNat_eq
  rw [BitVec.toNat_or, BitVec.toNat_ofNat, BitVec.toNat_ofNat, BitVec.toNat_ofNat, Nat.mod_eq_of_lt ha, Nat.mod_eq_of_lt hb, Nat.mod_eq_of_lt (Nat.or_lt_two_pow ha hb)]
theorem wb_mask {n k : Nat} (hn : n < 2 ^ 64) (hk : k < 64) : lN n &&& lN (2 ^ k - 1) = lN (n % 2 ^ k) := by
  rw [wb_and hn (by have := wb_lt2 hk; omega), Nat.and_two_pow_sub_one_eq_mod]
theorem wb_a1 {n : Nat} (hn : n < 2 ^ 64) : lN n &&& 1 = lN (n % 2) := wb_mask (k := 1) hn (by decide)
theorem wb_bit {n k : Nat} (hn : n < 2 ^ 64) (hk : k < 64) : ((lN n).toUInt64 >>> ((nI k).toInt64.toUInt64 &&& Int64.toUInt64 63)).toInt64 &&& 1 = lN (n / 2 ^ k % 2) := by
  rw [wb_shr hn hk, wb_a1 (Nat.lt_of_le_of_lt (Nat.div_le_self _ _) hn)]
section TM
variable {p : Program} {l : Launch} {e : Env} {R : Room} {s : State} {m : MethodId} {args : Array Value} {below : List Frame} {meth : Method} {c : Code} {H H0 H1 : Heap} {locs : List Loc} {cells slots : Nat} {Q : State → Prop}
variable {cc : ByteArray} {pc : Nat} {ls : Array Slot} {rest : List Value} {G : th_G} {Γ Γ0 : th_Ga} {L : List (Nat × Nat)}
theorem tm_B (hB : th_B G Γ Γ L H0 H locs) {b i : Nat} (hu : th_ro (Γ b).1 = none) (hsz : G.1.2.2 ≤ b) (z : H1.size = H.size) (oq : ∀ q, q ≠ b → H1[q]? = H[q]?) : th_B G Γ Γ L H0 H1 (locs ++ [⟨b, i⟩]) := by
  obtain ⟨hI, hS, hF⟩ := hB
  have hne : ∀ (a r o : Nat) (d : th_De), Γ a = (r, o) → th_ro r = some d → a ≠ b := fun a r o d hg hd e => by
    rw [← e, hg] at hu
    rw [hd] at hu
    cases hu
  refine ⟨fun a r o d hg hd => ⟨(hI a r o d hg hd).1, th_ok_kept (hI a r o d hg hd).2 (oq a (hne a r o d hg hd))⟩, hS.put z oq hsz, by rw [z]; exact hF.1, fun a r o d hg hd => ?_⟩
  obtain ⟨a1, a2⟩ := hF.2 a r o d hg hd
  have e := oq a (hne a r o d hg hd)
  refine ⟨(th_ln_kept e).trans a1, ?_⟩
  rcases d with ⟨k, fs⟩ | ⟨t, n1, n2, es⟩
  · exact fun x hx hf => (th_sl_kept e _).trans (a2 x hx hf)
  · exact fun hf i => (th_sl_kept e _).trans (a2 hf i)
theorem tm_alen {nL : Nat} {own : String} (hC : th_C p s m args c cc nL own G) {b t N : Nat} {f : Nat → Value} {ty : FieldType} (hm : th_MA G Γ H b t N f) (ht : (th_ty G.1.2.1)[t]? = some (G.1.2.1 t, ty)) (hN : N ≤ 2147483647) (hdg : decode cc pc = .ok (.arraylength, 1))
    (kk : ∀ x : Int32, x.toInt = (N : Int) → W p l e R s m args below meth c H locs cells slots Q (F0 m (pc + 1) ls (.int x :: rest))) : W p l e R s m args below meth c H locs cells slots Q (F0 m pc ls (.ref b :: rest)) :=
  W.alen (n := Int32.ofNat N) hC.1 hC.2.1 hm.2.2 (th_tys hC ht N f) (by rw [arrV_size] <;> rfl) rfl rfl hdg (kk _ (nI_toInt (n := N) (by omega)))
theorem tm_lald {nL : Nat} {own : String} (hC : th_C p s m args c cc nL own G) {b N : Nat} {f : Nat → Int64} (hm : th_MA G Γ H b 1 N (fun i => .long (f i))) {i : Int32} {x : Int} (hi : i.toInt = x) (h0 : 0 ≤ x) (h1 : x < (N : Int)) (hdg : decode cc pc = .ok (.laload, 1))
    (kk : ∀ v : Int64, v = f x.toNat → W p l e R s m args below meth c H locs cells slots Q (F0 m (pc + 1) ls (.long v :: rest))) : W p l e R s m args below meth c H locs cells slots Q (F0 m pc ls (.int i :: .ref b :: rest)) := by
  have hb : i.toNatClampNeg = x.toNat := by rw [← hi]; rfl
  have hlt : x.toNat < N := by omega
  refine W.lald (v := .long (f x.toNat)) hC.1 hC.2.1 hm.2.2 (th_tys hC (t0 := 1) rfl N _) (fun q => by cases q) ?_ ?_ rfl rfl hdg (kk _ rfl)
  · rw [arrV_size, hb]
    exact ti_in (x := i) (n := N) (by omega) (by omega) |> fun z => by rw [← hb]; exact z
  · rw [hb, arrV_read _ _ hlt]
theorem tm_iald {nL : Nat} {own : String} (hC : th_C p s m args c cc nL own G) {b N : Nat} {f : Nat → Int32} (hm : th_MA G Γ H b 0 N (fun i => .int (f i))) {i : Int32} {x : Int} (hi : i.toInt = x) (h0 : 0 ≤ x) (h1 : x < (N : Int)) (hdg : decode cc pc = .ok (.iaload, 1))
    (kk : ∀ v : Int32, v = f x.toNat → W p l e R s m args below meth c H locs cells slots Q (F0 m (pc + 1) ls (.int v :: rest))) : W p l e R s m args below meth c H locs cells slots Q (F0 m pc ls (.int i :: .ref b :: rest)) := by
  have hb : i.toNatClampNeg = x.toNat := by rw [← hi]; rfl
  have hlt : x.toNat < N := by omega
  refine W.iald (v := .int (f x.toNat)) hC.1 hC.2.1 hm.2.2 (th_tys hC (t0 := 0) rfl N _) (fun q => by cases q) ?_ ?_ rfl rfl hdg (kk _ rfl)
  · rw [arrV_size, hb]
    exact ti_in (x := i) (n := N) (by omega) (by omega) |> fun z => by rw [← hb]; exact z
  · rw [hb, arrV_read _ _ hlt]
theorem tm_last {nL : Nat} {own : String} (hC : th_C p s m args c cc nL own G) (hB : th_B G Γ Γ L H0 H locs) {b N : Nat} {f : Nat → Int64} (hm : th_MA G Γ H b 1 N (fun i => .long (f i))) {i : Int32} {v : Int64} {x : Int} (hi : i.toInt = x) (h0 : 0 ≤ x) (h1 : x < (N : Int)) (hdg : decode cc pc = .ok (.lastore, 1))
    (kk : ∀ (H1 : Heap) (locs1 : List Loc), th_B G Γ Γ L H0 H1 locs1 → th_MA G Γ H1 b 1 N (fun j => .long (if j = x.toNat then v else f j)) → (∀ q, q ≠ b → H1[q]? = H[q]?) → W p l e R s m args below meth c H1 locs1 cells slots Q (F0 m (pc + 1) ls rest)) : W p l e R s m args below meth c H locs cells slots Q (F0 m pc ls (.long v :: .int i :: .ref b :: rest)) := by
  have hb : i.toNatClampNeg = x.toNat := by rw [← hi]; rfl
  have hlt : x.toNat < N := by omega
  refine W.last hC.1 hC.2.1 hm.2.2 (th_tys hC (t0 := 1) rfl N _) (fun q => by cases q) ?_ rfl rfl hdg fun H1 e1 z oq => ?_
  · rw [arrV_size, hb]
    exact ti_in (x := i) (n := N) (by omega) (by omega) |> fun z => by rw [← hb]; exact z
  · refine kk H1 _ (tm_B hB hm.2.1 hm.1 z oq) ⟨hm.1, hm.2.1, ?_⟩ oq
    rw [e1, hb, arrV_store]
    congr 2
    funext j
    unfold updV
    split <;> rfl
theorem tm_iast {nL : Nat} {own : String} (hC : th_C p s m args c cc nL own G) (hB : th_B G Γ Γ L H0 H locs) {b N : Nat} {f : Nat → Int32} (hm : th_MA G Γ H b 0 N (fun i => .int (f i))) {i v : Int32} {x : Int} (hi : i.toInt = x) (h0 : 0 ≤ x) (h1 : x < (N : Int)) (hdg : decode cc pc = .ok (.iastore, 1))
    (kk : ∀ (H1 : Heap) (locs1 : List Loc), th_B G Γ Γ L H0 H1 locs1 → th_MA G Γ H1 b 0 N (fun j => .int (if j = x.toNat then v else f j)) → (∀ q, q ≠ b → H1[q]? = H[q]?) → W p l e R s m args below meth c H1 locs1 cells slots Q (F0 m (pc + 1) ls rest)) : W p l e R s m args below meth c H locs cells slots Q (F0 m pc ls (.int v :: .int i :: .ref b :: rest)) := by
  have hb : i.toNatClampNeg = x.toNat := by rw [← hi]; rfl
  have hlt : x.toNat < N := by omega
  refine W.iast hC.1 hC.2.1 hm.2.2 (th_tys hC (t0 := 0) rfl N _) (fun q => by cases q) ?_ rfl rfl hdg fun H1 e1 z oq => ?_
  · rw [arrV_size, hb]
    exact ti_in (x := i) (n := N) (by omega) (by omega) |> fun z => by rw [← hb]; exact z
  · refine kk H1 _ (tm_B hB hm.2.1 hm.1 z oq) ⟨hm.1, hm.2.1, ?_⟩ oq
    rw [e1, hb, arrV_store]
    congr 2
    funext j
    unfold updV
    split <;> rfl
theorem tm_MAo {b t N b' : Nat} {f : Nat → Value} (h : th_MA G Γ H b t N f) (oq : ∀ q, q ≠ b' → H1[q]? = H[q]?) (hne : b ≠ b') : th_MA G Γ H1 b t N f := ⟨h.1, h.2.1, (oq b hne).trans h.2.2⟩
theorem tm_MAt {b t N : Nat} {f : Nat → Value} (h : th_MA G Γ H b t N f) (hT : th_T Γ H H1) : th_MA G Γ H1 b t N f := ⟨h.1, h.2.1, (hT b h.2.1).trans h.2.2⟩
theorem tm_slo {a r o b t N : Nat} {d : th_De} {f : Nat → Value} (ha : Γ a = (r, o)) (hr : th_ro r = some d) (h : th_MA G Γ H b t N f) (oq : ∀ q, q ≠ b → H1[q]? = H[q]?) (i : Nat) : th_sl H1 a i = th_sl H a i := th_sl_kept (oq a (fun e => by have := h.2.1; rw [← e, ha] at this; rw [hr] at this; cases this)) i
/-- with a new memo the rest of the relations stands -/
theorem th_RC_me {L : List (Nat × Nat)} (hI : th_I G Γ H1) (hR : th_RC G Γ H) (hF : th_F G Γ L H H1) (hs : L.all (fun q => q.1 == 12 || !th_RCs.contains q) = true) {a o : Nat} (ha : Γ a = (12, o)) (hme : ∃ n b1 b2 b3 b4 : Nat, th_ME G Γ H1 a n b1 b2 b3 b4) : th_RC G Γ H1 := by
  have hn : ∀ {r j : Nat}, th_RCs.contains (r, j) = true → (r == 12) = false → th_in L r j = false := by
    intro r j hm hq
    cases h : th_in L r j with
    | false => rfl
    | true =>
      have h2 := List.all_eq_true.mp hs (r, j) (by simpa [th_in] using h)
      rw [hm, hq] at h2
      cases h2
  obtain ⟨r1, r2, r3, r4⟩ := hR
  refine ⟨fun a o ha => ?_, fun b o hb => ?_, fun a' o' ha' => ?_, r4⟩
  · obtain ⟨bx, m1, g1⟩ := th_fo hI ha ro_3 (j := 3) (r2 := 7) rfl
    obtain ⟨by_, m2, g2⟩ := th_fo hI ha ro_3 (j := 4) (r2 := 8) rfl
    intro bx' by' e1 e2 c hc hne
    cases m1.symm.trans e1
    cases m2.symm.trans e2
    rw [th_F_a hF g1 ro_7 (hn rfl rfl)] at hne
    rw [th_F_a hF g2 ro_8 (hn rfl rfl)]
    exact r1 a o ha bx by_ ((th_F_o hF ha ro_3 (j := 3) (by decide) (hn rfl rfl)).symm.trans m1) ((th_F_o hF ha ro_3 (j := 4) (by decide) (hn rfl rfl)).symm.trans m2) c hc hne
  · have hk : ∀ i, th_sl H1 b i = th_sl H b i := by
      rcases hb with hb | hb
      · exact th_F_a hF hb ro_18 (hn rfl rfl)
      · exact th_F_a hF hb ro_19 (hn rfl rfl)
    intro u hu c hc
    rw [hk, hk]
    exact r2 b o hb u hu c hc
  · rw [r4 a' a o' o ha' ha]
    exact hme
theorem ti_hash (n : Nat) (x : Int64) {y : Int32} (hy : y.toInt = 64 - (n : Int)) (h1 : 1 ≤ n) (h2 : n ≤ 30) : 0 ≤ ((x.toUInt64 >>> (y.toInt64.toUInt64 &&& Int64.toUInt64 63)).toInt64.toInt32).toInt ∧ ((x.toUInt64 >>> (y.toInt64.toUInt64 &&& Int64.toUInt64 63)).toInt64.toInt32).toInt < 2 ^ n := by
  obtain ⟨q, hq, rfl⟩ := wb_of x
  have hk : y = nI (64 - n) := Int32.toInt_inj.mp (by rw [hy, nI_toInt (by omega)]; omega)
  rw [hk, wb_shr hq (by omega), lN_i]
  have h3 : q / 2 ^ (64 - n) < 2 ^ n := by
    rw [Nat.div_lt_iff_lt_mul (Nat.two_pow_pos _), ← Nat.pow_add, show n + (64 - n) = 64 by omega]
    exact hq
  have h4 : 2 ^ n ≤ 2 ^ 30 := Nat.pow_le_pow_right (by decide) h2
  rw [nI_toInt (by omega)]
  have h5 : ((q / 2 ^ (64 - n) : Nat) : Int) < ((2 ^ n : Nat) : Int) := Int.ofNat_lt.mpr h3
  have e : ((2 ^ n : Nat) : Int) = 2 ^ n := by simp
  exact ⟨Int.natCast_nonneg _, by rw [← e]; exact h5⟩
end TM
section TN
variable {p : Program} {l : Launch} {e : Env} {R : Room} {s : State} {m : MethodId} {args : Array Value} {below : List Frame} {meth : Method} {c : Code} {H H0 H1 : Heap} {locs : List Loc} {cells slots : Nat} {Q : State → Prop}
variable {cc : ByteArray} {pc : Nat} {ls : Array Slot} {rest : List Value} {G : th_G} {Γ Γ0 : th_Ga} {L : List (Nat × Nat)}
/-- all slots of a heap's cells -/
def th_su (H : Heap) : Nat := (H.toList.map (fun c => c.slots.size)).sum
theorem th_su_take {l1 l2 : List Cell} (h : ∀ (i : Nat) (c : Cell), l1[i]? = some c → ∃ c' : Cell, l2[i]? = some c' ∧ c'.slots.size = c.slots.size) : (l2.map (fun c => c.slots.size)).sum = (l1.map (fun c => c.slots.size)).sum + ((l2.drop l1.length).map (fun c => c.slots.size)).sum := by
  induction l1 generalizing l2 with
  | nil => simp
  | cons a l ih =>
    obtain ⟨a', h1, h2⟩ := h 0 a rfl
    cases l2 with
    | nil => simp at h1
    | cons b l2 =>
      cases h1
      have h3 := ih (l2 := l2) (fun i c hc => h (i + 1) c hc)
      simp only [List.map_cons, List.sum_cons, List.length_cons, List.drop_succ_cons, h2]
      omega
theorem th_su_stand {T : State} (X : Stand p l e R s m args below meth c T locs cells slots) : T.heap.size ≤ s.heap.size + cells ∧ th_su T.heap = th_su s.heap + ((T.heap.toList.drop s.heap.size).map (fun c => c.slots.size)).sum ∧ ((T.heap.toList.drop s.heap.size).map (fun c => c.slots.size)).sum ≤ slots := by
  obtain ⟨-, -, h3, -, h5, h6⟩ := X.same
  refine ⟨h3, ?_, h5⟩
  have h7 := th_su_take (l1 := s.heap.toList) (l2 := T.heap.toList) (fun i c hc => by
    obtain ⟨c', g1, -, g3, -⟩ := h6 i c (by rw [← Array.getElem?_toList]; exact hc)
    exact ⟨c', by rw [Array.getElem?_toList]; exact g1, g3⟩)
  rw [Array.length_toList] at h7
  exact h7
/-- what was made is counted by what stands there -/
theorem W.tight {g : JFrame} {k n : Nat} (h1 : H.size ≤ s.heap.size + k) (h2 : th_su H ≤ th_su s.heap + n) (kk : W p l e R s m args below meth c H locs k n Q g) : W p l e R s m args below meth c H locs cells slots Q g := by
  intro T hT X
  have hs := th_su_stand X
  rw [hT] at hs
  obtain ⟨g1, g2, g3, g4, g5, g6⟩ := X.same
  refine kk T hT { X with same := ⟨g1, g2, ?_, g4, ?_, g6⟩ }
  · show T.heap.size ≤ _
    rw [hT]
    exact h1
  · show ((T.heap.toList.drop s.heap.size).map (fun c => c.slots.size)).sum ≤ n
    rw [hT]
    omega
/-- the counts may be used -/
theorem W.count {g : JFrame} (kk : H.size ≤ s.heap.size + cells → th_su H ≤ th_su s.heap + slots → W p l e R s m args below meth c H locs cells slots Q g) : W p l e R s m args below meth c H locs cells slots Q g := by
  intro T hT X
  have hs := th_su_stand X
  rw [hT] at hs
  exact kk hs.1 (by omega) T hT X
/-- a new row that nothing names yet -/
theorem tm_newa {nL : Nat} {own : String} (hC : th_C p s m args c cc nL own G) (hB : th_B G Γ Γ L H0 H locs) {t : Nat} {atype : ArrayType} {ty : FieldType} (ht : (th_ty G.1.2.1)[t]? = some (G.1.2.1 t, ty)) (hty : newarray.typeOf atype = ty) (hprim : va_RA s (G.1.2.1 t) ty = (s.vm.findClass ("[" ++ ty.toString) = some (G.1.2.1 t))) (harr : Cond.arrayClass ty ∈ th_tb) (hsz : G.1.2.2 ≤ H.size)
    {n : Int32} {N : Nat} (hn : n.toInt = (N : Int)) (hbytes : N * componentBytes ty ≤ 536870912) (hcells : cells + 1 ≤ R.cells) (hslots : slots + N ≤ R.slots) (hdg : decode cc pc = .ok (.newarray atype, 2))
    (kk : ∀ (b : Nat) (H1 : Heap), b = H.size → H1.size = H.size + 1 → (∀ q, q ≠ b → H1[q]? = H[q]?) → th_B G Γ Γ L H0 H1 locs → th_MA G Γ H1 b t N (fun _ => defaultValue ty) → W p l e R s m args below meth c H1 locs (cells + 1) (slots + N) Q (F0 m (pc + 2) ls (.ref b :: rest))) : W p l e R s m args below meth c H locs cells slots Q (F0 m pc ls (.int n :: rest)) := by
  subst hty
  have hnn : n.toNatClampNeg = N := by
    show n.toInt.toNat = N
    omega
  refine va_newaK hC.1 hC.2.1 (hC.2.2.2.2.1 _ harr) rfl hdg rfl (fun q => by have := ti_lt q; have h0 : (0 : Int32).toInt = 0 := rfl; omega) hnn hbytes hcells hslots rfl fun H1 cA e1 z1 o1 hAr hNm => ?_
  have hcA : cA = G.1.2.1 t := by
    have h9 := (hC.2.2.2.2.2.1.2 t _ ht).2
    rw [hprim] at h9
    exact Option.some.inj (hNm.symm.trans h9)
  subst hcA
  have oq : ∀ q, q ≠ H.size → H1[q]? = H[q]? := fun q hq => by
    by_cases h : q < H.size
    · exact o1 q h
    · rw [Array.getElem?_eq_none (by omega), Array.getElem?_eq_none (by omega)]
  obtain ⟨hI, hS, hF⟩ := hB
  have hlt : ∀ (a r o : Nat) (d : th_De), Γ a = (r, o) → th_ro r = some d → a < H.size := fun a r o d hg hd => th_ok_lt (hI a r o d hg hd).2
  have hun : th_ro (Γ H.size).1 = none := by
    cases hq : th_ro (Γ H.size).1 with
    | none => rfl
    | some d => exact absurd (hlt H.size (Γ H.size).1 (Γ H.size).2 d rfl hq) (Nat.lt_irrefl _)
  refine kk H.size H1 rfl z1 oq ⟨fun a r o d hg hd => ⟨(hI a r o d hg hd).1, th_ok_kept (hI a r o d hg hd).2 (o1 a (hlt a r o d hg hd))⟩, ⟨Nat.le_trans hS.1 (by omega), fun q h1 h2 => (o1 q (Nat.lt_of_lt_of_le h1 hS.1)).trans (hS.2.1 q h1 h2), hS.2.2⟩, Nat.le_trans hF.1 (by omega), fun a r o d hg hd => ?_⟩ ⟨hsz, hun, e1⟩
  obtain ⟨a1, a2⟩ := hF.2 a r o d hg hd
  have e := o1 a (hlt a r o d hg hd)
  refine ⟨(th_ln_kept e).trans a1, ?_⟩
  rcases d with ⟨k, fs⟩ | ⟨t, n1, n2, es⟩
  · exact fun x hx hf => (th_sl_kept e _).trans (a2 x hx hf)
  · exact fun hf i => (th_sl_kept e _).trans (a2 hf i)
theorem tm_lt {b t N : Nat} {f : Nat → Value} (h : th_MA G Γ H b t N f) : b < H.size := (Array.getElem?_eq_some_iff.mp h.2.2).1
theorem tm_sz {a r o : Nat} {d : th_De} (hI : th_I G Γ H) (ha : Γ a = (r, o)) (hr : th_ro r = some d) : G.1.2.2 ≤ H.size := Nat.le_of_lt (Nat.lt_of_le_of_lt (hI a r o d ha hr).1 (th_ok_lt (hI a r o d ha hr).2))
end TN
section TO
variable {H H0 H1 : Heap} {G : th_G} {Γ : th_Ga}
def th_FR (bs : List Nat) (H H1 : Heap) : Prop := ∀ q : Nat, q ∉ bs → H1[q]? = H[q]?
theorem th_FR_st {bs : List Nat} {b : Nat} (h : th_FR bs H0 H) (oq : ∀ q, q ≠ b → H1[q]? = H[q]?) (hb : b ∈ bs) : th_FR bs H0 H1 := fun q hq => (oq q (fun e => hq (e ▸ hb))).trans (h q hq)
theorem th_FR_c {bs cs : List Nat} (h : th_FR bs H0 H) (h1 : th_FR cs H H1) (hs : ∀ b ∈ cs, b ∈ bs) : th_FR bs H0 H1 := fun q hq => (h1 q (fun e => hq (hs q e))).trans (h q hq)
theorem th_FR4 {b c1 c2 c3 c4 : Nat} (h : th_FR [c1, c2, c3, c4] H H1) (h1 : b ≠ c1) (h2 : b ≠ c2) (h3 : b ≠ c3) (h4 : b ≠ c4) : H1[b]? = H[b]? := h b (by simp [h1, h2, h3, h4])
theorem th_FR1 {b c1 : Nat} (h : th_FR [c1] H H1) (h1 : b ≠ c1) : H1[b]? = H[b]? := h b (by simp [h1])
theorem tm_MAe {b t N : Nat} {f : Nat → Value} (h : th_MA G Γ H b t N f) (e : H1[b]? = H[b]?) : th_MA G Γ H1 b t N f := ⟨h.1, h.2.1, e.trans h.2.2⟩
theorem tm_sln {a r o b t N : Nat} {d : th_De} {f : Nat → Value} (ha : Γ a = (r, o)) (hr : th_ro r = some d) (h : th_MA G Γ H1 b t N f) (oq : ∀ q, q ≠ b → H1[q]? = H[q]?) (i : Nat) : th_sl H1 a i = th_sl H a i := th_sl_kept (oq a (fun e => by have := h.2.1; rw [← e, ha] at this; rw [hr] at this; cases this)) i
end TO
section TMS
variable {H H0 H1 : Heap} {G : th_G} {Γ : th_Ga} {P : Int → Int → Prop} {a n b1 b2 b3 b4 : Nat} {U lo : Int}
theorem tm_se {b t N i : Nat} {f : Nat → Value} {v : Value} (h : th_MA G Γ H b t N f) (hi : i < N) (e : f i = v) : th_sl H b i = v := (th_sl_at h.2.2 (arrV_read _ _ hi)).trans e
theorem tm_so {b t N i : Nat} {f : Nat → Value} (h : th_MA G Γ H b t N f) (hi : N ≤ i) : th_sl H b i = .null := by
  have e2 : (arrV (G.1.2.1 t) N f).slots[i]? = none := Array.getElem?_eq_none (by rw [arrV_size]; exact hi)
  unfold th_sl
  rw [h.2.2]
  show ((arrV (G.1.2.1 t) N f).slots[i]?).getD .null = .null
  rw [e2]
  rfl
theorem tm_sn {b t N k : Nat} {f f' : Nat → Value} (h : th_MA G Γ H b t N f) (h' : th_MA G Γ H1 b t N f') (e : ∀ j, j ≠ k → f' j = f j) : ∀ j, j ≠ k → th_sl H1 b j = th_sl H b j := fun j hj => by
  by_cases hN : j < N
  · rw [tm_se h' hN rfl, tm_se h hN rfl, e j hj]
  · rw [tm_so h' (by omega), tm_so h (by omega)]
theorem th_MS_of {v : Int32} (m5 : th_sl H a (G.1.1.2 3 5) = .int v) (h : th_MSu (th_pm G) H n b1 b2 b4 U) (hU : U ≤ v.toInt) : th_MS G H a n b1 b2 b4 := fun u hu => by
  cases Value.int.inj (m5.symm.trans hu)
  intro i x hi hx hn
  obtain ⟨⟨j, y, j1, j2, j3⟩, r⟩ := h i x hi hx hn
  exact ⟨⟨j, y, by omega, j2, j3⟩, r⟩
theorem MSu_e {U' : Int} (h : th_MSu P H n b1 b2 b4 U) (e : U = U') : th_MSu P H n b1 b2 b4 U' := by rw [← e]; exact h
/-- rows of keys that are all empty -/
theorem MSu_0 {t : Nat} {g : Nat → Int64} (h : th_MA G Γ H b1 t (2 ^ n) (fun i => .long (g i))) (e : ∀ i, i < 2 ^ n → g i = -1) : th_MSu P H n b1 b2 b4 U := fun i x hi hx hn => by
  have h2 := tm_se h hi rfl
  rw [hx] at h2
  have h3 : x = g i := by injection h2
  exact absurd (h3.trans (e i hi)) hn
/-- the rows' own words -/
theorem MSu_f {t1 t2 : Nat} {f1 : Nat → Int64} {f2 : Nat → Int32} (h : th_MSu P H n b1 b2 b4 U) (k1 : th_MA G Γ H b1 t1 (2 ^ n) (fun i => .long (f1 i))) (k2 : th_MA G Γ H b2 t2 (2 ^ n) (fun i => .int (f2 i))) : ∀ i, i < 2 ^ n → f1 i ≠ -1 → P (f1 i).toInt (f2 i).toInt := fun i hi hn => by
  obtain ⟨-, v, v1, v2⟩ := h i (f1 i) hi (tm_se k1 hi rfl) hn
  have h2 := tm_se k2 hi rfl
  rw [v1] at h2
  have h3 : v = f2 i := by injection h2
  rw [← h3]; exact v2
/-- one key is put at a slot -/
def th_PU (H H1 : Heap) (n b1 b2 b4 : Nat) (key : Int64) (val pl : Int32) : Prop := ∃ (s : Nat) (y : Int32), s < 2 ^ n ∧ y.toInt = (s : Int) ∧ ((∀ i, i ≠ s → th_sl H1 b1 i = th_sl H b1 i) ∧ th_sl H1 b1 s = .long key) ∧ ((∀ i, i ≠ s → th_sl H1 b2 i = th_sl H b2 i) ∧ th_sl H1 b2 s = .int val) ∧ (∀ j, j ≠ pl.toInt.toNat → th_sl H1 b4 j = th_sl H b4 j) ∧ th_sl H1 b4 pl.toInt.toNat = .int y
theorem PU_MSu {key : Int64} {val pl : Int32} (h : th_PU H H1 n b1 b2 b4 key val pl) (hm : th_MSu P H n b1 b2 b4 U) (hU : U = pl.toInt) (hp : 0 ≤ pl.toInt) (hk : key ≠ -1 → P key.toInt val.toInt) : th_MSu P H1 n b1 b2 b4 (U + 1) := by
  obtain ⟨s, y, hs, hy, ⟨a1, a2⟩, ⟨c1, c2⟩, d1, d2⟩ := h
  intro i x hi hx hn
  by_cases e : i = s
  · subst e
    have ex : x = key := by rw [a2] at hx; injection hx with hx; exact hx.symm
    exact ⟨⟨pl.toInt.toNat, y, by omega, d2, hy⟩, val, c2, by rw [ex]; exact hk (by rw [← ex]; exact hn)⟩
  · rw [a1 i e] at hx
    obtain ⟨⟨j, z, j1, j2, j3⟩, v, v1, v2⟩ := hm i x hi hx hn
    exact ⟨⟨j, z, by omega, (d1 j (by omega)).trans j2, j3⟩, v, (c1 i e).trans v1, v2⟩
theorem PU_mk {H2 H3 H4 H5 : Heap} {x y : Int32} {key : Int64} {val pl : Int32} {xk xv xo : Nat} (t1 : ∀ i, i ≠ xk → th_sl H2 b1 i = th_sl H b1 i) (v1 : th_sl H2 b1 xk = .long key) (t2 : ∀ i, i ≠ xv → th_sl H3 b2 i = th_sl H2 b2 i) (v2 : th_sl H3 b2 xv = .int val) (t4 : ∀ i, i ≠ xo → th_sl H5 b4 i = th_sl H4 b4 i) (v4 : th_sl H5 b4 xo = .int y) (o1 : ∀ q, q ≠ b1 → H2[q]? = H[q]?) (o2 : ∀ q, q ≠ b2 → H3[q]? = H2[q]?) (o3 : ∀ q, q ≠ b3 → H4[q]? = H3[q]?) (o4 : ∀ q, q ≠ b4 → H5[q]? = H4[q]?) (d12 : b1 ≠ b2) (d13 : b1 ≠ b3) (d14 : b1 ≠ b4) (d23 : b2 ≠ b3) (d24 : b2 ≠ b4) (d34 : b3 ≠ b4) (hk : (xk : Int) = y.toInt ∧ xv = xk ∧ xk < 2 ^ n) (ho : xo = pl.toInt.toNat) : th_PU H H5 n b1 b2 b4 key val pl := by
  obtain ⟨hk1, rfl, hk2⟩ := hk
  subst ho
  have e1 : ∀ i, th_sl H5 b1 i = th_sl H2 b1 i := fun i => (th_sl_kept (o4 _ d14) i).trans ((th_sl_kept (o3 _ d13) i).trans (th_sl_kept (o2 _ d12) i))
  have e2 : ∀ i, th_sl H5 b2 i = th_sl H3 b2 i := fun i => (th_sl_kept (o4 _ d24) i).trans (th_sl_kept (o3 _ d23) i)
  have e20 : ∀ i, th_sl H2 b2 i = th_sl H b2 i := fun i => th_sl_kept (o1 _ (fun e => d12 e.symm)) i
  have e4 : ∀ i, th_sl H4 b4 i = th_sl H b4 i := fun i => (th_sl_kept (o3 _ (fun e => d34 e.symm)) i).trans ((th_sl_kept (o2 _ (fun e => d24 e.symm)) i).trans (th_sl_kept (o1 _ (fun e => d14 e.symm)) i))
  exact ⟨xv, y, hk2, hk1.symm, ⟨fun i hi => (e1 i).trans (t1 i hi), (e1 _).trans v1⟩, ⟨fun i hi => (e2 i).trans ((t2 i hi).trans (e20 i)), (e2 _).trans v2⟩, fun j hj => (t4 j hj).trans (e4 j), v4⟩
/-- of the slots with a key: each is listed from lo on -/
def th_CL (H : Heap) (n b1 b4 : Nat) (lo U : Int) : Prop := ∀ (i : Nat) (x : Int64), i < 2 ^ n → th_sl H b1 i = .long x → x ≠ -1 → ∃ (j : Nat) (y : Int32), lo ≤ (j : Int) ∧ (j : Int) < U ∧ th_sl H b4 j = .int y ∧ y.toInt = (i : Int)
theorem CL_0 (h : th_MSu P H n b1 b2 b4 U) (e : lo = 0) : th_CL H n b1 b4 lo U := fun i x hi hx hn => by
  obtain ⟨⟨j, y, j1, j2, j3⟩, -⟩ := h i x hi hx hn
  exact ⟨j, y, by omega, j1, j2, j3⟩
theorem CL_st {y0 : Int32} {lo' : Int} (h : th_CL H n b1 b4 lo U) (hx : th_sl H b4 lo.toNat = .int y0) (tv : th_sl H1 b1 y0.toInt.toNat = .long (-1)) (ts : ∀ i, i ≠ y0.toInt.toNat → th_sl H1 b1 i = th_sl H b1 i) (e4 : H1[b4]? = H[b4]?) (hl : lo' = lo + 1) (h0 : 0 ≤ lo) (hy : 0 ≤ y0.toInt) : th_CL H1 n b1 b4 lo' U := fun i x hi hx2 hn => by
  by_cases e : i = y0.toInt.toNat
  · rw [e, tv] at hx2
    have : x = -1 := by injection hx2 with q; exact q.symm
    exact absurd this hn
  · rw [ts i e] at hx2
    obtain ⟨j, y, j1, j2, j3, j4⟩ := h i x hi hx2 hn
    refine ⟨j, y, ?_, j2, (th_sl_kept e4 _).trans j3, j4⟩
    by_cases ej : (j : Int) = lo
    · have ej2 : lo.toNat = j := by omega
      rw [ej2, j3] at hx
      have : y = y0 := by injection hx
      rw [← this] at e
      omega
    · omega
theorem CL_end (h : th_CL H n b1 b4 lo U) (hl : U ≤ lo) : ∀ P, th_MSu P H n b1 b2 b4 0 := fun P i x hi hx hn => by
  obtain ⟨j, y, j1, j2, -⟩ := h i x hi hx hn
  omega
/-- the slot z of the memo has the value v -/
def th_mv (G : th_G) (H : Heap) (a : Nat) (z : Int) (v : Int32) : Prop := ∃ b2 : Nat, th_sl H a (G.1.1.2 3 2) = .ref b2 ∧ 0 ≤ z ∧ th_sl H b2 z.toNat = .int v
theorem th_mv_is {z : Int} {v r : Int32} {N : Nat} {f2 : Nat → Int32} (m2 : th_sl H a (G.1.1.2 3 2) = .ref b2) (k2 : th_MA G Γ H b2 0 N (fun i => .int (f2 i))) (h : th_mv G H a z v) (z0 : 0 ≤ z) (z1 : z < (N : Int)) (e : r = f2 z.toNat) : r = v := by
  obtain ⟨b, e1, -, e2⟩ := h
  cases Value.ref.inj (m2.symm.trans e1)
  have h2 := tm_se k2 (i := z.toNat) (by omega) rfl
  rw [e2] at h2
  have : v = f2 z.toNat := by injection h2
  rw [e, this]
theorem th_mv_no {z : Int} {v : Int32} {N : Nat} {f2 : Nat → Int32} (m2 : th_sl H a (G.1.1.2 3 2) = .ref b2) (k2 : th_MA G Γ H b2 0 N (fun i => .int (f2 i))) (hz : z < 0 ∨ (N : Int) ≤ z) : ¬ th_mv G H a z v := by
  rintro ⟨b, e1, z0, e2⟩
  cases Value.ref.inj (m2.symm.trans e1)
  rw [tm_so k2 (by omega)] at e2
  cases e2
theorem MV_of {r : Int32} {key x : Int64} {z0 : Int32} {f1 : Nat → Int64} {f2 : Nat → Int32} (h : th_MSu (th_pm G) H n b1 b2 b4 U) (m2 : th_sl H a (G.1.1.2 3 2) = .ref b2) (k1 : th_MA G Γ H b1 1 (2 ^ n) (fun i => .long (f1 i))) (k2 : th_MA G Γ H b2 0 (2 ^ n) (fun i => .int (f2 i))) (r0 : 0 ≤ r.toInt) (r1 : r.toInt < ((2 ^ n : Nat) : Int)) (ex : x = f1 r.toInt.toNat) (hc : z0.toInt = 0 ↔ x = key) (hz : z0.toInt = 0) (hn : key ≠ -1) : ∃ v : Int32, th_mv G H a r.toInt v ∧ th_pm G key.toInt v.toInt := by
  have e := hc.mp hz
  have h2 := MSu_f h k1 k2 r.toInt.toNat (by omega) (by rw [← ex, e]; exact hn)
  rw [← ex, e] at h2
  exact ⟨f2 r.toInt.toNat, ⟨b2, m2, r0, tm_se k2 (by omega) rfl⟩, h2⟩
/-- the memo holds no key -/
def th_MZ (G : th_G) (Γ : th_Ga) (H : Heap) (a : Nat) : Prop := ∃ n b1 b2 b3 b4 : Nat, th_MEo G Γ H a n b1 b2 b3 b4 ∧ ∀ P, th_MSu P H n b1 b2 b4 0
theorem th_MZ_of (h : th_MEo G Γ H a n b1 b2 b3 b4) (k : ∀ P, th_MSu P H n b1 b2 b4 0) : th_MZ G Γ H a := ⟨_, _, _, _, _, h, k⟩
theorem th_MZ_T {r o : Nat} {L : List (Nat × Nat)} (h : th_MZ G Γ H a) (hF : th_F G Γ L H H1) (hT : th_T Γ H H1) (ha : Γ a = (12, 0)) (hL : (((th_in L 12 0 = false ∧ th_in L 12 1 = false) ∧ th_in L 12 2 = false) ∧ th_in L 12 3 = false) ∧ th_in L 12 4 = false ∧ th_in L 12 5 = false) : th_MZ G Γ H1 a := by
  obtain ⟨n, b1, b2, b3, b4, ⟨hn, m0, m1, m2, m3, m4, hd, ⟨f1, g1, k1, e1⟩, ⟨f2, g2, k2, e2⟩, ⟨f3, g3, k3, e3⟩, ⟨f4, ⟨g4, k4, e4⟩, r4⟩, u, mu, hu⟩, k⟩ := h
  obtain ⟨⟨⟨⟨h0, h1⟩, h2⟩, h3⟩, h4, h5⟩ := hL
  exact ⟨n, b1, b2, b3, b4, ⟨hn, (th_F_o hF ha ro_12 (j := 0) (by decide) h0).trans m0, (th_F_o hF ha ro_12 (j := 1) (by decide) h1).trans m1, (th_F_o hF ha ro_12 (j := 2) (by decide) h2).trans m2, (th_F_o hF ha ro_12 (j := 3) (by decide) h3).trans m3, (th_F_o hF ha ro_12 (j := 4) (by decide) h4).trans m4, hd, ⟨f1, g1, k1, (hT b1 k1).trans e1⟩, ⟨f2, g2, k2, (hT b2 k2).trans e2⟩, ⟨f3, g3, k3, (hT b3 k3).trans e3⟩, ⟨f4, ⟨g4, k4, (hT b4 k4).trans e4⟩, r4⟩, u, (th_F_o hF ha ro_12 (j := 5) (by decide) h5).trans mu, hu⟩, fun P => th_MSu_k (hT b1 k1) (hT b2 k2) (hT b4 k4) (k P)⟩
/-- an empty memo may be said to say anything -/
theorem th_RC_P {Q : Int → Int → Prop} (h : th_RC G Γ H) (ha : Γ a = (12, 0)) (hz : th_MZ G Γ H a) : th_RC (th_gp G Q) Γ H := by
  obtain ⟨r1, r2, r3, r4⟩ := h
  obtain ⟨n, b1, b2, b3, b4, ho, k⟩ := hz
  refine ⟨r1, r2, fun a' o' ha' => ?_, r4⟩
  rw [r4 a' a o' 0 ha' ha]
  refine ⟨n, b1, b2, b3, b4, ho, fun u hu => ?_⟩
  intro i x hi hx hn
  obtain ⟨⟨j, y, j1, -⟩, -⟩ := k Q i x hi hx hn
  omega
theorem th_RC_W {Q : Int → Int → Prop} (h : th_RC (th_gp G Q) Γ H) (hP : ∀ x y, th_pm G x y) : th_RC G Γ H := by
  obtain ⟨r1, r2, r3, r4⟩ := h
  refine ⟨r1, r2, fun a' o' ha' => ?_, r4⟩
  obtain ⟨n, b1, b2, b3, b4, ho, ms⟩ := r3 a' o' ha'
  refine ⟨n, b1, b2, b3, b4, ho, fun u hu i x hi hx hn => ?_⟩
  obtain ⟨j, v, v1, -⟩ := ms u hu i x hi hx hn
  exact ⟨j, v, v1, hP _ _⟩
end TMS
end
section
section DVP
/-- a state as numbers: object, field, place in the field's row -/
abbrev dV : Type := Int → Nat → Int → Int
abbrev dR : Type := dV × Int
abbrev dP : Type := Int × Unit
def dv_u (V : dV) (a : Int) (j : Nat) (i x : Int) : dV := fun b k z => if b = a ∧ k = j ∧ z = i then x else V b k z
/-- n places of a row copied -/
def dv_c (V : dV) (oa : Int) (ja : Nat) (sp ob : Int) (jb : Nat) (dp n : Int) : dV := fun b k z => if b = ob ∧ k = jb ∧ dp ≤ z ∧ z < dp + n then V oa ja (sp + (z - dp)) else V b k z
def dv_b {α β : Type} (e : α) (k : α → β) : β := k e
def dv_b2 {α β γ : Type} (p : α × β) (k : α → β → γ) : γ := k p.1 p.2
theorem dv_bn {α β : Type} {e x : α} {k : α → β} (h : e = x) : dv_b e k = k x := by rw [h]; rfl
theorem dv_bn2 {α β γ : Type} {p : α × β} {x : α} {y : β} {k : α → β → γ} (h : p = (x, y)) : dv_b2 p k = k x y := by rw [h]; rfl
def dv_it {σ ρ : Type} (b : σ → Sum σ ρ) (s : σ) : Nat → Sum σ ρ
  | 0 => .inl s
  | n + 1 => match dv_it b s n with
    | .inl t => b t
    | .inr r => .inr r
/-- a loop: b says how it goes on, or what all gives -/
noncomputable def dv_lp {σ ρ : Type} [Nonempty ρ] (b : σ → Sum σ ρ) (s : σ) : ρ := Classical.epsilon (fun r => ∃ n : Nat, dv_it b s n = .inr r)
noncomputable def dv_k {σ ρ : Type} [Nonempty ρ] (b : σ → Sum σ ρ) (q : Sum σ ρ) : ρ := match q with
  | .inl t => dv_lp b t
  | .inr r => r
theorem dv_it_s {σ ρ : Type} {b : σ → Sum σ ρ} {s t : σ} (h : b s = .inl t) (n : Nat) : dv_it b s (n + 1) = dv_it b t n := by
  induction n with
  | zero => exact h
  | succ n ih =>
    show (match dv_it b s (n + 1) with | .inl t => b t | .inr r => .inr r) = _
    rw [ih]
    rfl
theorem dv_lp_s {σ ρ : Type} [Nonempty ρ] {b : σ → Sum σ ρ} {s t : σ} (h : b s = .inl t) : dv_lp b s = dv_lp b t := by
  unfold dv_lp
  congr 1
  funext r
  apply propext
  constructor
  · intro ⟨n, hn⟩
    cases n with
    | zero => cases hn
    | succ n => exact ⟨n, by rw [← dv_it_s h]; exact hn⟩
  · intro ⟨n, hn⟩
    exact ⟨n + 1, by rw [dv_it_s h]; exact hn⟩
theorem dv_it_e {σ ρ : Type} {b : σ → Sum σ ρ} {s : σ} {r : ρ} (h : b s = .inr r) (n : Nat) : dv_it b s (n + 1) = .inr r := by
  induction n with
  | zero => exact h
  | succ n ih =>
    show (match dv_it b s (n + 1) with | .inl t => b t | .inr r => .inr r) = _
    rw [ih]
theorem dv_lp_e {σ ρ : Type} [Nonempty ρ] {b : σ → Sum σ ρ} {s : σ} {r : ρ} (h : b s = .inr r) : dv_lp b s = r := by
  have hx : ∃ r : ρ, ∃ n : Nat, dv_it b s n = .inr r := ⟨r, 1, dv_it_e h 0⟩
  obtain ⟨n, hn⟩ := Classical.epsilon_spec hx
  show Classical.epsilon (fun r => ∃ n : Nat, dv_it b s n = .inr r) = r
  cases n with
  | zero => cases hn
  | succ n =>
    rw [dv_it_e h] at hn
    exact (Sum.inr.inj hn).symm
theorem dv_lp_eq {σ ρ : Type} [Nonempty ρ] {b : σ → Sum σ ρ} {s : σ} : dv_lp b s = dv_k b (b s) := by
  cases h : b s with
  | inl t => exact dv_lp_s h
  | inr r => exact dv_lp_e h
theorem dv_kr {σ ρ : Type} [Nonempty ρ] {b : σ → Sum σ ρ} {x : ρ} : dv_k b (.inr x) = x := rfl
theorem dv_kl {σ ρ : Type} [Nonempty ρ] {b : σ → Sum σ ρ} {s : σ} : dv_k b (.inl s) = dv_lp b s := rfl
def dv_pre {α : Type} (z : α) (f : Nat → α) (d : Nat) : α := match d with
  | 0 => z
  | d + 1 => f d
theorem dv_pre_s {α : Type} {z : α} {f : Nat → α} {d d' : Nat} (h : d = d' + 1) : dv_pre z f d = f d' := by rw [h]; rfl
def dv_z : dR := (fun _ _ _ => 0, 0)
def dv_zp : dP := (0, ())

def dv_add (a b : Int) : Int := ((Int32.ofInt a) + (Int32.ofInt b)).toInt
theorem dv_add_e {x y z : Int32} {a b : Int} (ha : x.toInt = a) (hb : y.toInt = b) (e : z = x + y) : dv_add a b = z.toInt := by
  subst ha; subst hb; subst e; unfold dv_add; rw [Int32.ofInt_toInt, Int32.ofInt_toInt]
def dv_sub (a b : Int) : Int := ((Int32.ofInt a) - (Int32.ofInt b)).toInt
theorem dv_sub_e {x y z : Int32} {a b : Int} (ha : x.toInt = a) (hb : y.toInt = b) (e : z = x - y) : dv_sub a b = z.toInt := by
  subst ha; subst hb; subst e; unfold dv_sub; rw [Int32.ofInt_toInt, Int32.ofInt_toInt]
def dv_mul (a b : Int) : Int := ((Int32.ofInt a) * (Int32.ofInt b)).toInt
theorem dv_mul_e {x y z : Int32} {a b : Int} (ha : x.toInt = a) (hb : y.toInt = b) (e : z = x * y) : dv_mul a b = z.toInt := by
  subst ha; subst hb; subst e; unfold dv_mul; rw [Int32.ofInt_toInt, Int32.ofInt_toInt]
def dv_div (a b : Int) : Int := ((Int32.ofInt a) / (Int32.ofInt b)).toInt
theorem dv_div_e {x y z : Int32} {a b : Int} (ha : x.toInt = a) (hb : y.toInt = b) (e : z = x / y) : dv_div a b = z.toInt := by
  subst ha; subst hb; subst e; unfold dv_div; rw [Int32.ofInt_toInt, Int32.ofInt_toInt]
def dv_rem (a b : Int) : Int := ((Int32.ofInt a) - (Int32.ofInt a) / (Int32.ofInt b) * (Int32.ofInt b)).toInt
theorem dv_rem_e {x y z : Int32} {a b : Int} (ha : x.toInt = a) (hb : y.toInt = b) (e : z = x - x / y * y) : dv_rem a b = z.toInt := by
  subst ha; subst hb; subst e; unfold dv_rem; rw [Int32.ofInt_toInt, Int32.ofInt_toInt]
def dv_and (a b : Int) : Int := ((Int32.ofInt a) &&& (Int32.ofInt b)).toInt
theorem dv_and_e {x y z : Int32} {a b : Int} (ha : x.toInt = a) (hb : y.toInt = b) (e : z = x &&& y) : dv_and a b = z.toInt := by
  subst ha; subst hb; subst e; unfold dv_and; rw [Int32.ofInt_toInt, Int32.ofInt_toInt]
def dv_or (a b : Int) : Int := ((Int32.ofInt a) ||| (Int32.ofInt b)).toInt
theorem dv_or_e {x y z : Int32} {a b : Int} (ha : x.toInt = a) (hb : y.toInt = b) (e : z = x ||| y) : dv_or a b = z.toInt := by
  subst ha; subst hb; subst e; unfold dv_or; rw [Int32.ofInt_toInt, Int32.ofInt_toInt]
def dv_xor (a b : Int) : Int := ((Int32.ofInt a) ^^^ (Int32.ofInt b)).toInt
theorem dv_xor_e {x y z : Int32} {a b : Int} (ha : x.toInt = a) (hb : y.toInt = b) (e : z = x ^^^ y) : dv_xor a b = z.toInt := by
  subst ha; subst hb; subst e; unfold dv_xor; rw [Int32.ofInt_toInt, Int32.ofInt_toInt]
def dv_shl (a b : Int) : Int := ((Int32.ofInt a) <<< ((Int32.ofInt b) &&& 31)).toInt
theorem dv_shl_e {x y z : Int32} {a b : Int} (ha : x.toInt = a) (hb : y.toInt = b) (e : z = x <<< (y &&& 31)) : dv_shl a b = z.toInt := by
  subst ha; subst hb; subst e; unfold dv_shl; rw [Int32.ofInt_toInt, Int32.ofInt_toInt]
def dv_shr (a b : Int) : Int := ((Int32.ofInt a) >>> ((Int32.ofInt b) &&& 31)).toInt
theorem dv_shr_e {x y z : Int32} {a b : Int} (ha : x.toInt = a) (hb : y.toInt = b) (e : z = x >>> (y &&& 31)) : dv_shr a b = z.toInt := by
  subst ha; subst hb; subst e; unfold dv_shr; rw [Int32.ofInt_toInt, Int32.ofInt_toInt]
def dv_ushr (a b : Int) : Int := (((Int32.ofInt a).toUInt32 >>> ((Int32.ofInt b).toUInt32 &&& Int32.toUInt32 31)).toInt32).toInt
theorem dv_ushr_e {x y z : Int32} {a b : Int} (ha : x.toInt = a) (hb : y.toInt = b) (e : z = (x.toUInt32 >>> (y.toUInt32 &&& Int32.toUInt32 31)).toInt32) : dv_ushr a b = z.toInt := by
  subst ha; subst hb; subst e; unfold dv_ushr; rw [Int32.ofInt_toInt, Int32.ofInt_toInt]
def dv_neg (a : Int) : Int := (-(Int32.ofInt a)).toInt
theorem dv_neg_e {x z : Int32} {a : Int} (ha : x.toInt = a) (e : z = -x) : dv_neg a = z.toInt := by
  subst ha; subst e; unfold dv_neg; rw [Int32.ofInt_toInt]
def dv_i2b (a : Int) : Int := ((Int32.ofInt a).toInt8.toInt32).toInt
theorem dv_i2b_e {x z : Int32} {a : Int} (ha : x.toInt = a) (e : z = x.toInt8.toInt32) : dv_i2b a = z.toInt := by
  subst ha; subst e; unfold dv_i2b; rw [Int32.ofInt_toInt]
def dv_i2s (a : Int) : Int := ((Int32.ofInt a).toInt16.toInt32).toInt
theorem dv_i2s_e {x z : Int32} {a : Int} (ha : x.toInt = a) (e : z = x.toInt16.toInt32) : dv_i2s a = z.toInt := by
  subst ha; subst e; unfold dv_i2s; rw [Int32.ofInt_toInt]
def dv_i2c (a : Int) : Int := (((Int32.ofInt a).toUInt32 % 65536).toInt32).toInt
theorem dv_i2c_e {x z : Int32} {a : Int} (ha : x.toInt = a) (e : z = (x.toUInt32 % 65536).toInt32) : dv_i2c a = z.toInt := by
  subst ha; subst e; unfold dv_i2c; rw [Int32.ofInt_toInt]
def dv_ladd (a b : Int) : Int := ((Int64.ofInt a) + (Int64.ofInt b)).toInt
theorem dv_ladd_e {x y z : Int64} {a b : Int} (ha : x.toInt = a) (hb : y.toInt = b) (e : z = x + y) : dv_ladd a b = z.toInt := by
  subst ha; subst hb; subst e; unfold dv_ladd; rw [Int64.ofInt_toInt, Int64.ofInt_toInt]
def dv_lsub (a b : Int) : Int := ((Int64.ofInt a) - (Int64.ofInt b)).toInt
theorem dv_lsub_e {x y z : Int64} {a b : Int} (ha : x.toInt = a) (hb : y.toInt = b) (e : z = x - y) : dv_lsub a b = z.toInt := by
  subst ha; subst hb; subst e; unfold dv_lsub; rw [Int64.ofInt_toInt, Int64.ofInt_toInt]
def dv_lmul (a b : Int) : Int := ((Int64.ofInt a) * (Int64.ofInt b)).toInt
theorem dv_lmul_e {x y z : Int64} {a b : Int} (ha : x.toInt = a) (hb : y.toInt = b) (e : z = x * y) : dv_lmul a b = z.toInt := by
  subst ha; subst hb; subst e; unfold dv_lmul; rw [Int64.ofInt_toInt, Int64.ofInt_toInt]
def dv_ldiv (a b : Int) : Int := ((Int64.ofInt a) / (Int64.ofInt b)).toInt
theorem dv_ldiv_e {x y z : Int64} {a b : Int} (ha : x.toInt = a) (hb : y.toInt = b) (e : z = x / y) : dv_ldiv a b = z.toInt := by
  subst ha; subst hb; subst e; unfold dv_ldiv; rw [Int64.ofInt_toInt, Int64.ofInt_toInt]
def dv_lrem (a b : Int) : Int := ((Int64.ofInt a) - (Int64.ofInt a) / (Int64.ofInt b) * (Int64.ofInt b)).toInt
theorem dv_lrem_e {x y z : Int64} {a b : Int} (ha : x.toInt = a) (hb : y.toInt = b) (e : z = x - x / y * y) : dv_lrem a b = z.toInt := by
  subst ha; subst hb; subst e; unfold dv_lrem; rw [Int64.ofInt_toInt, Int64.ofInt_toInt]
def dv_land (a b : Int) : Int := ((Int64.ofInt a) &&& (Int64.ofInt b)).toInt
theorem dv_land_e {x y z : Int64} {a b : Int} (ha : x.toInt = a) (hb : y.toInt = b) (e : z = x &&& y) : dv_land a b = z.toInt := by
  subst ha; subst hb; subst e; unfold dv_land; rw [Int64.ofInt_toInt, Int64.ofInt_toInt]
def dv_lor (a b : Int) : Int := ((Int64.ofInt a) ||| (Int64.ofInt b)).toInt
theorem dv_lor_e {x y z : Int64} {a b : Int} (ha : x.toInt = a) (hb : y.toInt = b) (e : z = x ||| y) : dv_lor a b = z.toInt := by
  subst ha; subst hb; subst e; unfold dv_lor; rw [Int64.ofInt_toInt, Int64.ofInt_toInt]
def dv_lxor (a b : Int) : Int := ((Int64.ofInt a) ^^^ (Int64.ofInt b)).toInt
theorem dv_lxor_e {x y z : Int64} {a b : Int} (ha : x.toInt = a) (hb : y.toInt = b) (e : z = x ^^^ y) : dv_lxor a b = z.toInt := by
  subst ha; subst hb; subst e; unfold dv_lxor; rw [Int64.ofInt_toInt, Int64.ofInt_toInt]
def dv_lshl (a b : Int) : Int := ((Int64.ofInt a) <<< ((Int32.ofInt b).toInt64 &&& 63)).toInt
theorem dv_lshl_e {x z : Int64} {y : Int32} {a b : Int} (ha : x.toInt = a) (hb : y.toInt = b) (e : z = x <<< (y.toInt64 &&& 63)) : dv_lshl a b = z.toInt := by
  subst ha; subst hb; subst e; unfold dv_lshl; rw [Int64.ofInt_toInt, Int32.ofInt_toInt]
def dv_lshr (a b : Int) : Int := ((Int64.ofInt a) >>> ((Int32.ofInt b).toInt64 &&& 63)).toInt
theorem dv_lshr_e {x z : Int64} {y : Int32} {a b : Int} (ha : x.toInt = a) (hb : y.toInt = b) (e : z = x >>> (y.toInt64 &&& 63)) : dv_lshr a b = z.toInt := by
  subst ha; subst hb; subst e; unfold dv_lshr; rw [Int64.ofInt_toInt, Int32.ofInt_toInt]
def dv_lushr (a b : Int) : Int := (((Int64.ofInt a).toUInt64 >>> ((Int32.ofInt b).toInt64.toUInt64 &&& Int64.toUInt64 63)).toInt64).toInt
theorem dv_lushr_e {x z : Int64} {y : Int32} {a b : Int} (ha : x.toInt = a) (hb : y.toInt = b) (e : z = (x.toUInt64 >>> (y.toInt64.toUInt64 &&& Int64.toUInt64 63)).toInt64) : dv_lushr a b = z.toInt := by
  subst ha; subst hb; subst e; unfold dv_lushr; rw [Int64.ofInt_toInt, Int32.ofInt_toInt]
theorem dv_i2l_e {x : Int32} {y : Int64} {a : Int} (ha : x.toInt = a) (e : y = x.toInt64) : a = y.toInt := by
  subst ha; subst e; exact (Int32.toInt_toInt64 x).symm
def dv_l2i (a : Int) : Int := ((Int64.ofInt a).toInt32).toInt
theorem dv_l2i_e {x : Int64} {z : Int32} {a : Int} (ha : x.toInt = a) (e : z = x.toInt32) : dv_l2i a = z.toInt := by
  subst ha; subst e; unfold dv_l2i; rw [Int64.ofInt_toInt]
def dv_lcmp (a b : Int) : Int := if a < b then -1 else if a = b then 0 else 1
theorem dv_lcmp_e {x y : Int64} {z : Int32} {a b : Int} (ha : x.toInt = a) (hb : y.toInt = b) (h : -1 ≤ z.toInt ∧ z.toInt ≤ 1) (i : (z.toInt < 0 ↔ x.toInt < y.toInt) ∧ (z.toInt = 0 ↔ x.toInt = y.toInt)) : dv_lcmp a b = z.toInt := by
  subst ha; subst hb; unfold dv_lcmp
  split
  · omega
  · split <;> omega
theorem dv_min_e {z a b : Int} (e : z ≤ a ∧ z ≤ b ∧ (z = a ∨ z = b)) : min a b = z := by omega
theorem dv_max_e {z a b : Int} (e : a ≤ z ∧ b ≤ z ∧ (z = a ∨ z = b)) : max a b = z := by omega
end DVP
end
section
/-- a character of a row of bytes -/
def dv_ch (x : Int32) : Int := (((x &&& 255).toUInt32 % 65536).toInt32).toInt
noncomputable def f_J6_bitCount_0f7a4 (V : dV) (p1 : Int) : dP :=
  dv_b (dv_ushr (p1) (1)) fun x1 =>
  dv_b (dv_and (x1) (1431655765)) fun x2 =>
  dv_b (dv_sub (p1) (x2)) fun x3 =>
  dv_b (dv_and (x3) (858993459)) fun x4 =>
  dv_b (dv_ushr (x3) (2)) fun x5 =>
  dv_b (dv_and (x5) (858993459)) fun x6 =>
  dv_b (dv_add (x4) (x6)) fun x7 =>
  dv_b (dv_ushr (x7) (4)) fun x8 =>
  dv_b (dv_add (x7) (x8)) fun x9 =>
  dv_b (dv_and (x9) (252645135)) fun x10 =>
  dv_b (dv_ushr (x10) (8)) fun x11 =>
  dv_b (dv_add (x10) (x11)) fun x12 =>
  dv_b (dv_ushr (x12) (16)) fun x13 =>
  dv_b (dv_add (x12) (x13)) fun x14 =>
  dv_b (dv_and (x14) (63)) fun x15 =>
  (x15, ())

noncomputable def f_J7_fill_53178_Frows_5c (V : dV) (x1 o1 p2 j5_2 : Int) : Sum (dV × Int × Int × Int × Int) (dR) :=
  if x1 ≤ j5_2 then (
  Sum.inr ((V, 0))
  ) else (
  dv_b (dv_u V o1 6 (j5_2) (p2)) fun V13 =>
  dv_b (j5_2 + 1) fun x2 =>
  Sum.inl (V13, x1, o1, p2, x2)
  )
noncomputable def f_J7_fill_53178_Frows_5b (s : (dV × Int × Int × Int × Int)) : Sum (dV × Int × Int × Int × Int) (dR) := f_J7_fill_53178_Frows_5c (s.1) (s.2.1) (s.2.2.1) (s.2.2.2.1) (s.2.2.2.2)

theorem f_J7_fill_53178_Frows_5e (V : dV) (x1 o1 p2 j5_2 : Int) : f_J7_fill_53178_Frows_5b (V, x1, o1, p2, j5_2) = f_J7_fill_53178_Frows_5c V x1 o1 p2 j5_2 := rfl

noncomputable def f_J7_fill_53178_Frows (V : dV) (o1 p2 : Int) : dR :=
  dv_b (12) fun x1 =>
  dv_lp (f_J7_fill_53178_Frows_5b) (V, x1, o1, p2, 0)

noncomputable def f_J7_fill_53178_Stally_5c (V : dV) (x1 o1 p2 j5_2 : Int) : Sum (dV × Int × Int × Int × Int) (dR) :=
  if x1 ≤ j5_2 then (
  Sum.inr ((V, 0))
  ) else (
  dv_b (dv_u V o1 3 (j5_2) (p2)) fun V13 =>
  dv_b (j5_2 + 1) fun x2 =>
  Sum.inl (V13, x1, o1, p2, x2)
  )
noncomputable def f_J7_fill_53178_Stally_5b (s : (dV × Int × Int × Int × Int)) : Sum (dV × Int × Int × Int × Int) (dR) := f_J7_fill_53178_Stally_5c (s.1) (s.2.1) (s.2.2.1) (s.2.2.2.1) (s.2.2.2.2)

theorem f_J7_fill_53178_Stally_5e (V : dV) (x1 o1 p2 j5_2 : Int) : f_J7_fill_53178_Stally_5b (V, x1, o1, p2, j5_2) = f_J7_fill_53178_Stally_5c V x1 o1 p2 j5_2 := rfl

noncomputable def f_J7_fill_53178_Stally (V : dV) (o1 p2 : Int) : dR :=
  dv_b (1296) fun x1 =>
  dv_lp (f_J7_fill_53178_Stally_5b) (V, x1, o1, p2, 0)

noncomputable def f_X1_has (V : dV) (a0 p1 : Int) : dP :=
  if p1 < 0 then (
  (0, ())
  ) else (
  dv_b (V a0 7 0) fun zz1 =>
  if zz1 ≤ p1 then (
  (0, ())
  ) else (
  (1, ())
  )
  )

noncomputable def f_X1_isLaid (V : dV) (a0 p1 : Int) : dP :=
  dv_b2 (f_X1_has V (a0) (p1)) fun x1 _ =>
  if x1 = 0 then (
  (0, ())
  ) else (
  dv_b (V a0 3 (p1)) fun x3 =>
  if x3 = (-1) then (
  (0, ())
  ) else (
  (1, ())
  )
  )

noncomputable def f_X1_isReady (V : dV) (a0 p1 : Int) : dP :=
  dv_b2 (f_X1_has V (a0) (p1)) fun x1 _ =>
  if x1 = 0 then (
  (0, ())
  ) else (
  dv_b (V a0 3 (p1)) fun x3 =>
  if x3 ≠ (-1) then (
  (0, ())
  ) else (
  dv_b (V a0 2 (p1)) fun x5 =>
  if x5 ≤ 0 then (
  (0, ())
  ) else (
  (1, ())
  )
  )
  )

noncomputable def f_X1_laidCarpets_26 (V : dV) (a0 j4_2 j4_1 s26_1 : Int) : Sum (dV × Int × Int × Int) (dP) :=
  dv_b (dv_add (j4_1) (s26_1)) fun x3 =>
  dv_b (j4_2 + 1) fun x4 =>
  Sum.inl (V, a0, x3, x4)

noncomputable def f_X1_laidCarpets_4c (V : dV) (a0 j4_1 j4_2 : Int) : Sum (dV × Int × Int × Int) (dP) :=
  dv_b (V a0 7 0) fun zz1 =>
  if zz1 ≤ j4_2 then (
  Sum.inr ((j4_1, ()))
  ) else (
  dv_b2 (f_X1_isLaid V (a0) (j4_2)) fun x2 _ =>
  if x2 = 0 then (
  f_X1_laidCarpets_26 (V) (a0) (j4_2) (j4_1) (0)
  ) else (
  f_X1_laidCarpets_26 (V) (a0) (j4_2) (j4_1) (1)
  )
  )
noncomputable def f_X1_laidCarpets_4b (s : (dV × Int × Int × Int)) : Sum (dV × Int × Int × Int) (dP) := f_X1_laidCarpets_4c (s.1) (s.2.1) (s.2.2.1) (s.2.2.2)

theorem f_X1_laidCarpets_4e (V : dV) (a0 j4_1 j4_2 : Int) : f_X1_laidCarpets_4b (V, a0, j4_1, j4_2) = f_X1_laidCarpets_4c V a0 j4_1 j4_2 := rfl

noncomputable def f_X1_laidCarpets (V : dV) (a0 : Int) : dP :=
  dv_lp (f_X1_laidCarpets_4b) (V, a0, 0, 0)

noncomputable def f_X1_rags_27 (V : dV) (a0 j4_2 j4_1 s27_1 : Int) : Sum (dV × Int × Int × Int) (dP) :=
  dv_b (dv_add (j4_1) (s27_1)) fun x4 =>
  dv_b (j4_2 + 1) fun x5 =>
  Sum.inl (V, a0, x4, x5)

noncomputable def f_X1_rags_4c (V : dV) (a0 j4_1 j4_2 : Int) : Sum (dV × Int × Int × Int) (dP) :=
  dv_b (V a0 7 0) fun zz1 =>
  if zz1 ≤ j4_2 then (
  Sum.inr ((j4_1, ()))
  ) else (
  dv_b (V a0 2 (j4_2)) fun x3 =>
  if x3 ≠ 0 then (
  f_X1_rags_27 (V) (a0) (j4_2) (j4_1) (0)
  ) else (
  f_X1_rags_27 (V) (a0) (j4_2) (j4_1) (1)
  )
  )
noncomputable def f_X1_rags_4b (s : (dV × Int × Int × Int)) : Sum (dV × Int × Int × Int) (dP) := f_X1_rags_4c (s.1) (s.2.1) (s.2.2.1) (s.2.2.2)

theorem f_X1_rags_4e (V : dV) (a0 j4_1 j4_2 : Int) : f_X1_rags_4b (V, a0, j4_1, j4_2) = f_X1_rags_4c V a0 j4_1 j4_2 := rfl

noncomputable def f_X1_rags (V : dV) (a0 : Int) : dP :=
  dv_lp (f_X1_rags_4b) (V, a0, 0, 0)

noncomputable def f_X1_areaWithoutRags_39 (V : dV) (a0 j4_2 j4_1 s39_1 : Int) : Sum (dV × Int × Int × Int) (dP) :=
  dv_b (dv_add (j4_1) (s39_1)) fun x4 =>
  dv_b (j4_2 + 1) fun x5 =>
  Sum.inl (V, a0, x4, x5)

noncomputable def f_X1_areaWithoutRags_4c (V : dV) (a0 j4_1 j4_2 : Int) : Sum (dV × Int × Int × Int) (dP) :=
  dv_b (V a0 7 0) fun zz1 =>
  if zz1 ≤ j4_2 then (
  Sum.inr ((j4_1, ()))
  ) else (
  dv_b (V a0 2 (j4_2)) fun x3 =>
  if x3 ≤ 0 then (
  f_X1_areaWithoutRags_39 (V) (a0) (j4_2) (j4_1) (0)
  ) else (
  dv_b (V a0 0 (j4_2)) fun x7 =>
  dv_b (V a0 0 (j4_2)) fun x8 =>
  dv_b (x7 * x8) fun x9 =>
  f_X1_areaWithoutRags_39 (V) (a0) (j4_2) (j4_1) (x9)
  )
  )
noncomputable def f_X1_areaWithoutRags_4b (s : (dV × Int × Int × Int)) : Sum (dV × Int × Int × Int) (dP) := f_X1_areaWithoutRags_4c (s.1) (s.2.1) (s.2.2.1) (s.2.2.2)

theorem f_X1_areaWithoutRags_4e (V : dV) (a0 j4_1 j4_2 : Int) : f_X1_areaWithoutRags_4b (V, a0, j4_1, j4_2) = f_X1_areaWithoutRags_4c V a0 j4_1 j4_2 := rfl

noncomputable def f_X1_areaWithoutRags (V : dV) (a0 : Int) : dP :=
  dv_lp (f_X1_areaWithoutRags_4b) (V, a0, 0, 0)

noncomputable def f_X1_bareCells_46 (V : dV) (a0 j12_2 j12_1 s46_1 : Int) : Sum (dV × Int × Int × Int) (dP) :=
  dv_b (dv_sub (j12_1) (s46_1)) fun x7 =>
  dv_b (j12_2 + 1) fun x8 =>
  Sum.inl (V, a0, x7, x8)

noncomputable def f_X1_bareCells_12c (V : dV) (a0 j12_1 j12_2 : Int) : Sum (dV × Int × Int × Int) (dP) :=
  dv_b (V a0 7 0) fun zz3 =>
  if zz3 ≤ j12_2 then (
  Sum.inr ((j12_1, ()))
  ) else (
  dv_b2 (f_X1_isLaid V (a0) (j12_2)) fun x6 _ =>
  if x6 = 0 then (
  f_X1_bareCells_46 (V) (a0) (j12_2) (j12_1) (0)
  ) else (
  dv_b (V a0 0 (j12_2)) fun x10 =>
  dv_b (V a0 0 (j12_2)) fun x11 =>
  dv_b (x10 * x11) fun x12 =>
  f_X1_bareCells_46 (V) (a0) (j12_2) (j12_1) (x12)
  )
  )
noncomputable def f_X1_bareCells_12b (s : (dV × Int × Int × Int)) : Sum (dV × Int × Int × Int) (dP) := f_X1_bareCells_12c (s.1) (s.2.1) (s.2.2.1) (s.2.2.2)

theorem f_X1_bareCells_12e (V : dV) (a0 j12_1 j12_2 : Int) : f_X1_bareCells_12b (V, a0, j12_1, j12_2) = f_X1_bareCells_12c V a0 j12_1 j12_2 := rfl

noncomputable def f_X1_bareCells (V : dV) (a0 : Int) : dP :=
  dv_b (V a0 8 0) fun zz1 =>
  dv_b (V a0 9 0) fun zz2 =>
  dv_b (zz1 * zz2) fun x3 =>
  dv_lp (f_X1_bareCells_12b) (V, a0, x3, 0)

noncomputable def f_X1_carpetOn_74 (V : dV) (a0 p1 p2 j2_3 : Int) : Sum (dV × Int × Int × Int × Int) (dP) :=
  dv_b (j2_3 + 1) fun x3 =>
  Sum.inl (V, a0, p1, p2, x3)

noncomputable def f_X1_carpetOn_2c (V : dV) (a0 p1 p2 j2_3 : Int) : Sum (dV × Int × Int × Int × Int) (dP) :=
  dv_b (V a0 7 0) fun zz1 =>
  if zz1 ≤ j2_3 then (
  Sum.inr (((-1), ()))
  ) else (
  dv_b2 (f_X1_isLaid V (a0) (j2_3)) fun x2 _ =>
  if x2 = 0 then (
  f_X1_carpetOn_74 (V) (a0) (p1) (p2) (j2_3)
  ) else (
  dv_b (V a0 3 (j2_3)) fun x5 =>
  if p1 < x5 then (
  f_X1_carpetOn_74 (V) (a0) (p1) (p2) (j2_3)
  ) else (
  dv_b (V a0 3 (j2_3)) fun x6 =>
  dv_b (V a0 0 (j2_3)) fun x8 =>
  dv_b (dv_add (x6) (x8)) fun x9 =>
  if x9 ≤ p1 then (
  f_X1_carpetOn_74 (V) (a0) (p1) (p2) (j2_3)
  ) else (
  dv_b (V a0 4 (j2_3)) fun x11 =>
  if p2 < x11 then (
  f_X1_carpetOn_74 (V) (a0) (p1) (p2) (j2_3)
  ) else (
  dv_b (V a0 4 (j2_3)) fun x12 =>
  dv_b (V a0 0 (j2_3)) fun x13 =>
  dv_b (dv_add (x12) (x13)) fun x14 =>
  if x14 ≤ p2 then (
  f_X1_carpetOn_74 (V) (a0) (p1) (p2) (j2_3)
  ) else (
  Sum.inr ((j2_3, ()))
  )
  )
  )
  )
  )
  )
noncomputable def f_X1_carpetOn_2b (s : (dV × Int × Int × Int × Int)) : Sum (dV × Int × Int × Int × Int) (dP) := f_X1_carpetOn_2c (s.1) (s.2.1) (s.2.2.1) (s.2.2.2.1) (s.2.2.2.2)

theorem f_X1_carpetOn_2e (V : dV) (a0 p1 p2 j2_3 : Int) : f_X1_carpetOn_2b (V, a0, p1, p2, j2_3) = f_X1_carpetOn_2c V a0 p1 p2 j2_3 := rfl

noncomputable def f_X1_carpetOn (V : dV) (a0 p1 p2 : Int) : dP :=
  dv_lp (f_X1_carpetOn_2b) (V, a0, p1, p2, 0)

noncomputable def f_X1_hasPlaceFor_145 (V : dV) (a0 p1 p2 p3 j51_4 : Int) : Sum (dV × Int × Int × Int × Int × Int) (dP) :=
  dv_b (j51_4 + 1) fun x11 =>
  Sum.inl (V, a0, p1, p2, p3, x11)

noncomputable def f_X1_hasPlaceFor_51c (V : dV) (a0 p1 p2 p3 j51_4 : Int) : Sum (dV × Int × Int × Int × Int × Int) (dP) :=
  dv_b (V a0 7 0) fun zz3 =>
  if zz3 ≤ j51_4 then (
  Sum.inr ((1, ()))
  ) else (
  dv_b2 (f_X1_isLaid V (a0) (j51_4)) fun x10 _ =>
  if x10 = 0 then (
  f_X1_hasPlaceFor_145 (V) (a0) (p1) (p2) (p3) (j51_4)
  ) else (
  dv_b (V a0 3 (j51_4)) fun x13 =>
  dv_b (V a0 0 (j51_4)) fun x14 =>
  dv_b (dv_add (x13) (x14)) fun x15 =>
  if x15 ≤ p2 then (
  f_X1_hasPlaceFor_145 (V) (a0) (p1) (p2) (p3) (j51_4)
  ) else (
  dv_b (V a0 3 (j51_4)) fun x16 =>
  dv_b (V a0 0 (p1)) fun x17 =>
  dv_b (p2 + x17) fun x18 =>
  if x18 ≤ x16 then (
  f_X1_hasPlaceFor_145 (V) (a0) (p1) (p2) (p3) (j51_4)
  ) else (
  dv_b (V a0 4 (j51_4)) fun x20 =>
  dv_b (V a0 0 (j51_4)) fun x21 =>
  dv_b (dv_add (x20) (x21)) fun x22 =>
  if x22 ≤ p3 then (
  f_X1_hasPlaceFor_145 (V) (a0) (p1) (p2) (p3) (j51_4)
  ) else (
  dv_b (V a0 4 (j51_4)) fun x23 =>
  dv_b (V a0 0 (p1)) fun x24 =>
  dv_b (p3 + x24) fun x25 =>
  if x25 ≤ x23 then (
  f_X1_hasPlaceFor_145 (V) (a0) (p1) (p2) (p3) (j51_4)
  ) else (
  Sum.inr ((0, ()))
  )
  )
  )
  )
  )
  )
noncomputable def f_X1_hasPlaceFor_51b (s : (dV × Int × Int × Int × Int × Int)) : Sum (dV × Int × Int × Int × Int × Int) (dP) := f_X1_hasPlaceFor_51c (s.1) (s.2.1) (s.2.2.1) (s.2.2.2.1) (s.2.2.2.2.1) (s.2.2.2.2.2)

theorem f_X1_hasPlaceFor_51e (V : dV) (a0 p1 p2 p3 j51_4 : Int) : f_X1_hasPlaceFor_51b (V, a0, p1, p2, p3, j51_4) = f_X1_hasPlaceFor_51c V a0 p1 p2 p3 j51_4 := rfl

noncomputable def f_X1_hasPlaceFor (V : dV) (a0 p1 p2 p3 : Int) : dP :=
  dv_b2 (f_X1_isReady V (a0) (p1)) fun x1 _ =>
  if x1 = 0 then (
  (0, ())
  ) else (
  if p2 < 0 then (
  (0, ())
  ) else (
  if p3 < 0 then (
  (0, ())
  ) else (
  dv_b (V a0 8 0) fun zz1 =>
  dv_b (V a0 0 (p1)) fun x4 =>
  dv_b (zz1 - x4) fun x5 =>
  if x5 < p2 then (
  (0, ())
  ) else (
  dv_b (V a0 9 0) fun zz2 =>
  dv_b (V a0 0 (p1)) fun x7 =>
  dv_b (zz2 - x7) fun x8 =>
  if p3 ≤ x8 then (
  dv_lp (f_X1_hasPlaceFor_51b) (V, a0, p1, p2, p3, 0)
  ) else (
  (0, ())
  )
  )
  )
  )
  )

noncomputable def f_X1_threeMoreMeetAt_152 (V : dV) (a0 p1 p2 j5_4 j152_3 : Int) : Sum (dV × Int × Int × Int × Int × Int) (dP) :=
  dv_b (j5_4 + 1) fun x3 =>
  Sum.inl (V, a0, p1, p2, j152_3, x3)

noncomputable def f_X1_threeMoreMeetAt_150 (V : dV) (a0 p1 p2 j5_4 j5_3 s150_1 : Int) : Sum (dV × Int × Int × Int × Int × Int) (dP) :=
  dv_b (dv_add (j5_3) (s150_1)) fun x15 =>
  f_X1_threeMoreMeetAt_152 (V) (a0) (p1) (p2) (j5_4) (x15)

noncomputable def f_X1_threeMoreMeetAt_145 (V : dV) (a0 p1 p2 j5_4 j5_3 : Int) : Sum (dV × Int × Int × Int × Int × Int) (dP) :=
  f_X1_threeMoreMeetAt_150 (V) (a0) (p1) (p2) (j5_4) (j5_3) (1)

noncomputable def f_X1_threeMoreMeetAt_149 (V : dV) (a0 p1 p2 j5_4 j5_3 : Int) : Sum (dV × Int × Int × Int × Int × Int) (dP) :=
  f_X1_threeMoreMeetAt_150 (V) (a0) (p1) (p2) (j5_4) (j5_3) (0)

noncomputable def f_X1_threeMoreMeetAt_135 (V : dV) (s86_0 s68_0 a0 p1 p2 j5_4 j5_3 : Int) : Sum (dV × Int × Int × Int × Int × Int) (dP) :=
  if s68_0 = 0 then (
  f_X1_threeMoreMeetAt_149 (V) (a0) (p1) (p2) (j5_4) (j5_3)
  ) else (
  if s86_0 = 0 then (
  f_X1_threeMoreMeetAt_149 (V) (a0) (p1) (p2) (j5_4) (j5_3)
  ) else (
  f_X1_threeMoreMeetAt_145 (V) (a0) (p1) (p2) (j5_4) (j5_3)
  )
  )

noncomputable def f_X1_threeMoreMeetAt_125 (V : dV) (s112_0 s86_0 s68_0 s42_0 a0 p1 p2 j5_4 j5_3 : Int) : Sum (dV × Int × Int × Int × Int × Int) (dP) :=
  if s42_0 = 0 then (
  f_X1_threeMoreMeetAt_135 (V) (s86_0) (s68_0) (a0) (p1) (p2) (j5_4) (j5_3)
  ) else (
  if s112_0 ≠ 0 then (
  f_X1_threeMoreMeetAt_145 (V) (a0) (p1) (p2) (j5_4) (j5_3)
  ) else (
  f_X1_threeMoreMeetAt_135 (V) (s86_0) (s68_0) (a0) (p1) (p2) (j5_4) (j5_3)
  )
  )

noncomputable def f_X1_threeMoreMeetAt_112 (V : dV) (s86_0 s68_0 s42_0 a0 p1 p2 j5_3 j5_4 s112_0 : Int) : Sum (dV × Int × Int × Int × Int × Int) (dP) :=
  if s42_0 = 0 then (
  f_X1_threeMoreMeetAt_125 (V) (s112_0) (s86_0) (s68_0) (s42_0) (a0) (p1) (p2) (j5_4) (j5_3)
  ) else (
  if s86_0 ≠ 0 then (
  f_X1_threeMoreMeetAt_145 (V) (a0) (p1) (p2) (j5_4) (j5_3)
  ) else (
  f_X1_threeMoreMeetAt_125 (V) (s112_0) (s86_0) (s68_0) (s42_0) (a0) (p1) (p2) (j5_4) (j5_3)
  )
  )

noncomputable def f_X1_threeMoreMeetAt_86 (V : dV) (s68_0 s42_0 a0 p1 p2 j5_3 j5_4 s86_0 : Int) : Sum (dV × Int × Int × Int × Int × Int) (dP) :=
  dv_b (V a0 4 (j5_4)) fun x12 =>
  dv_b (V a0 0 (j5_4)) fun x13 =>
  dv_b (dv_add (x12) (x13)) fun x14 =>
  if x14 ≠ p2 then (
  f_X1_threeMoreMeetAt_112 (V) (s86_0) (s68_0) (s42_0) (a0) (p1) (p2) (j5_3) (j5_4) (0)
  ) else (
  f_X1_threeMoreMeetAt_112 (V) (s86_0) (s68_0) (s42_0) (a0) (p1) (p2) (j5_3) (j5_4) (1)
  )

noncomputable def f_X1_threeMoreMeetAt_68 (V : dV) (s42_0 a0 p1 p2 j5_3 j5_4 s68_0 : Int) : Sum (dV × Int × Int × Int × Int × Int) (dP) :=
  dv_b (V a0 4 (j5_4)) fun x11 =>
  if x11 ≠ p2 then (
  f_X1_threeMoreMeetAt_86 (V) (s68_0) (s42_0) (a0) (p1) (p2) (j5_3) (j5_4) (0)
  ) else (
  f_X1_threeMoreMeetAt_86 (V) (s68_0) (s42_0) (a0) (p1) (p2) (j5_3) (j5_4) (1)
  )

noncomputable def f_X1_threeMoreMeetAt_42 (V : dV) (a0 p1 p2 j5_3 j5_4 s42_0 : Int) : Sum (dV × Int × Int × Int × Int × Int) (dP) :=
  dv_b (V a0 3 (j5_4)) fun x6 =>
  dv_b (V a0 0 (j5_4)) fun x8 =>
  dv_b (dv_add (x6) (x8)) fun x9 =>
  if x9 ≠ p1 then (
  f_X1_threeMoreMeetAt_68 (V) (s42_0) (a0) (p1) (p2) (j5_3) (j5_4) (0)
  ) else (
  f_X1_threeMoreMeetAt_68 (V) (s42_0) (a0) (p1) (p2) (j5_3) (j5_4) (1)
  )

noncomputable def f_X1_threeMoreMeetAt_5c (V : dV) (a0 p1 p2 j5_3 j5_4 : Int) : Sum (dV × Int × Int × Int × Int × Int) (dP) :=
  dv_b (V a0 7 0) fun zz1 =>
  if zz1 ≤ j5_4 then (
  if j5_3 ≠ 3 then (
  Sum.inr ((0, ()))
  ) else (
  Sum.inr ((1, ()))
  )
  ) else (
  dv_b2 (f_X1_isLaid V (a0) (j5_4)) fun x2 _ =>
  if x2 ≠ 0 then (
  dv_b (V a0 3 (j5_4)) fun x5 =>
  if x5 ≠ p1 then (
  f_X1_threeMoreMeetAt_42 (V) (a0) (p1) (p2) (j5_3) (j5_4) (0)
  ) else (
  f_X1_threeMoreMeetAt_42 (V) (a0) (p1) (p2) (j5_3) (j5_4) (1)
  )
  ) else (
  f_X1_threeMoreMeetAt_152 (V) (a0) (p1) (p2) (j5_4) (j5_3)
  )
  )
noncomputable def f_X1_threeMoreMeetAt_5b (s : (dV × Int × Int × Int × Int × Int)) : Sum (dV × Int × Int × Int × Int × Int) (dP) := f_X1_threeMoreMeetAt_5c (s.1) (s.2.1) (s.2.2.1) (s.2.2.2.1) (s.2.2.2.2.1) (s.2.2.2.2.2)

theorem f_X1_threeMoreMeetAt_5e (V : dV) (a0 p1 p2 j5_3 j5_4 : Int) : f_X1_threeMoreMeetAt_5b (V, a0, p1, p2, j5_3, j5_4) = f_X1_threeMoreMeetAt_5c V a0 p1 p2 j5_3 j5_4 := rfl

noncomputable def f_X1_threeMoreMeetAt (V : dV) (a0 p1 p2 : Int) : dP :=
  dv_lp (f_X1_threeMoreMeetAt_5b) (V, a0, p1, p2, 0, 0)

noncomputable def f_X1_crossPoints_56 (V : dV) (a0 j4_2 j56_1 : Int) : Sum (dV × Int × Int × Int) (dP) :=
  dv_b (j4_2 + 1) fun x3 =>
  Sum.inl (V, a0, j56_1, x3)

noncomputable def f_X1_crossPoints_4c (V : dV) (a0 j4_1 j4_2 : Int) : Sum (dV × Int × Int × Int) (dP) :=
  dv_b (V a0 7 0) fun zz1 =>
  if zz1 ≤ j4_2 then (
  Sum.inr ((j4_1, ()))
  ) else (
  dv_b2 (f_X1_isLaid V (a0) (j4_2)) fun x2 _ =>
  if x2 = 0 then (
  f_X1_crossPoints_56 (V) (a0) (j4_2) (j4_1)
  ) else (
  dv_b (V a0 3 (j4_2)) fun x5 =>
  dv_b (V a0 0 (j4_2)) fun x7 =>
  dv_b (dv_add (x5) (x7)) fun x8 =>
  dv_b (V a0 4 (j4_2)) fun x10 =>
  dv_b (V a0 0 (j4_2)) fun x11 =>
  dv_b (dv_add (x10) (x11)) fun x12 =>
  dv_b2 (f_X1_threeMoreMeetAt V (a0) (x8) (x12)) fun x13 _ =>
  if x13 = 0 then (
  f_X1_crossPoints_56 (V) (a0) (j4_2) (j4_1)
  ) else (
  dv_b (dv_add (j4_1) (1)) fun x14 =>
  f_X1_crossPoints_56 (V) (a0) (j4_2) (x14)
  )
  )
  )
noncomputable def f_X1_crossPoints_4b (s : (dV × Int × Int × Int)) : Sum (dV × Int × Int × Int) (dP) := f_X1_crossPoints_4c (s.1) (s.2.1) (s.2.2.1) (s.2.2.2)

theorem f_X1_crossPoints_4e (V : dV) (a0 j4_1 j4_2 : Int) : f_X1_crossPoints_4b (V, a0, j4_1, j4_2) = f_X1_crossPoints_4c V a0 j4_1 j4_2 := rfl

noncomputable def f_X1_crossPoints (V : dV) (a0 : Int) : dP :=
  dv_lp (f_X1_crossPoints_4b) (V, a0, 0, 0)

noncomputable def f_X1_sidesAtLine_60 (V : dV) (a0 p1 p2 j5_4 j60_3 : Int) : Sum (dV × Int × Int × Int × Int × Int) (dP) :=
  dv_b (j5_4 + 1) fun x3 =>
  Sum.inl (V, a0, p1, p2, j60_3, x3)

noncomputable def f_X1_sidesAtLine_45 (V : dV) (a0 p1 p2 j5_3 j5_4 x5 s45_1 : Int) : Sum (dV × Int × Int × Int × Int × Int) (dP) :=
  dv_b (dv_add (x5) (s45_1)) fun x6 =>
  if x6 ≠ p1 then (
  f_X1_sidesAtLine_60 (V) (a0) (p1) (p2) (j5_4) (j5_3)
  ) else (
  dv_b (V a0 0 (j5_4)) fun x8 =>
  dv_b (dv_add (j5_3) (x8)) fun x9 =>
  f_X1_sidesAtLine_60 (V) (a0) (p1) (p2) (j5_4) (x9)
  )

noncomputable def f_X1_sidesAtLine_5c (V : dV) (a0 p1 p2 j5_3 j5_4 : Int) : Sum (dV × Int × Int × Int × Int × Int) (dP) :=
  dv_b (V a0 7 0) fun zz1 =>
  if zz1 ≤ j5_4 then (
  Sum.inr ((j5_3, ()))
  ) else (
  dv_b2 (f_X1_isLaid V (a0) (j5_4)) fun x2 _ =>
  if x2 = 0 then (
  f_X1_sidesAtLine_60 (V) (a0) (p1) (p2) (j5_4) (j5_3)
  ) else (
  dv_b (V a0 4 (j5_4)) fun x5 =>
  if p2 = 0 then (
  f_X1_sidesAtLine_45 (V) (a0) (p1) (p2) (j5_3) (j5_4) (x5) (0)
  ) else (
  dv_b (V a0 0 (j5_4)) fun x11 =>
  f_X1_sidesAtLine_45 (V) (a0) (p1) (p2) (j5_3) (j5_4) (x5) (x11)
  )
  )
  )
noncomputable def f_X1_sidesAtLine_5b (s : (dV × Int × Int × Int × Int × Int)) : Sum (dV × Int × Int × Int × Int × Int) (dP) := f_X1_sidesAtLine_5c (s.1) (s.2.1) (s.2.2.1) (s.2.2.2.1) (s.2.2.2.2.1) (s.2.2.2.2.2)

theorem f_X1_sidesAtLine_5e (V : dV) (a0 p1 p2 j5_3 j5_4 : Int) : f_X1_sidesAtLine_5b (V, a0, p1, p2, j5_3, j5_4) = f_X1_sidesAtLine_5c V a0 p1 p2 j5_3 j5_4 := rfl

noncomputable def f_X1_sidesAtLine (V : dV) (a0 p1 p2 : Int) : dP :=
  dv_lp (f_X1_sidesAtLine_5b) (V, a0, p1, p2, 0, 0)

noncomputable def f_X1_twosOfOneSide_61 (V : dV) (a0 j4_2 j16_3 j16_1 s61_1 : Int) : Sum (dV × Int × Int × Int × Int) (Sum (dV × Int × Int × Int) (dP)) :=
  dv_b (dv_add (j16_1) (s61_1)) fun x5 =>
  dv_b (j16_3 + 1) fun x6 =>
  Sum.inl (V, a0, j4_2, x5, x6)

noncomputable def f_X1_twosOfOneSide_60 (V : dV) (a0 j4_2 j16_3 j16_1 : Int) : Sum (dV × Int × Int × Int × Int) (Sum (dV × Int × Int × Int) (dP)) :=
  f_X1_twosOfOneSide_61 (V) (a0) (j4_2) (j16_3) (j16_1) (0)

noncomputable def f_X1_twosOfOneSide_16c (V : dV) (a0 j4_2 j16_1 j16_3 : Int) : Sum (dV × Int × Int × Int × Int) (Sum (dV × Int × Int × Int) (dP)) :=
  dv_b (V a0 7 0) fun zz2 =>
  if zz2 ≤ j16_3 then (
  dv_b (j4_2 + 1) fun x3 =>
  Sum.inr (Sum.inl (V, a0, j16_1, x3))
  ) else (
  dv_b2 (f_X1_isLaid V (a0) (j4_2)) fun x4 _ =>
  if x4 = 0 then (
  f_X1_twosOfOneSide_60 (V) (a0) (j4_2) (j16_3) (j16_1)
  ) else (
  dv_b2 (f_X1_isLaid V (a0) (j16_3)) fun x7 _ =>
  if x7 = 0 then (
  f_X1_twosOfOneSide_60 (V) (a0) (j4_2) (j16_3) (j16_1)
  ) else (
  dv_b (V a0 0 (j4_2)) fun x9 =>
  dv_b (V a0 0 (j16_3)) fun x10 =>
  if x9 ≠ x10 then (
  f_X1_twosOfOneSide_60 (V) (a0) (j4_2) (j16_3) (j16_1)
  ) else (
  f_X1_twosOfOneSide_61 (V) (a0) (j4_2) (j16_3) (j16_1) (1)
  )
  )
  )
  )
noncomputable def f_X1_twosOfOneSide_16b (s : (dV × Int × Int × Int × Int)) : Sum (dV × Int × Int × Int × Int) (Sum (dV × Int × Int × Int) (dP)) := f_X1_twosOfOneSide_16c (s.1) (s.2.1) (s.2.2.1) (s.2.2.2.1) (s.2.2.2.2)

theorem f_X1_twosOfOneSide_16e (V : dV) (a0 j4_2 j16_1 j16_3 : Int) : f_X1_twosOfOneSide_16b (V, a0, j4_2, j16_1, j16_3) = f_X1_twosOfOneSide_16c V a0 j4_2 j16_1 j16_3 := rfl

noncomputable def f_X1_twosOfOneSide_4c (V : dV) (a0 j4_1 j4_2 : Int) : Sum (dV × Int × Int × Int) (dP) :=
  dv_b (V a0 7 0) fun zz1 =>
  if zz1 ≤ j4_2 then (
  Sum.inr ((j4_1, ()))
  ) else (
  dv_b (j4_2 + 1) fun x2 =>
  dv_lp (f_X1_twosOfOneSide_16b) (V, a0, j4_2, j4_1, x2)
  )
noncomputable def f_X1_twosOfOneSide_4b (s : (dV × Int × Int × Int)) : Sum (dV × Int × Int × Int) (dP) := f_X1_twosOfOneSide_4c (s.1) (s.2.1) (s.2.2.1) (s.2.2.2)

theorem f_X1_twosOfOneSide_4e (V : dV) (a0 j4_1 j4_2 : Int) : f_X1_twosOfOneSide_4b (V, a0, j4_1, j4_2) = f_X1_twosOfOneSide_4c V a0 j4_1 j4_2 := rfl

noncomputable def f_X1_twosOfOneSide (V : dV) (a0 : Int) : dP :=
  dv_lp (f_X1_twosOfOneSide_4b) (V, a0, 0, 0)

noncomputable def f_X1_isInnerHall_138 (V : dV) (a0 p1 j18_7 j138_2 j138_3 j138_4 j138_5 j138_6 : Int) : Sum (dV × Int × Int × Int × Int × Int × Int × Int × Int) (dP) :=
  dv_b (j18_7 + 1) fun x11 =>
  Sum.inl (V, a0, p1, j138_2, j138_3, j138_4, j138_5, j138_6, x11)

noncomputable def f_X1_isInnerHall_18c (V : dV) (a0 p1 j18_2 j18_3 j18_4 j18_5 j18_6 j18_7 : Int) : Sum (dV × Int × Int × Int × Int × Int × Int × Int × Int) (dP) :=
  dv_b (V a0 7 0) fun zz1 =>
  if zz1 ≤ j18_7 then (
  dv_b (dv_sub (j18_3) (j18_2)) fun x2 =>
  dv_b (dv_sub (j18_5) (j18_4)) fun x3 =>
  dv_b (dv_mul (x2) (x3)) fun x4 =>
  if x4 ≠ j18_6 then (
  Sum.inr ((0, ()))
  ) else (
  dv_b (V a0 8 0) fun zz2 =>
  dv_b (V a0 9 0) fun zz3 =>
  dv_b (zz2 * zz3) fun x7 =>
  if x7 ≤ j18_6 then (
  Sum.inr ((0, ()))
  ) else (
  Sum.inr ((1, ()))
  )
  )
  ) else (
  dv_b (dv_shr (p1) (j18_7)) fun x9 =>
  dv_b (dv_and (x9) (1)) fun x10 =>
  if x10 ≠ 0 then (
  dv_b2 (f_X1_isLaid V (a0) (j18_7)) fun x12 _ =>
  if x12 ≠ 0 then (
  dv_b (V a0 3 (j18_7)) fun x14 =>
  dv_b (min (j18_2) (x14)) fun x15 =>
  dv_b (V a0 3 (j18_7)) fun x16 =>
  dv_b (V a0 0 (j18_7)) fun x18 =>
  dv_b (dv_add (x16) (x18)) fun x19 =>
  dv_b (max (j18_3) (x19)) fun x20 =>
  dv_b (V a0 4 (j18_7)) fun x22 =>
  dv_b (min (j18_4) (x22)) fun x23 =>
  dv_b (V a0 4 (j18_7)) fun x24 =>
  dv_b (V a0 0 (j18_7)) fun x25 =>
  dv_b (dv_add (x24) (x25)) fun x26 =>
  dv_b (max (j18_5) (x26)) fun x27 =>
  dv_b (V a0 0 (j18_7)) fun x28 =>
  dv_b (V a0 0 (j18_7)) fun x29 =>
  dv_b (x28 * x29) fun x30 =>
  dv_b (dv_add (j18_6) (x30)) fun x32 =>
  f_X1_isInnerHall_138 (V) (a0) (p1) (j18_7) (x15) (x20) (x23) (x27) (x32)
  ) else (
  Sum.inr ((0, ()))
  )
  ) else (
  f_X1_isInnerHall_138 (V) (a0) (p1) (j18_7) (j18_2) (j18_3) (j18_4) (j18_5) (j18_6)
  )
  )
noncomputable def f_X1_isInnerHall_18b (s : (dV × Int × Int × Int × Int × Int × Int × Int × Int)) : Sum (dV × Int × Int × Int × Int × Int × Int × Int × Int) (dP) := f_X1_isInnerHall_18c (s.1) (s.2.1) (s.2.2.1) (s.2.2.2.1) (s.2.2.2.2.1) (s.2.2.2.2.2.1) (s.2.2.2.2.2.2.1) (s.2.2.2.2.2.2.2.1) (s.2.2.2.2.2.2.2.2)

theorem f_X1_isInnerHall_18e (V : dV) (a0 p1 j18_2 j18_3 j18_4 j18_5 j18_6 j18_7 : Int) : f_X1_isInnerHall_18b (V, a0, p1, j18_2, j18_3, j18_4, j18_5, j18_6, j18_7) = f_X1_isInnerHall_18c V a0 p1 j18_2 j18_3 j18_4 j18_5 j18_6 j18_7 := rfl

noncomputable def f_X1_isInnerHall (V : dV) (a0 p1 : Int) : dP :=
  dv_lp (f_X1_isInnerHall_18b) (V, a0, p1, 12, 0, 12, 0, 0, 0)

noncomputable def f_X1_innerHalls_33 (V : dV) (a0 j4_2 j33_1 : Int) : Sum (dV × Int × Int × Int) (dP) :=
  dv_b (j4_2 + 1) fun x4 =>
  Sum.inl (V, a0, j33_1, x4)

noncomputable def f_X1_innerHalls_4c (V : dV) (a0 j4_1 j4_2 : Int) : Sum (dV × Int × Int × Int) (dP) :=
  dv_b (V a0 7 0) fun zz1 =>
  dv_b (dv_shl (1) (zz1)) fun x2 =>
  if x2 ≤ j4_2 then (
  Sum.inr ((j4_1, ()))
  ) else (
  dv_b2 (f_J6_bitCount_0f7a4 V (j4_2)) fun x3 _ =>
  if x3 < 2 then (
  f_X1_innerHalls_33 (V) (a0) (j4_2) (j4_1)
  ) else (
  dv_b2 (f_X1_isInnerHall V (a0) (j4_2)) fun x5 _ =>
  if x5 = 0 then (
  f_X1_innerHalls_33 (V) (a0) (j4_2) (j4_1)
  ) else (
  dv_b (dv_add (j4_1) (1)) fun x6 =>
  f_X1_innerHalls_33 (V) (a0) (j4_2) (x6)
  )
  )
  )
noncomputable def f_X1_innerHalls_4b (s : (dV × Int × Int × Int)) : Sum (dV × Int × Int × Int) (dP) := f_X1_innerHalls_4c (s.1) (s.2.1) (s.2.2.1) (s.2.2.2)

theorem f_X1_innerHalls_4e (V : dV) (a0 j4_1 j4_2 : Int) : f_X1_innerHalls_4b (V, a0, j4_1, j4_2) = f_X1_innerHalls_4c V a0 j4_1 j4_2 := rfl

noncomputable def f_X1_innerHalls (V : dV) (a0 : Int) : dP :=
  dv_lp (f_X1_innerHalls_4b) (V, a0, 0, 0)

noncomputable def f_X1_add (V : dV) (a0 p1 p2 p3 : Int) : dR :=
  if p1 < 1 then (
  (V, (-1))
  ) else (
  if 12 < p1 then (
  (V, (-1))
  ) else (
  if p2 < 0 then (
  (V, (-1))
  ) else (
  if 3 < p2 then (
  (V, (-1))
  ) else (
  if p3 < 0 then (
  (V, (-1))
  ) else (
  if p3 ≤ 9 then (
  dv_b (V a0 7 0) fun zz1 =>
  if zz1 < 9 then (
  dv_b (V a0 7 0) fun zz2 =>
  dv_b (dv_u V a0 0 (zz2) (p1)) fun V53 =>
  dv_b (V53 a0 7 0) fun zz3 =>
  dv_b (dv_u V53 a0 1 (zz3) (p2)) fun V63 =>
  dv_b (V63 a0 7 0) fun zz4 =>
  dv_b (dv_u V63 a0 2 (zz4) (p3)) fun V73 =>
  dv_b (V73 a0 7 0) fun zz5 =>
  dv_b (dv_u V73 a0 3 (zz5) ((-1))) fun V83 =>
  dv_b (V83 a0 7 0) fun zz6 =>
  dv_b (dv_u V83 a0 4 (zz6) ((-1))) fun V93 =>
  dv_b (V93 a0 7 0) fun zz7 =>
  dv_b (zz7 + 1) fun x12 =>
  dv_b (dv_u V93 a0 7 0 (x12)) fun V101 =>
  dv_b (V101 a0 7 0) fun zz8 =>
  dv_b (zz8 - 1) fun x14 =>
  (V101, x14)
  ) else (
  (V, (-5))
  )
  ) else (
  (V, (-1))
  )
  )
  )
  )
  )
  )

noncomputable def f_X1_rollUp (V : dV) (a0 p1 : Int) : dR :=
  dv_b2 (f_X1_has V (a0) (p1)) fun x1 _ =>
  if x1 = 0 then (
  (V, 0)
  ) else (
  dv_b (dv_u V a0 3 (p1) ((-1))) fun V14 =>
  dv_b (dv_u V14 a0 4 (p1) ((-1))) fun V21 =>
  (V21, 0)
  )

noncomputable def f_X1_emptyInto_2c (V : dV) (a0 p1 p2 j2_3 : Int) : Sum (dV × Int × Int × Int × Int) (dR) :=
  dv_b (V a0 7 0) fun zz1 =>
  if zz1 ≤ j2_3 then (
  dv_b (dv_u V a0 8 0 (p1)) fun V23 =>
  dv_b (dv_u V23 a0 9 0 (p2)) fun V28 =>
  Sum.inr ((V28, 0))
  ) else (
  dv_b2 (f_X1_rollUp V (a0) (j2_3)) fun V12 _ =>
  dv_b (j2_3 + 1) fun x5 =>
  Sum.inl (V12, a0, p1, p2, x5)
  )
noncomputable def f_X1_emptyInto_2b (s : (dV × Int × Int × Int × Int)) : Sum (dV × Int × Int × Int × Int) (dR) := f_X1_emptyInto_2c (s.1) (s.2.1) (s.2.2.1) (s.2.2.2.1) (s.2.2.2.2)

theorem f_X1_emptyInto_2e (V : dV) (a0 p1 p2 j2_3 : Int) : f_X1_emptyInto_2b (V, a0, p1, p2, j2_3) = f_X1_emptyInto_2c V a0 p1 p2 j2_3 := rfl

noncomputable def f_X1_emptyInto (V : dV) (a0 p1 p2 : Int) : dR :=
  dv_lp (f_X1_emptyInto_2b) (V, a0, p1, p2, 0)

noncomputable def f_X1_turnOver_47 (V : dV) (a0 j4_2 j47_1 : Int) : Sum (dV × Int × Int × Int) (dR) :=
  dv_b (j4_2 + 1) fun x4 =>
  Sum.inl (V, a0, j47_1, x4)

noncomputable def f_X1_turnOver_4c (V : dV) (a0 j4_1 j4_2 : Int) : Sum (dV × Int × Int × Int) (dR) :=
  dv_b (V a0 7 0) fun zz1 =>
  if zz1 ≤ j4_2 then (
  Sum.inr ((V, j4_1))
  ) else (
  dv_b2 (f_X1_isLaid V (a0) (j4_2)) fun x2 _ =>
  if x2 = 0 then (
  f_X1_turnOver_47 (V) (a0) (j4_2) (j4_1)
  ) else (
  dv_b (V a0 8 0) fun zz2 =>
  dv_b (V a0 3 (j4_2)) fun x7 =>
  dv_b (dv_sub (zz2) (x7)) fun x8 =>
  dv_b (V a0 0 (j4_2)) fun x10 =>
  dv_b (dv_sub (x8) (x10)) fun x11 =>
  dv_b (dv_u V a0 3 (j4_2) (x11)) fun V43 =>
  dv_b (dv_add (j4_1) (1)) fun x16 =>
  f_X1_turnOver_47 (V43) (a0) (j4_2) (x16)
  )
  )
noncomputable def f_X1_turnOver_4b (s : (dV × Int × Int × Int)) : Sum (dV × Int × Int × Int) (dR) := f_X1_turnOver_4c (s.1) (s.2.1) (s.2.2.1) (s.2.2.2)

theorem f_X1_turnOver_4e (V : dV) (a0 j4_1 j4_2 : Int) : f_X1_turnOver_4b (V, a0, j4_1, j4_2) = f_X1_turnOver_4c V a0 j4_1 j4_2 := rfl

noncomputable def f_X1_turnOver (V : dV) (a0 : Int) : dR :=
  dv_lp (f_X1_turnOver_4b) (V, a0, 0, 0)

noncomputable def f_X1_drawRows_93 (V : dV) (a0 j10_1 : Int) : Sum (dV × Int × Int) (dR) :=
  dv_b (j10_1 + 1) fun x8 =>
  Sum.inl (V, a0, x8)

noncomputable def f_X1_drawRows_54c (V : dV) (x15 a0 j10_1 j54_3 : Int) : Sum (dV × Int × Int × Int × Int) (Sum (dV × Int × Int) (dR)) :=
  dv_b (V a0 4 (j10_1)) fun x23 =>
  dv_b (V a0 0 (j10_1)) fun x24 =>
  dv_b (dv_add (x23) (x24)) fun x25 =>
  if x25 ≤ j54_3 then (
  Sum.inr (f_X1_drawRows_93 (V) (a0) (j10_1))
  ) else (
  if 12 ≤ j54_3 then (
  Sum.inr (f_X1_drawRows_93 (V) (a0) (j10_1))
  ) else (
  dv_b (V a0 6 (j54_3)) fun x26 =>
  dv_b (dv_or (x26) (x15)) fun x27 =>
  dv_b (dv_u V a0 6 (j54_3) (x27)) fun V86 =>
  dv_b (j54_3 + 1) fun x33 =>
  Sum.inl (V86, x15, a0, j10_1, x33)
  )
  )
noncomputable def f_X1_drawRows_54b (s : (dV × Int × Int × Int × Int)) : Sum (dV × Int × Int × Int × Int) (Sum (dV × Int × Int) (dR)) := f_X1_drawRows_54c (s.1) (s.2.1) (s.2.2.1) (s.2.2.2.1) (s.2.2.2.2)

theorem f_X1_drawRows_54e (V : dV) (x15 a0 j10_1 j54_3 : Int) : f_X1_drawRows_54b (V, x15, a0, j10_1, j54_3) = f_X1_drawRows_54c V x15 a0 j10_1 j54_3 := rfl

noncomputable def f_X1_drawRows_10c (V : dV) (a0 j10_1 : Int) : Sum (dV × Int × Int) (dR) :=
  dv_b (V a0 7 0) fun zz1 =>
  if zz1 ≤ j10_1 then (
  Sum.inr ((V, 0))
  ) else (
  dv_b2 (f_X1_isLaid V (a0) (j10_1)) fun x5 _ =>
  if x5 ≠ 0 then (
  dv_b (V a0 0 (j10_1)) fun x10 =>
  dv_b (dv_shl (1) (x10)) fun x11 =>
  dv_b (dv_sub (x11) (1)) fun x12 =>
  dv_b (V a0 3 (j10_1)) fun x14 =>
  dv_b (dv_shl (x12) (x14)) fun x15 =>
  dv_b (V a0 4 (j10_1)) fun x17 =>
  dv_lp (f_X1_drawRows_54b) (V, x15, a0, j10_1, x17)
  ) else (
  f_X1_drawRows_93 (V) (a0) (j10_1)
  )
  )
noncomputable def f_X1_drawRows_10b (s : (dV × Int × Int)) : Sum (dV × Int × Int) (dR) := f_X1_drawRows_10c (s.1) (s.2.1) (s.2.2)

theorem f_X1_drawRows_10e (V : dV) (a0 j10_1 : Int) : f_X1_drawRows_10b (V, a0, j10_1) = f_X1_drawRows_10c V a0 j10_1 := rfl

noncomputable def f_X1_drawRows (V : dV) (a0 : Int) : dR :=
  dv_b2 (f_J7_fill_53178_Frows V (a0) (0)) fun V5 _ =>
  dv_lp (f_X1_drawRows_10b) (V5, a0, 0)

noncomputable def f_X1_firstBareCell_54 (V : dV) (a0 j6_1 : Int) : Sum (dV × Int × Int) (dR) :=
  dv_b (j6_1 + 1) fun x4 =>
  Sum.inl (V, a0, x4)

noncomputable def f_X1_firstBareCell_6c (V : dV) (a0 j6_1 : Int) : Sum (dV × Int × Int) (dR) :=
  if 144 ≤ j6_1 then (
  Sum.inr ((V, (-1)))
  ) else (
  dv_b (j6_1 % 12) fun x1 =>
  dv_b (j6_1 / 12) fun x2 =>
  dv_b (V a0 8 0) fun zz1 =>
  if zz1 ≤ x1 then (
  f_X1_firstBareCell_54 (V) (a0) (j6_1)
  ) else (
  dv_b (V a0 9 0) fun zz2 =>
  if zz2 ≤ x2 then (
  f_X1_firstBareCell_54 (V) (a0) (j6_1)
  ) else (
  dv_b (V a0 6 (x2)) fun x7 =>
  dv_b (dv_shr (x7) (x1)) fun x8 =>
  dv_b (dv_and (x8) (1)) fun x9 =>
  if x9 ≠ 0 then (
  f_X1_firstBareCell_54 (V) (a0) (j6_1)
  ) else (
  Sum.inr ((V, j6_1))
  )
  )
  )
  )
noncomputable def f_X1_firstBareCell_6b (s : (dV × Int × Int)) : Sum (dV × Int × Int) (dR) := f_X1_firstBareCell_6c (s.1) (s.2.1) (s.2.2)

theorem f_X1_firstBareCell_6e (V : dV) (a0 j6_1 : Int) : f_X1_firstBareCell_6b (V, a0, j6_1) = f_X1_firstBareCell_6c V a0 j6_1 := rfl

noncomputable def f_X1_firstBareCell (V : dV) (a0 : Int) : dR :=
  dv_b2 (f_X1_drawRows V (a0)) fun V1 _ =>
  dv_lp (f_X1_firstBareCell_6b) (V1, a0, 0)

noncomputable def f_X1_placesFor_97 (V : dV) (x2 a0 p1 j15_4 j33_5 j70_6 j70_3 s97_1 : Int) : Sum (dV × Int × Int × Int × Int × Int × Int × Int) (Sum (dV × Int × Int × Int × Int × Int × Int × Int) (Sum (dV × Int × Int × Int × Int × Int) (dR))) :=
  dv_b (dv_add (j70_3) (s97_1)) fun x11 =>
  dv_b (j70_6 + 1) fun x12 =>
  Sum.inl (V, x2, a0, p1, j15_4, j33_5, x11, x12)

noncomputable def f_X1_placesFor_70c (V : dV) (x2 a0 p1 j15_4 j33_5 j70_3 j70_6 : Int) : Sum (dV × Int × Int × Int × Int × Int × Int × Int) (Sum (dV × Int × Int × Int × Int × Int × Int × Int) (Sum (dV × Int × Int × Int × Int × Int) (dR))) :=
  dv_b (j70_6 + p1) fun x6 =>
  dv_b (V a0 8 0) fun zz2 =>
  if zz2 < x6 then (
  dv_b (j15_4 + 1) fun x8 =>
  Sum.inr (Sum.inr (Sum.inl (V, x2, a0, p1, j70_3, x8)))
  ) else (
  dv_b (dv_shr (j33_5) (j70_6)) fun x9 =>
  dv_b (dv_and (x9) (x2)) fun x10 =>
  if x10 ≠ 0 then (
  f_X1_placesFor_97 (V) (x2) (a0) (p1) (j15_4) (j33_5) (j70_6) (j70_3) (0)
  ) else (
  f_X1_placesFor_97 (V) (x2) (a0) (p1) (j15_4) (j33_5) (j70_6) (j70_3) (1)
  )
  )
noncomputable def f_X1_placesFor_70b (s : (dV × Int × Int × Int × Int × Int × Int × Int)) : Sum (dV × Int × Int × Int × Int × Int × Int × Int) (Sum (dV × Int × Int × Int × Int × Int × Int × Int) (Sum (dV × Int × Int × Int × Int × Int) (dR))) := f_X1_placesFor_70c (s.1) (s.2.1) (s.2.2.1) (s.2.2.2.1) (s.2.2.2.2.1) (s.2.2.2.2.2.1) (s.2.2.2.2.2.2.1) (s.2.2.2.2.2.2.2)

theorem f_X1_placesFor_70e (V : dV) (x2 a0 p1 j15_4 j33_5 j70_3 j70_6 : Int) : f_X1_placesFor_70b (V, x2, a0, p1, j15_4, j33_5, j70_3, j70_6) = f_X1_placesFor_70c V x2 a0 p1 j15_4 j33_5 j70_3 j70_6 := rfl

noncomputable def f_X1_placesFor_67 (V : dV) (x2 a0 p1 j15_3 j15_4 j33_5 : Int) : Sum (dV × Int × Int × Int × Int × Int × Int × Int) (Sum (dV × Int × Int × Int × Int × Int) (dR)) :=
  dv_lp (f_X1_placesFor_70b) (V, x2, a0, p1, j15_4, j33_5, j15_3, 0)

noncomputable def f_X1_placesFor_33c (V : dV) (x2 a0 p1 j15_3 j15_4 j33_5 j33_6 : Int) : Sum (dV × Int × Int × Int × Int × Int × Int × Int) (Sum (dV × Int × Int × Int × Int × Int) (dR)) :=
  dv_b (j15_4 + p1) fun x5 =>
  if x5 ≤ j33_6 then (
  f_X1_placesFor_67 (V) (x2) (a0) (p1) (j15_3) (j15_4) (j33_5)
  ) else (
  if 12 ≤ j33_6 then (
  f_X1_placesFor_67 (V) (x2) (a0) (p1) (j15_3) (j15_4) (j33_5)
  ) else (
  dv_b (V a0 6 (j33_6)) fun x14 =>
  dv_b (dv_or (j33_5) (x14)) fun x15 =>
  dv_b (j33_6 + 1) fun x16 =>
  Sum.inl (V, x2, a0, p1, j15_3, j15_4, x15, x16)
  )
  )
noncomputable def f_X1_placesFor_33b (s : (dV × Int × Int × Int × Int × Int × Int × Int)) : Sum (dV × Int × Int × Int × Int × Int × Int × Int) (Sum (dV × Int × Int × Int × Int × Int) (dR)) := f_X1_placesFor_33c (s.1) (s.2.1) (s.2.2.1) (s.2.2.2.1) (s.2.2.2.2.1) (s.2.2.2.2.2.1) (s.2.2.2.2.2.2.1) (s.2.2.2.2.2.2.2)

theorem f_X1_placesFor_33e (V : dV) (x2 a0 p1 j15_3 j15_4 j33_5 j33_6 : Int) : f_X1_placesFor_33b (V, x2, a0, p1, j15_3, j15_4, j33_5, j33_6) = f_X1_placesFor_33c V x2 a0 p1 j15_3 j15_4 j33_5 j33_6 := rfl

noncomputable def f_X1_placesFor_15c (V : dV) (x2 a0 p1 j15_3 j15_4 : Int) : Sum (dV × Int × Int × Int × Int × Int) (dR) :=
  dv_b (j15_4 + p1) fun x3 =>
  dv_b (V a0 9 0) fun zz1 =>
  if zz1 < x3 then (
  Sum.inr ((V, j15_3))
  ) else (
  dv_lp (f_X1_placesFor_33b) (V, x2, a0, p1, j15_3, j15_4, 0, j15_4)
  )
noncomputable def f_X1_placesFor_15b (s : (dV × Int × Int × Int × Int × Int)) : Sum (dV × Int × Int × Int × Int × Int) (dR) := f_X1_placesFor_15c (s.1) (s.2.1) (s.2.2.1) (s.2.2.2.1) (s.2.2.2.2.1) (s.2.2.2.2.2)

theorem f_X1_placesFor_15e (V : dV) (x2 a0 p1 j15_3 j15_4 : Int) : f_X1_placesFor_15b (V, x2, a0, p1, j15_3, j15_4) = f_X1_placesFor_15c V x2 a0 p1 j15_3 j15_4 := rfl

noncomputable def f_X1_placesFor (V : dV) (a0 p1 : Int) : dR :=
  dv_b2 (f_X1_drawRows V (a0)) fun V1 _ =>
  dv_b (dv_shl (1) (p1)) fun x1 =>
  dv_b (dv_sub (x1) (1)) fun x2 =>
  dv_lp (f_X1_placesFor_15b) (V1, x2, a0, p1, 0, 0)

noncomputable def f_X10_clear (V : dV) (a0 : Int) : dR :=
  dv_b (dv_u V a0 2 0 (0)) fun V2 =>
  dv_b (dv_u V2 a0 3 0 (0)) fun V7 =>
  (V7, 0)

noncomputable def f_X10_add (V : dV) (a0 p1 : Int) : dR :=
  if p1 = (-1) then (
  (V, 0)
  ) else (
  dv_b (V a0 2 0) fun zz1 =>
  dv_b (400) fun x3 =>
  if x3 ≤ zz1 then (
  (V, 0)
  ) else (
  dv_b (V a0 2 0) fun zz2 =>
  dv_b (dv_u V a0 0 (zz2) (p1)) fun V26 =>
  dv_b (V26 a0 2 0) fun zz3 =>
  dv_b (zz3 + 1) fun x6 =>
  dv_b (dv_u V26 a0 2 0 (x6)) fun V34 =>
  (V34, 0)
  )
  )

noncomputable def f_X10_addJump (V : dV) (a0 p1 : Int) : dR :=
  dv_b2 (f_X10_add V (a0) (p1)) fun V2 _ =>
  dv_b2 (f_X10_add V2 (a0) (0)) fun V7 _ =>
  dv_b (V7 a0 2 0) fun zz1 =>
  dv_b (zz1 - 1) fun x2 =>
  (V7, x2)

noncomputable def f_X10_setCode (V : dV) (a0 p1 p2 : Int) : dR :=
  if p1 < 0 then (
  (V, 0)
  ) else (
  dv_b (V a0 2 0) fun zz1 =>
  if zz1 ≤ p1 then (
  (V, 0)
  ) else (
  dv_b (dv_u V a0 0 (p1) (p2)) fun V18 =>
  (V18, 0)
  )
  )

noncomputable def f_X10_setMark (V : dV) (a0 p1 p2 : Int) : dR :=
  dv_b (V a0 3 0) fun zz1 =>
  dv_b (zz1 - 1) fun x2 =>
  dv_b (x2 * 8) fun x3 =>
  dv_b (x3 + p1) fun x4 =>
  if x4 < 0 then (
  (V, 0)
  ) else (
  dv_b (96) fun x6 =>
  if x6 ≤ x4 then (
  dv_z
  ) else (
  dv_b (dv_u V a0 1 (x4) (p2)) fun V31 =>
  (V31, 0)
  )
  )

noncomputable def f_X10_openClause (V : dV) (a0 p1 : Int) : dR :=
  dv_b (V a0 3 0) fun zz1 =>
  if zz1 < 12 then (
  dv_b (V a0 3 0) fun zz2 =>
  dv_b (zz2 + 1) fun x2 =>
  dv_b (dv_u V a0 3 0 (x2)) fun V17 =>
  dv_b2 (f_X10_setMark V17 (a0) (0) (p1)) fun V23 _ =>
  dv_b2 (f_X10_setMark V23 (a0) (1) (1)) fun V29 _ =>
  (V29, 0)
  ) else (
  (V, 0)
  )

noncomputable def f_X10_mark (V : dV) (a0 p1 p2 : Int) : dP :=
  dv_b (p1 * 8) fun x1 =>
  dv_b (x1 + p2) fun x2 =>
  if x2 < 0 then (
  dv_zp
  ) else (
  dv_b (96) fun x4 =>
  if x4 ≤ x2 then (
  dv_zp
  ) else (
  dv_b (V a0 1 (x2)) fun x5 =>
  (x5, ())
  )
  )

noncomputable def f_X10_copyFrom (V : dV) (a0 p1 : Int) : dR :=
  dv_b (V p1 2 0) fun zz1 =>
  dv_b (dv_c V p1 0 (0) a0 0 (0) (zz1)) fun V14 =>
  dv_b (V14 p1 3 0) fun zz2 =>
  dv_b (zz2 * 8) fun x9 =>
  dv_b (dv_c V14 p1 1 (0) a0 1 (0) (x9)) fun V34 =>
  dv_b (V34 p1 2 0) fun zz3 =>
  dv_b (dv_u V34 a0 2 0 (zz3)) fun V42 =>
  dv_b (V42 p1 3 0) fun zz4 =>
  dv_b (dv_u V42 a0 3 0 (zz4)) fun V50 =>
  (V50, 0)

noncomputable def f_X9_addFour_3c (V : dV) (a0 p1 j3_2 : Int) : Sum (dV × Int × Int × Int) (dR) :=
  if j3_2 < 0 then (
  Sum.inr ((V, 0))
  ) else (
  dv_b (V a0 1 0) fun zz1 =>
  if 400 ≤ zz1 then (
  Sum.inr ((V, 0))
  ) else (
  dv_b (V a0 1 0) fun zz2 =>
  dv_b (dv_ushr (p1) (j3_2)) fun x3 =>
  dv_b (dv_and (x3) (255)) fun x4 =>
  dv_b (dv_u V a0 0 (zz2) (x4)) fun V32 =>
  dv_b (V32 a0 1 0) fun zz3 =>
  dv_b (zz3 + 1) fun x7 =>
  dv_b (dv_u V32 a0 1 0 (x7)) fun V40 =>
  dv_b (j3_2 + (-8)) fun x10 =>
  Sum.inl (V40, a0, p1, x10)
  )
  )
noncomputable def f_X9_addFour_3b (s : (dV × Int × Int × Int)) : Sum (dV × Int × Int × Int) (dR) := f_X9_addFour_3c (s.1) (s.2.1) (s.2.2.1) (s.2.2.2)

theorem f_X9_addFour_3e (V : dV) (a0 p1 j3_2 : Int) : f_X9_addFour_3b (V, a0, p1, j3_2) = f_X9_addFour_3c V a0 p1 j3_2 := rfl

noncomputable def f_X9_addFour (V : dV) (a0 p1 : Int) : dR :=
  dv_lp (f_X9_addFour_3b) (V, a0, p1, 24)

noncomputable def f_X6_setLawWords (V : dV) (a0 p1 p2 p3 p4 : Int) : dR :=
  dv_b (dv_u V a0 1 (0) (p2)) fun V6 =>
  dv_b (V6 p1 0 (p2)) fun x4 =>
  dv_b (dv_u V6 a0 1 (1) (x4)) fun V18 =>
  dv_b (V18 p1 1 (p2)) fun x7 =>
  dv_b (dv_u V18 a0 1 (2) (x7)) fun V30 =>
  dv_b (V30 p1 2 (p2)) fun x10 =>
  dv_b (dv_u V30 a0 1 (3) (x10)) fun V42 =>
  dv_b (dv_u V42 a0 1 (4) (p3)) fun V49 =>
  dv_b (dv_u V49 a0 1 (5) (p4)) fun V57 =>
  dv_b (V57 p1 5 (0)) fun x15 =>
  dv_b (dv_u V57 a0 1 (6) (x15)) fun V70 =>
  dv_b (V70 p1 5 (2)) fun x18 =>
  dv_b (dv_u V70 a0 1 (7) (x18)) fun V83 =>
  (V83, 0)

noncomputable def f_X6_setOrderWords_99 (V : dV) (a0 p1 j34_2 x13 s99_2 : Int) : Sum (dV × Int × Int × Int) (dR) :=
  dv_b (dv_u V a0 1 (x13) (s99_2)) fun V99 =>
  dv_b (j34_2 + 1) fun x16 =>
  Sum.inl (V99, a0, p1, x16)

noncomputable def f_X6_setOrderWords_65 (V : dV) (a0 p1 j34_2 x10 s65_2 : Int) : Sum (dV × Int × Int × Int) (dR) :=
  dv_b (dv_u V a0 1 (x10) (s65_2)) fun V65 =>
  dv_b (14 + j34_2) fun x13 =>
  dv_b2 (f_X1_has V65 (p1) (j34_2)) fun x14 _ =>
  if x14 ≠ 0 then (
  dv_b2 (f_X1_isLaid V65 (p1) (j34_2)) fun x17 _ =>
  if x17 = 0 then (
  f_X6_setOrderWords_99 (V65) (a0) (p1) (j34_2) (x13) (0)
  ) else (
  f_X6_setOrderWords_99 (V65) (a0) (p1) (j34_2) (x13) (1)
  )
  ) else (
  f_X6_setOrderWords_99 (V65) (a0) (p1) (j34_2) (x13) ((-1))
  )

noncomputable def f_X6_setOrderWords_34c (V : dV) (a0 p1 j34_2 : Int) : Sum (dV × Int × Int × Int) (dR) :=
  if 9 ≤ j34_2 then (
  Sum.inr ((V, 0))
  ) else (
  dv_b (5 + j34_2) fun x10 =>
  dv_b2 (f_X1_has V (p1) (j34_2)) fun x11 _ =>
  if x11 = 0 then (
  f_X6_setOrderWords_65 (V) (a0) (p1) (j34_2) (x10) ((-1))
  ) else (
  dv_b (V p1 2 (j34_2)) fun x19 =>
  f_X6_setOrderWords_65 (V) (a0) (p1) (j34_2) (x10) (x19)
  )
  )
noncomputable def f_X6_setOrderWords_34b (s : (dV × Int × Int × Int)) : Sum (dV × Int × Int × Int) (dR) := f_X6_setOrderWords_34c (s.1) (s.2.1) (s.2.2.1) (s.2.2.2)

theorem f_X6_setOrderWords_34e (V : dV) (a0 p1 j34_2 : Int) : f_X6_setOrderWords_34b (V, a0, p1, j34_2) = f_X6_setOrderWords_34c V a0 p1 j34_2 := rfl

noncomputable def f_X6_setOrderWords (V : dV) (a0 p1 : Int) : dR :=
  dv_b (V p1 5 (0)) fun x3 =>
  dv_b (dv_u V a0 1 (0) (x3)) fun V11 =>
  dv_b2 (f_X1_bareCells V11 (p1)) fun x5 _ =>
  dv_b (dv_u V11 a0 1 (3) (x5)) fun V21 =>
  dv_b (V21 p1 10 0) fun zz1 =>
  dv_b (dv_u V21 a0 1 (4) (zz1)) fun V31 =>
  dv_lp (f_X6_setOrderWords_34b) (V31, a0, p1, 0)

noncomputable def f_X6_reckon_538 (V : dV) (a0 p1 p3 j538_4 j538_5 : Int) : Sum (dV × Int × Int × Int × Int × Int) (dR) :=
  dv_b (j538_5 + 1) fun x14 =>
  Sum.inl (V, a0, p1, p3, j538_4, x14)

noncomputable def f_X6_reckon_148 (V : dV) (a0 p1 p3 j11_4 j11_5 : Int) : Sum (dV × Int × Int × Int × Int × Int) (dR) :=
  dv_b (dv_u V a0 3 0 (1)) fun V150 =>
  f_X6_reckon_538 (V150) (a0) (p1) (p3) (j11_4) (j11_5)

noncomputable def f_X6_reckon_268 (V : dV) (a0 p1 p3 j256_5 j11_4 s268_1 : Int) : Sum (dV × Int × Int × Int × Int × Int) (dR) :=
  dv_b (j11_4 - s268_1) fun x23 =>
  f_X6_reckon_538 (V) (a0) (p1) (p3) (x23) (j256_5)

noncomputable def f_X6_reckon_256 (V : dV) (s215_0 a0 p1 p3 j11_4 j256_5 : Int) : Sum (dV × Int × Int × Int × Int × Int) (dR) :=
  if s215_0 = 0 then (
  f_X6_reckon_268 (V) (a0) (p1) (p3) (j256_5) (j11_4) (1)
  ) else (
  f_X6_reckon_268 (V) (a0) (p1) (p3) (j256_5) (j11_4) (0)
  )

noncomputable def f_X6_reckon_215 (V : dV) (x18 a0 p1 p3 j11_4 s215_0 : Int) : Sum (dV × Int × Int × Int × Int × Int) (dR) :=
  if s215_0 = 0 then (
  f_X6_reckon_256 (V) (s215_0) (a0) (p1) (p3) (j11_4) (x18)
  ) else (
  dv_b (V p1 2 0) fun zz3 =>
  if zz3 ≤ x18 then (
  f_X6_reckon_256 (V) (s215_0) (a0) (p1) (p3) (j11_4) (x18)
  ) else (
  dv_b (V p1 0 (x18)) fun x24 =>
  dv_b (x24 - 1) fun x25 =>
  if x25 ≤ x18 then (
  f_X6_reckon_256 (V) (s215_0) (a0) (p1) (p3) (j11_4) (x18)
  ) else (
  dv_b (V p1 0 (x18)) fun x26 =>
  dv_b (x26 - 1) fun x27 =>
  f_X6_reckon_256 (V) (s215_0) (a0) (p1) (p3) (j11_4) (x27)
  )
  )
  )

noncomputable def f_X6_reckon_207 (V : dV) (x18 a0 p1 p3 j11_4 s194_0 s207_1 : Int) : Sum (dV × Int × Int × Int × Int × Int) (dR) :=
  if s194_0 ≠ s207_1 then (
  f_X6_reckon_215 (V) (x18) (a0) (p1) (p3) (j11_4) (0)
  ) else (
  f_X6_reckon_215 (V) (x18) (a0) (p1) (p3) (j11_4) (1)
  )

noncomputable def f_X6_reckon_194 (V : dV) (x18 x11 a0 p1 p3 j11_4 s194_0 : Int) : Sum (dV × Int × Int × Int × Int × Int) (dR) :=
  if x11 ≠ 3010 then (
  f_X6_reckon_207 (V) (x18) (a0) (p1) (p3) (j11_4) (s194_0) (0)
  ) else (
  f_X6_reckon_207 (V) (x18) (a0) (p1) (p3) (j11_4) (s194_0) (1)
  )

noncomputable def f_X6_reckon_172 (V : dV) (x11 a0 p1 p3 j11_4 j11_5 : Int) : Sum (dV × Int × Int × Int × Int × Int) (dR) :=
  dv_b (j11_5 + 1) fun x18 =>
  dv_b (j11_4 - 1) fun x20 =>
  dv_b (V a0 0 (x20)) fun y21 =>
  dv_b (dv_lcmp (y21) (0)) fun x22 =>
  if x22 = 0 then (
  f_X6_reckon_194 (V) (x18) (x11) (a0) (p1) (p3) (j11_4) (0)
  ) else (
  f_X6_reckon_194 (V) (x18) (x11) (a0) (p1) (p3) (j11_4) (1)
  )

noncomputable def f_X6_reckon_524 (V : dV) (x28 a0 p1 p3 j11_5 j500_11 s524_1 : Int) : Sum (dV × Int × Int × Int × Int × Int) (dR) :=
  dv_b (dv_u V a0 3 0 (s524_1)) fun V524 =>
  dv_b (x28 - 1) fun x38 =>
  dv_b (dv_u V524 a0 0 (x38) (j500_11)) fun V537 =>
  f_X6_reckon_538 (V537) (a0) (p1) (p3) (x28) (j11_5)

noncomputable def f_X6_reckon_519 (V : dV) (x28 a0 p1 p3 j11_5 j500_11 : Int) : Sum (dV × Int × Int × Int × Int × Int) (dR) :=
  f_X6_reckon_524 (V) (x28) (a0) (p1) (p3) (j11_5) (j500_11) (1)

noncomputable def f_X6_reckon_500 (V : dV) (x28 a0 p1 p3 j11_5 j500_11 : Int) : Sum (dV × Int × Int × Int × Int × Int) (dR) :=
  dv_b (dv_lcmp (j500_11) (1000000000)) fun x33 =>
  if 0 < x33 then (
  f_X6_reckon_519 (V) (x28) (a0) (p1) (p3) (j11_5) (j500_11)
  ) else (
  dv_b (dv_lcmp (j500_11) ((-1000000000))) fun x43 =>
  if 0 ≤ x43 then (
  f_X6_reckon_524 (V) (x28) (a0) (p1) (p3) (j11_5) (j500_11) (0)
  ) else (
  f_X6_reckon_519 (V) (x28) (a0) (p1) (p3) (j11_5) (j500_11)
  )
  )

noncomputable def f_X6_reckon_412 (V : dV) (x28 a0 p1 p3 j11_5 s412_0 : Int) : Sum (dV × Int × Int × Int × Int × Int) (dR) :=
  f_X6_reckon_500 (V) (x28) (a0) (p1) (p3) (j11_5) (s412_0)

noncomputable def f_X6_reckon_435 (V : dV) (x28 a0 p1 p3 j11_5 s435_0 : Int) : Sum (dV × Int × Int × Int × Int × Int) (dR) :=
  f_X6_reckon_500 (V) (x28) (a0) (p1) (p3) (j11_5) (s435_0)

noncomputable def f_X6_reckon_453 (V : dV) (x28 a0 p1 p3 j11_5 s453_0 : Int) : Sum (dV × Int × Int × Int × Int × Int) (dR) :=
  f_X6_reckon_500 (V) (x28) (a0) (p1) (p3) (j11_5) (s453_0)

noncomputable def f_X6_reckon_471 (V : dV) (x28 a0 p1 p3 j11_5 s471_0 : Int) : Sum (dV × Int × Int × Int × Int × Int) (dR) :=
  f_X6_reckon_500 (V) (x28) (a0) (p1) (p3) (j11_5) (s471_0)

noncomputable def f_X6_reckon_489 (V : dV) (x28 a0 p1 p3 j11_5 s489_0 : Int) : Sum (dV × Int × Int × Int × Int × Int) (dR) :=
  f_X6_reckon_500 (V) (x28) (a0) (p1) (p3) (j11_5) (s489_0)

noncomputable def f_X6_reckon_289 (V : dV) (x11 a0 p1 p3 j11_5 j11_4 s289_1 : Int) : Sum (dV × Int × Int × Int × Int × Int) (dR) :=
  dv_b (j11_4 - s289_1) fun x28 =>
  dv_b (x28 - 1) fun x30 =>
  dv_b (V a0 0 (x30)) fun y31 =>
  dv_b (V a0 0 (x28)) fun y32 =>
  if x11 = 3000 then (
  dv_b (dv_ladd (y31) (y32)) fun y44 =>
  f_X6_reckon_500 (V) (x28) (a0) (p1) (p3) (j11_5) (y44)
  ) else (
  if x11 = 3001 then (
  dv_b (dv_lsub (y31) (y32)) fun y45 =>
  f_X6_reckon_500 (V) (x28) (a0) (p1) (p3) (j11_5) (y45)
  ) else (
  if x11 = 3002 then (
  dv_b (dv_lmul (y31) (y32)) fun y46 =>
  f_X6_reckon_500 (V) (x28) (a0) (p1) (p3) (j11_5) (y46)
  ) else (
  if x11 = 3003 then (
  dv_b (dv_lcmp (y32) (0)) fun x47 =>
  if x47 ≠ 0 then (
  dv_b (dv_ldiv (y31) (y32)) fun y48 =>
  f_X6_reckon_412 (V) (x28) (a0) (p1) (p3) (j11_5) (y48)
  ) else (
  f_X6_reckon_412 (V) (x28) (a0) (p1) (p3) (j11_5) (1000000001)
  )
  ) else (
  if x11 = 3004 then (
  dv_b (dv_lcmp (y32) (0)) fun x49 =>
  if x49 ≠ 0 then (
  dv_b (dv_lrem (y31) (y32)) fun y50 =>
  f_X6_reckon_435 (V) (x28) (a0) (p1) (p3) (j11_5) (y50)
  ) else (
  f_X6_reckon_435 (V) (x28) (a0) (p1) (p3) (j11_5) (1000000001)
  )
  ) else (
  if x11 = 3005 then (
  dv_b (dv_lcmp (y31) (y32)) fun x51 =>
  if 0 ≤ x51 then (
  f_X6_reckon_453 (V) (x28) (a0) (p1) (p3) (j11_5) (0)
  ) else (
  f_X6_reckon_453 (V) (x28) (a0) (p1) (p3) (j11_5) (1)
  )
  ) else (
  if x11 = 3006 then (
  dv_b (dv_lcmp (y31) (y32)) fun x52 =>
  if x52 ≤ 0 then (
  f_X6_reckon_471 (V) (x28) (a0) (p1) (p3) (j11_5) (0)
  ) else (
  f_X6_reckon_471 (V) (x28) (a0) (p1) (p3) (j11_5) (1)
  )
  ) else (
  if x11 = 3007 then (
  dv_b (dv_lcmp (y31) (y32)) fun x53 =>
  if x53 ≠ 0 then (
  f_X6_reckon_489 (V) (x28) (a0) (p1) (p3) (j11_5) (0)
  ) else (
  f_X6_reckon_489 (V) (x28) (a0) (p1) (p3) (j11_5) (1)
  )
  ) else (
  dv_b (dv_lsub (1) (y31)) fun y54 =>
  f_X6_reckon_500 (V) (x28) (a0) (p1) (p3) (j11_5) (y54)
  ))))))))

noncomputable def f_X6_reckon_156 (V : dV) (x11 a0 p1 p3 j11_4 j11_5 : Int) : Sum (dV × Int × Int × Int × Int × Int) (dR) :=
  if x11 = 3009 then (
  f_X6_reckon_172 (V) (x11) (a0) (p1) (p3) (j11_4) (j11_5)
  ) else (
  if x11 ≠ 3010 then (
  if 3008 ≤ x11 then (
  f_X6_reckon_289 (V) (x11) (a0) (p1) (p3) (j11_5) (j11_4) (0)
  ) else (
  f_X6_reckon_289 (V) (x11) (a0) (p1) (p3) (j11_5) (j11_4) (1)
  )
  ) else (
  f_X6_reckon_172 (V) (x11) (a0) (p1) (p3) (j11_4) (j11_5)
  )
  )

noncomputable def f_X6_reckon_81 (V : dV) (x55 x11 a0 p1 p3 j11_4 j11_5 : Int) : Sum (dV × Int × Int × Int × Int × Int) (dR) :=
  dv_b (dv_u V a0 3 0 (1)) fun V86 =>
  dv_b (V86 a0 3 0) fun zz4 =>
  f_X6_reckon_538 (V86) (a0) (p1) (p3) (j11_4) (j11_5)

noncomputable def f_X6_reckon_121 (V : dV) (a0 p1 p3 j11_4 j11_5 s121_2 : Int) : Sum (dV × Int × Int × Int × Int × Int) (dR) :=
  dv_b (dv_u V a0 0 (j11_4) (s121_2)) fun V121 =>
  dv_b (j11_4 + 1) fun x75 =>
  f_X6_reckon_538 (V121) (a0) (p1) (p3) (x75) (j11_5)

noncomputable def f_X6_reckon_11c (V : dV) (a0 p1 p3 j11_4 j11_5 : Int) : Sum (dV × Int × Int × Int × Int × Int) (dR) :=
  if p3 ≤ j11_5 then (
  dv_b (V a0 0 (0)) fun y3 =>
  Sum.inr ((V, y3))
  ) else (
  dv_b (V p1 2 0) fun zz1 =>
  if zz1 ≤ j11_5 then (
  dv_b (V a0 0 (0)) fun y6 =>
  Sum.inr ((V, y6))
  ) else (
  dv_b (V a0 3 0) fun zz2 =>
  if zz2 ≠ 0 then (
  dv_b (V a0 0 (0)) fun y9 =>
  Sum.inr ((V, y9))
  ) else (
  dv_b (V p1 0 (j11_5)) fun x11 =>
  if 3000 ≤ x11 then (
  if j11_4 < 1 then (
  f_X6_reckon_148 (V) (a0) (p1) (p3) (j11_4) (j11_5)
  ) else (
  if 2 ≤ j11_4 then (
  f_X6_reckon_156 (V) (x11) (a0) (p1) (p3) (j11_4) (j11_5)
  ) else (
  if 3008 ≤ x11 then (
  f_X6_reckon_156 (V) (x11) (a0) (p1) (p3) (j11_4) (j11_5)
  ) else (
  f_X6_reckon_148 (V) (a0) (p1) (p3) (j11_4) (j11_5)
  )
  )
  )
  ) else (
  dv_b (x11 - 2000) fun x55 =>
  dv_b (j11_4 + 1) fun x56 =>
  dv_b (64) fun x58 =>
  if x58 ≤ x56 then (
  f_X6_reckon_81 (V) (x55) (x11) (a0) (p1) (p3) (j11_4) (j11_5)
  ) else (
  dv_b (23) fun x64 =>
  if x55 < x64 then (
  dv_b (dv_u V a0 3 0 (0)) fun V86 =>
  dv_b (V86 a0 3 0) fun zz5 =>
  if 0 ≤ x55 then (
  dv_b (V86 a0 1 (x55)) fun x76 =>
  dv_b (x76) fun y77 =>
  f_X6_reckon_121 (V86) (a0) (p1) (p3) (j11_4) (j11_5) (y77)
  ) else (
  dv_b (x11) fun y78 =>
  f_X6_reckon_121 (V86) (a0) (p1) (p3) (j11_4) (j11_5) (y78)
  )
  ) else (
  f_X6_reckon_81 (V) (x55) (x11) (a0) (p1) (p3) (j11_4) (j11_5)
  )
  )
  )
  )
  )
  )
noncomputable def f_X6_reckon_11b (s : (dV × Int × Int × Int × Int × Int)) : Sum (dV × Int × Int × Int × Int × Int) (dR) := f_X6_reckon_11c (s.1) (s.2.1) (s.2.2.1) (s.2.2.2.1) (s.2.2.2.2.1) (s.2.2.2.2.2)

theorem f_X6_reckon_11e (V : dV) (a0 p1 p3 j11_4 j11_5 : Int) : f_X6_reckon_11b (V, a0, p1, p3, j11_4, j11_5) = f_X6_reckon_11c V a0 p1 p3 j11_4 j11_5 := rfl

noncomputable def f_X6_reckon (V : dV) (a0 p1 p2 p3 : Int) : dR :=
  dv_b (dv_u V a0 3 0 (0)) fun V5 =>
  dv_lp (f_X6_reckon_11b) (V5, a0, p1, p3, 0, p2)

noncomputable def f_X6_isSo (V : dV) (a0 p1 p2 : Int) : dR :=
  dv_b2 (f_X10_mark V (p1) (p2) (6)) fun x1 _ =>
  dv_b2 (f_X10_mark V (p1) (p2) (7)) fun x2 _ =>
  if x1 = x2 then (
  (V, 1)
  ) else (
  dv_b2 (f_X6_reckon V (a0) (p1) (x1) (x2)) fun V28 y3 =>
  dv_b (dv_lcmp (y3) (0)) fun x4 =>
  if x4 = 0 then (
  (V28, 0)
  ) else (
  dv_b (V28 a0 3 0) fun zz1 =>
  if zz1 ≠ 0 then (
  (V28, 0)
  ) else (
  (V28, 1)
  )
  )
  )

noncomputable def f_X6_reckonSums_72 (V : dV) (a0 p1 p2 j2_3 : Int) : Sum (dV × Int × Int × Int × Int) (dR) :=
  dv_b (j2_3 + 1) fun x9 =>
  Sum.inl (V, a0, p1, p2, x9)

noncomputable def f_X6_reckonSums_55 (V : dV) (x5 x2 a0 p1 p2 j2_3 s55_2 : Int) : Sum (dV × Int × Int × Int × Int) (dR) :=
  dv_b (dv_u V a0 2 (j2_3) (s55_2)) fun V55 =>
  if x2 = x5 then (
  f_X6_reckonSums_72 (V55) (a0) (p1) (p2) (j2_3)
  ) else (
  dv_b (V55 a0 3 0) fun zz1 =>
  if zz1 = 0 then (
  f_X6_reckonSums_72 (V55) (a0) (p1) (p2) (j2_3)
  ) else (
  Sum.inr ((V55, 0))
  )
  )

noncomputable def f_X6_reckonSums_2c (V : dV) (a0 p1 p2 j2_3 : Int) : Sum (dV × Int × Int × Int × Int) (dR) :=
  if 3 ≤ j2_3 then (
  Sum.inr ((V, 1))
  ) else (
  dv_b (2 + j2_3) fun x1 =>
  dv_b2 (f_X10_mark V (p1) (p2) (x1)) fun x2 _ =>
  dv_b (2 + j2_3) fun x3 =>
  dv_b (x3 + 1) fun x4 =>
  dv_b2 (f_X10_mark V (p1) (p2) (x4)) fun x5 _ =>
  if x2 ≠ x5 then (
  dv_b2 (f_X6_reckon V (a0) (p1) (x2) (x5)) fun V51 y11 =>
  dv_b (dv_l2i (y11)) fun x13 =>
  f_X6_reckonSums_55 (V51) (x5) (x2) (a0) (p1) (p2) (j2_3) (x13)
  ) else (
  f_X6_reckonSums_55 (V) (x5) (x2) (a0) (p1) (p2) (j2_3) (0)
  )
  )
noncomputable def f_X6_reckonSums_2b (s : (dV × Int × Int × Int × Int)) : Sum (dV × Int × Int × Int × Int) (dR) := f_X6_reckonSums_2c (s.1) (s.2.1) (s.2.2.1) (s.2.2.2.1) (s.2.2.2.2)

theorem f_X6_reckonSums_2e (V : dV) (a0 p1 p2 j2_3 : Int) : f_X6_reckonSums_2b (V, a0, p1, p2, j2_3) = f_X6_reckonSums_2c V a0 p1 p2 j2_3 := rfl

noncomputable def f_X6_reckonSums (V : dV) (a0 p1 p2 : Int) : dR :=
  dv_lp (f_X6_reckonSums_2b) (V, a0, p1, p2, 0)

noncomputable def f_X2_holds_0_15c (V : dV) (a0 p2 j15_3 : Int) : Sum (dV × Int × Int × Int) (dR) :=
  if j15_3 < 0 then (
  Sum.inr ((V, 0))
  ) else (
  Sum.inr (dv_z)
  )
noncomputable def f_X2_holds_0_15b (s : (dV × Int × Int × Int)) : Sum (dV × Int × Int × Int) (dR) := f_X2_holds_0_15c (s.1) (s.2.1) (s.2.2.1) (s.2.2.2)

theorem f_X2_holds_0_15e (V : dV) (a0 p2 j15_3 : Int) : f_X2_holds_0_15b (V, a0, p2, j15_3) = f_X2_holds_0_15c V a0 p2 j15_3 := rfl

noncomputable def f_X2_holds_0 (V : dV) (a0 p1 p2 : Int) : dR :=
  dv_lp (f_X2_holds_0_15b) (V, a0, p2, (-1))

noncomputable def f_X2_holds_1_55 (V : dV) (a0 p1 p2 j15_3 : Int) : Sum (dV × Int × Int × Int × Int) (dR) :=
  dv_b (j15_3 + (-1)) fun x19 =>
  Sum.inl (V, a0, p1, p2, x19)

noncomputable def f_X2_holds_1_15c (V : dV) (a0 p1 p2 j15_3 : Int) : Sum (dV × Int × Int × Int × Int) (dR) :=
  if j15_3 < 0 then (
  Sum.inr ((V, 0))
  ) else (
  dv_b2 (f_X10_mark V (p1) (j15_3) (0)) fun x18 _ =>
  if x18 ≠ p2 then (
  f_X2_holds_1_55 (V) (a0) (p1) (p2) (j15_3)
  ) else (
  dv_b (V a0 0 0) fun zz2 =>
  dv_b2 (f_X6_isSo V (zz2) (p1) (j15_3)) fun V35 x21 =>
  if x21 = 0 then (
  f_X2_holds_1_55 (V35) (a0) (p1) (p2) (j15_3)
  ) else (
  dv_b (V35 a0 0 0) fun zz3 =>
  dv_b2 (f_X6_reckonSums V35 (zz3) (p1) (j15_3)) fun V47 x23 =>
  if x23 = 0 then (
  f_X2_holds_1_55 (V47) (a0) (p1) (p2) (j15_3)
  ) else (
  Sum.inr ((V47, 1))
  )
  )
  )
  )
noncomputable def f_X2_holds_1_15b (s : (dV × Int × Int × Int × Int)) : Sum (dV × Int × Int × Int × Int) (dR) := f_X2_holds_1_15c (s.1) (s.2.1) (s.2.2.1) (s.2.2.2.1) (s.2.2.2.2)

theorem f_X2_holds_1_15e (V : dV) (a0 p1 p2 j15_3 : Int) : f_X2_holds_1_15b (V, a0, p1, p2, j15_3) = f_X2_holds_1_15c V a0 p1 p2 j15_3 := rfl

noncomputable def f_X2_holds_1 (V : dV) (a0 p1 p2 : Int) : dR :=
  dv_b (V p1 3 0) fun zz1 =>
  dv_b (zz1 - 1) fun x17 =>
  dv_lp (f_X2_holds_1_15b) (V, a0, p1, p2, x17)

noncomputable def f_X2_holds (V : dV) (a0 p1 p2 : Int) : dR := if p1 = -1 then f_X2_holds_0 V a0 p1 p2 else f_X2_holds_1 V a0 p1 p2

noncomputable def f_X2_costOf (V : dV) (a0 p1 p2 p3 p4 p5 : Int) : dR :=
  dv_b (V a0 0 0) fun zz1 =>
  dv_b2 (f_X6_setLawWords V (zz1) (p2) (p3) (p4) (p5)) fun V10 _ =>
  dv_b2 (f_X2_holds V10 (a0) (p1) (0)) fun V16 x3 =>
  if x3 = 0 then (
  dv_b (V16 p2 0 (p3)) fun x6 =>
  (V16, x6)
  ) else (
  dv_b (V16 a0 0 0) fun zz2 =>
  dv_b (V16 zz2 2 (0)) fun x8 =>
  dv_b (min (99) (x8)) fun x9 =>
  dv_b (max (0) (x9)) fun x10 =>
  (V16, x10)
  )

noncomputable def f_X2_wearOf (V : dV) (a0 p1 p2 p3 : Int) : dR :=
  dv_b (V a0 0 0) fun zz1 =>
  dv_b (V p2 3 (p3)) fun x3 =>
  dv_b (V p2 4 (p3)) fun x5 =>
  dv_b2 (f_X6_setLawWords V (zz1) (p2) (p3) (x3) (x5)) fun V18 _ =>
  dv_b2 (f_X2_holds V18 (a0) (p1) (1)) fun V24 x7 =>
  if x7 = 0 then (
  (V24, 1)
  ) else (
  dv_b (V24 a0 0 0) fun zz2 =>
  dv_b (V24 zz2 2 (0)) fun x10 =>
  dv_b (min (9) (x10)) fun x11 =>
  dv_b (max (0) (x11)) fun x12 =>
  (V24, x12)
  )

noncomputable def f_X2_isBarred (V : dV) (a0 p1 p2 p3 p4 p5 : Int) : dR :=
  dv_b (V a0 0 0) fun zz1 =>
  dv_b2 (f_X6_setLawWords V (zz1) (p2) (p3) (p4) (p5)) fun V10 _ =>
  dv_b2 (f_X2_holds V10 (a0) (p1) (2)) fun V16 x2 =>
  (V16, x2)

noncomputable def f_X1_copyFrom (V : dV) (a0 p1 : Int) : dR :=
  dv_b (dv_c V p1 0 (0) a0 0 (0) (9)) fun V12 =>
  dv_b (dv_c V12 p1 1 (0) a0 1 (0) (9)) fun V27 =>
  dv_b (dv_c V27 p1 2 (0) a0 2 (0) (9)) fun V42 =>
  dv_b (dv_c V42 p1 3 (0) a0 3 (0) (9)) fun V57 =>
  dv_b (dv_c V57 p1 4 (0) a0 4 (0) (9)) fun V72 =>
  dv_b (dv_c V72 p1 5 (0) a0 5 (0) (3)) fun V86 =>
  dv_b (V86 p1 7 0) fun zz1 =>
  dv_b (dv_u V86 a0 7 0 (zz1)) fun V94 =>
  dv_b (V94 p1 8 0) fun zz2 =>
  dv_b (dv_u V94 a0 8 0 (zz2)) fun V102 =>
  dv_b (V102 p1 9 0) fun zz3 =>
  dv_b (dv_u V102 a0 9 0 (zz3)) fun V110 =>
  dv_b (V110 p1 10 0) fun zz4 =>
  dv_b (dv_u V110 a0 10 0 (zz4)) fun V118 =>
  (V118, 0)

noncomputable def f_X1_wearAYear_0_72 (V : dV) (a0 p1 j5_4 j72_3 : Int) : Sum (dV × Int × Int × Int × Int) (dR) :=
  dv_b (j5_4 + 1) fun x901 =>
  Sum.inl (V, a0, p1, j72_3, x901)

noncomputable def f_X1_wearAYear_0_5c (V : dV) (a0 p1 j5_3 j5_4 : Int) : Sum (dV × Int × Int × Int × Int) (dR) :=
  dv_b (V a0 7 0) fun zz1 =>
  if zz1 ≤ j5_4 then (
  dv_b (V a0 5 (0)) fun x896 =>
  dv_b (dv_add (x896) (1)) fun x897 =>
  dv_b (dv_u V a0 5 (0) (x897)) fun V87 =>
  Sum.inr ((V87, j5_3))
  ) else (
  dv_b2 (f_X1_isLaid V (a0) (j5_4)) fun x899 _ =>
  if x899 ≠ 0 then (
  dv_b (V a0 2 (j5_4)) fun x903 =>
  dv_b2 (f_X2_wearOf V (p1) ((-1)) (a0) (j5_4)) fun V45 x904 =>
  dv_b (dv_sub (x903) (x904)) fun x907 =>
  dv_b (max (0) (x907)) fun x908 =>
  dv_b (dv_u V45 a0 2 (j5_4) (x908)) fun V52 =>
  dv_b (V52 a0 2 (j5_4)) fun x911 =>
  if x911 ≠ 0 then (
  f_X1_wearAYear_0_72 (V52) (a0) (p1) (j5_4) (j5_3)
  ) else (
  dv_b2 (f_X1_rollUp V52 (a0) (j5_4)) fun V66 _ =>
  dv_b (dv_add (j5_3) (1)) fun x914 =>
  f_X1_wearAYear_0_72 (V66) (a0) (p1) (j5_4) (x914)
  )
  ) else (
  f_X1_wearAYear_0_72 (V) (a0) (p1) (j5_4) (j5_3)
  )
  )
noncomputable def f_X1_wearAYear_0_5b (s : (dV × Int × Int × Int × Int)) : Sum (dV × Int × Int × Int × Int) (dR) := f_X1_wearAYear_0_5c (s.1) (s.2.1) (s.2.2.1) (s.2.2.2.1) (s.2.2.2.2)

theorem f_X1_wearAYear_0_5e (V : dV) (a0 p1 j5_3 j5_4 : Int) : f_X1_wearAYear_0_5b (V, a0, p1, j5_3, j5_4) = f_X1_wearAYear_0_5c V a0 p1 j5_3 j5_4 := rfl

noncomputable def f_X1_wearAYear_0 (V : dV) (a0 p1 p2 : Int) : dR :=
  dv_lp (f_X1_wearAYear_0_5b) (V, a0, p1, 0, 0)

noncomputable def f_X1_wearAYear_1_72 (V : dV) (a0 p1 p2 j5_4 j72_3 : Int) : Sum (dV × Int × Int × Int × Int × Int) (dR) :=
  dv_b (j5_4 + 1) fun x1815 =>
  Sum.inl (V, a0, p1, p2, j72_3, x1815)

noncomputable def f_X1_wearAYear_1_5c (V : dV) (a0 p1 p2 j5_3 j5_4 : Int) : Sum (dV × Int × Int × Int × Int × Int) (dR) :=
  dv_b (V a0 7 0) fun zz2 =>
  if zz2 ≤ j5_4 then (
  dv_b (V a0 5 (0)) fun x1810 =>
  dv_b (dv_add (x1810) (1)) fun x1811 =>
  dv_b (dv_u V a0 5 (0) (x1811)) fun V87 =>
  Sum.inr ((V87, j5_3))
  ) else (
  dv_b2 (f_X1_isLaid V (a0) (j5_4)) fun x1813 _ =>
  if x1813 ≠ 0 then (
  dv_b (V a0 2 (j5_4)) fun x1817 =>
  dv_b2 (f_X2_wearOf V (p1) (p2) (a0) (j5_4)) fun V45 x1818 =>
  dv_b (dv_sub (x1817) (x1818)) fun x1821 =>
  dv_b (max (0) (x1821)) fun x1822 =>
  dv_b (dv_u V45 a0 2 (j5_4) (x1822)) fun V52 =>
  dv_b (V52 a0 2 (j5_4)) fun x1825 =>
  if x1825 ≠ 0 then (
  f_X1_wearAYear_1_72 (V52) (a0) (p1) (p2) (j5_4) (j5_3)
  ) else (
  dv_b2 (f_X1_rollUp V52 (a0) (j5_4)) fun V66 _ =>
  dv_b (dv_add (j5_3) (1)) fun x1828 =>
  f_X1_wearAYear_1_72 (V66) (a0) (p1) (p2) (j5_4) (x1828)
  )
  ) else (
  f_X1_wearAYear_1_72 (V) (a0) (p1) (p2) (j5_4) (j5_3)
  )
  )
noncomputable def f_X1_wearAYear_1_5b (s : (dV × Int × Int × Int × Int × Int)) : Sum (dV × Int × Int × Int × Int × Int) (dR) := f_X1_wearAYear_1_5c (s.1) (s.2.1) (s.2.2.1) (s.2.2.2.1) (s.2.2.2.2.1) (s.2.2.2.2.2)

theorem f_X1_wearAYear_1_5e (V : dV) (a0 p1 p2 j5_3 j5_4 : Int) : f_X1_wearAYear_1_5b (V, a0, p1, p2, j5_3, j5_4) = f_X1_wearAYear_1_5c V a0 p1 p2 j5_3 j5_4 := rfl

noncomputable def f_X1_wearAYear_1 (V : dV) (a0 p1 p2 : Int) : dR :=
  dv_lp (f_X1_wearAYear_1_5b) (V, a0, p1, p2, 0, 0)

noncomputable def f_X1_wearAYear (V : dV) (a0 p1 p2 : Int) : dR := if p2 = -1 then f_X1_wearAYear_0 V a0 p1 p2 else f_X1_wearAYear_1 V a0 p1 p2

noncomputable def f_X4_note (V : dV) (a0 p1 p2 : Int) : dR :=
  dv_b (V a0 4 0) fun zz1 =>
  if zz1 < 16 then (
  dv_b (V a0 4 0) fun zz2 =>
  dv_b (zz2 * 30) fun x2 =>
  dv_b (dv_u V a0 0 (x2) (p1)) fun V46 =>
  dv_b (x2 + 1) fun x6 =>
  dv_b (V46 p2 10 0) fun zz3 =>
  dv_b (dv_u V46 a0 0 (x6) (zz3)) fun V58 =>
  dv_b (x2 + 2) fun x10 =>
  dv_b (V58 p2 5 (0)) fun x12 =>
  dv_b (dv_u V58 a0 0 (x10) (x12)) fun V72 =>
  dv_b (x2 + 3) fun x16 =>
  dv_b (dv_c V72 p2 3 (0) a0 0 (x16) (9)) fun V87 =>
  dv_b (x2 + 3) fun x20 =>
  dv_b (x20 + 9) fun x21 =>
  dv_b (dv_c V87 p2 4 (0) a0 0 (x21) (9)) fun V107 =>
  dv_b (x2 + 3) fun x25 =>
  dv_b (x25 + 18) fun x26 =>
  dv_b (dv_c V107 p2 2 (0) a0 0 (x26) (9)) fun V127 =>
  dv_b (V127 a0 4 0) fun zz4 =>
  dv_b (zz4 + 1) fun x29 =>
  dv_b (dv_u V127 a0 4 0 (x29)) fun V137 =>
  (V137, 0)
  ) else (
  dv_b (dv_c V a0 0 (30) a0 0 (0) (450)) fun V23 =>
  dv_b (dv_u V23 a0 4 0 (15)) fun V29 =>
  dv_b (V29 a0 4 0) fun zz5 =>
  dv_b (15 * 30) fun x36 =>
  dv_b (dv_u V29 a0 0 (x36) (p1)) fun V46 =>
  dv_b (x36 + 1) fun x39 =>
  dv_b (V46 p2 10 0) fun zz6 =>
  dv_b (dv_u V46 a0 0 (x39) (zz6)) fun V58 =>
  dv_b (x36 + 2) fun x43 =>
  dv_b (V58 p2 5 (0)) fun x45 =>
  dv_b (dv_u V58 a0 0 (x43) (x45)) fun V72 =>
  dv_b (x36 + 3) fun x49 =>
  dv_b (dv_c V72 p2 3 (0) a0 0 (x49) (9)) fun V87 =>
  dv_b (x36 + 3) fun x53 =>
  dv_b (x53 + 9) fun x54 =>
  dv_b (dv_c V87 p2 4 (0) a0 0 (x54) (9)) fun V107 =>
  dv_b (x36 + 3) fun x58 =>
  dv_b (x58 + 18) fun x59 =>
  dv_b (dv_c V107 p2 2 (0) a0 0 (x59) (9)) fun V127 =>
  dv_b (V127 a0 4 0) fun zz7 =>
  dv_b (15 + 1) fun x62 =>
  dv_b (dv_u V127 a0 4 0 (x62)) fun V137 =>
  (V137, 0)
  )

noncomputable def f_X4_takeBack (V : dV) (a0 p1 : Int) : dR :=
  dv_b (V a0 4 0) fun zz1 =>
  if 0 < zz1 then (
  dv_b (V a0 4 0) fun zz2 =>
  dv_b (zz2 - 1) fun x2 =>
  dv_b (dv_u V a0 4 0 (x2)) fun V17 =>
  dv_b (V17 a0 4 0) fun zz3 =>
  dv_b (zz3 * 30) fun x4 =>
  dv_b (x4 + 1) fun x6 =>
  dv_b (V17 a0 0 (x6)) fun x7 =>
  dv_b (dv_u V17 p1 10 0 (x7)) fun V37 =>
  dv_b (x4 + 2) fun x11 =>
  dv_b (V37 a0 0 (x11)) fun x12 =>
  dv_b (dv_u V37 p1 5 (0) (x12)) fun V53 =>
  dv_b (x4 + 3) fun x15 =>
  dv_b (dv_c V53 a0 0 (x15) p1 3 (0) (9)) fun V68 =>
  dv_b (x4 + 3) fun x19 =>
  dv_b (x19 + 9) fun x20 =>
  dv_b (dv_c V68 a0 0 (x20) p1 4 (0) (9)) fun V88 =>
  dv_b (x4 + 3) fun x24 =>
  dv_b (x24 + 18) fun x25 =>
  dv_b (dv_c V88 a0 0 (x25) p1 2 (0) (9)) fun V108 =>
  dv_b (V108 a0 0 (x4)) fun x29 =>
  (V108, x29)
  ) else (
  (V, (-3))
  )

noncomputable def f_X4_save (V : dV) (a0 p1 : Int) : dR :=
  dv_b (V a0 2 0) fun zz1 =>
  dv_b2 (f_X1_copyFrom V (zz1) (p1)) fun V5 _ =>
  dv_b (480) fun x4 =>
  dv_b (dv_c V5 a0 0 (0) a0 1 (0) (x4)) fun V23 =>
  dv_b (V23 a0 4 0) fun zz2 =>
  dv_b (dv_u V23 a0 3 0 (zz2)) fun V31 =>
  (V31, 0)

noncomputable def f_X4_restore (V : dV) (a0 p1 : Int) : dR :=
  dv_b (V a0 2 0) fun zz1 =>
  dv_b2 (f_X1_copyFrom V (p1) (zz1)) fun V5 _ =>
  dv_b (480) fun x4 =>
  dv_b (dv_c V5 a0 1 (0) a0 0 (0) (x4)) fun V23 =>
  dv_b (V23 a0 3 0) fun zz2 =>
  dv_b (dv_u V23 a0 4 0 (zz2)) fun V31 =>
  (V31, 0)

noncomputable def f_X4_clear (V : dV) (a0 : Int) : dR :=
  dv_b (dv_u V a0 4 0 (0)) fun V2 =>
  (V2, 0)

noncomputable def f_X8_lawOf (V : dV) (a0 p1 : Int) : dP :=
  if p1 < 0 then (
  ((-1), ())
  ) else (
  dv_b (V a0 5 0) fun zz1 =>
  if zz1 ≤ p1 then (
  ((-1), ())
  ) else (
  dv_b (V a0 1 (p1)) fun b3 =>
  (b3, ())
  )
  )

noncomputable def f_X8_forcedLaw (V : dV) (a0 : Int) : dP :=
  dv_b (V a0 6 0) fun zz1 =>
  dv_b2 (f_X8_lawOf V (a0) (zz1)) fun v2 _ =>
  (v2, ())

noncomputable def f_X8_copyFrom_13c (V : dV) (a0 p1 j13_2 : Int) : Sum (dV × Int × Int × Int) (dR) :=
  dv_b (V p1 5 0) fun zz3 =>
  if zz3 ≤ j13_2 then (
  dv_b (dv_c V p1 2 (0) a0 2 (0) (6)) fun V54 =>
  dv_b (dv_c V54 p1 3 (0) a0 3 (0) (6)) fun V69 =>
  dv_b (dv_c V69 p1 4 (0) a0 4 (0) (6)) fun V84 =>
  dv_b (V84 p1 5 0) fun zz4 =>
  dv_b (dv_u V84 a0 5 0 (zz4)) fun V92 =>
  dv_b (V92 p1 6 0) fun zz5 =>
  dv_b (dv_u V92 a0 6 0 (zz5)) fun V100 =>
  dv_b (V100 p1 7 0) fun zz6 =>
  dv_b (dv_u V100 a0 7 0 (zz6)) fun V108 =>
  Sum.inr ((V108, 0))
  ) else (
  dv_b (V a0 1 (j13_2)) fun b32 =>
  dv_b (V p1 1 (j13_2)) fun b34 =>
  dv_b2 (f_X10_copyFrom V (b32) (b34)) fun V33 _ =>
  dv_b (j13_2 + 1) fun x38 =>
  Sum.inl (V33, a0, p1, x38)
  )
noncomputable def f_X8_copyFrom_13b (s : (dV × Int × Int × Int)) : Sum (dV × Int × Int × Int) (dR) := f_X8_copyFrom_13c (s.1) (s.2.1) (s.2.2.1) (s.2.2.2)

theorem f_X8_copyFrom_13e (V : dV) (a0 p1 j13_2 : Int) : f_X8_copyFrom_13b (V, a0, p1, j13_2) = f_X8_copyFrom_13c V a0 p1 j13_2 := rfl

noncomputable def f_X8_copyFrom (V : dV) (a0 p1 : Int) : dR :=
  dv_b (V a0 0 0) fun zz1 =>
  dv_b (V p1 0 0) fun zz2 =>
  dv_b2 (f_X1_copyFrom V (zz1) (zz2)) fun V8 _ =>
  dv_lp (f_X8_copyFrom_13b) (V8, a0, p1, 0)

noncomputable def f_X11_onGrid (V : dV) (p1 : Int) : dP :=
  if p1 < 0 then (
  (0, ())
  ) else (
  if 12 ≤ p1 then (
  (0, ())
  ) else (
  (1, ())
  )
  )

noncomputable def f_X11_mostOfTerm (V : dV) (p1 : Int) : dP :=
  if p1 ≠ 0 then (
  if p1 ≠ 1 then (
  (9, ())
  ) else (
  (10, ())
  )
  ) else (
  (999, ())
  )

noncomputable def f_X11_nextDraw (V : dV) (p1 : Int) : dP :=
  dv_b (dv_mul (p1) (1103)) fun x1 =>
  dv_b (dv_add (x1) (12345)) fun x2 =>
  dv_b (dv_rem (x2) (1000003)) fun x3 =>
  (x3, ())

noncomputable def f_X11_answer_10 (V : dV) (a0 p1 s10_1 : Int) : dR :=
  dv_b (dv_u V a0 14 0 (s10_1)) fun V10 =>
  if p1 = (-6) then (
  dv_b (V10 a0 13 (4)) fun x2 =>
  dv_b (dv_add (x2) (1)) fun x3 =>
  dv_b (dv_u V10 a0 13 (4) (x3)) fun V113 =>
  (V113, p1)
  ) else (
  if p1 = (-5) then (
  dv_b (V10 a0 13 (3)) fun x5 =>
  dv_b (dv_add (x5) (1)) fun x6 =>
  dv_b (dv_u V10 a0 13 (3) (x6)) fun V100 =>
  (V100, p1)
  ) else (
  if p1 = (-4) then (
  (V10, p1)
  ) else (
  if p1 = (-3) then (
  dv_b (V10 a0 13 (2)) fun x8 =>
  dv_b (dv_add (x8) (1)) fun x9 =>
  dv_b (dv_u V10 a0 13 (2) (x9)) fun V87 =>
  (V87, p1)
  ) else (
  if p1 = (-2) then (
  dv_b (V10 a0 13 (1)) fun x11 =>
  dv_b (dv_add (x11) (1)) fun x12 =>
  dv_b (dv_u V10 a0 13 (1) (x12)) fun V74 =>
  (V74, p1)
  ) else (
  if p1 = (-1) then (
  dv_b (V10 a0 13 (0)) fun x14 =>
  dv_b (dv_add (x14) (1)) fun x15 =>
  dv_b (dv_u V10 a0 13 (0) (x15)) fun V61 =>
  (V61, p1)
  ) else (
  (V10, p1)
  ))))))

noncomputable def f_X11_answer (V : dV) (a0 p1 : Int) : dR :=
  if 0 ≤ p1 then (
  f_X11_answer_10 (V) (a0) (p1) (0)
  ) else (
  f_X11_answer_10 (V) (a0) (p1) (p1)
  )

noncomputable def f_X11_canLie (V : dV) (a0 p1 p2 p3 p4 : Int) : dR :=
  dv_b2 (f_X1_hasPlaceFor V (p1) (p2) (p3) (p4)) fun x1 _ =>
  if x1 = 0 then (
  (V, 0)
  ) else (
  dv_b (V a0 9 0) fun zz1 =>
  dv_b (V a0 0 0) fun zz2 =>
  dv_b2 (f_X8_forcedLaw V (zz2)) fun v4 _ =>
  dv_b2 (f_X2_isBarred V (zz1) (v4) (p1) (p2) (p3) (p4)) fun V27 x5 =>
  if x5 ≠ 0 then (
  (V27, 0)
  ) else (
  (V27, 1)
  )
  )

noncomputable def f_X11_carpet_27 (V : dV) (x3 a0 : Int) : dR :=
  dv_b2 (f_X11_answer V (a0) (x3)) fun V30 x4 =>
  (V30, x4)

noncomputable def f_X11_carpet (V : dV) (a0 p1 p2 p3 : Int) : dR :=
  dv_b (V a0 0 0) fun zz1 =>
  dv_b (V zz1 0 0) fun zz2 =>
  dv_b2 (f_X1_add V (zz2) (p1) (p2) (p3)) fun V10 x3 =>
  if x3 < 0 then (
  f_X11_carpet_27 (V10) (x3) (a0)
  ) else (
  dv_b (V10 a0 10 0) fun zz3 =>
  dv_b2 (f_X4_clear V10 (zz3)) fun V24 _ =>
  f_X11_carpet_27 (V24) (x3) (a0)
  )

noncomputable def f_X11_of (V : dV) (a0 p1 p2 : Int) : dR :=
  dv_b (V a0 0 0) fun zz1 =>
  dv_b (V zz1 0 0) fun zz2 =>
  dv_b2 (f_X1_has V (zz2) (p1)) fun x3 _ =>
  if x3 ≠ 0 then (
  if p2 = 0 then (
  dv_b (V zz2 0 (p1)) fun x5 =>
  (V, x5)
  ) else (
  if p2 = 1 then (
  dv_b (V zz2 1 (p1)) fun x7 =>
  (V, x7)
  ) else (
  if p2 = 2 then (
  dv_b (V zz2 2 (p1)) fun x9 =>
  (V, x9)
  ) else (
  if p2 = 3 then (
  dv_b (V zz2 3 (p1)) fun x11 =>
  (V, x11)
  ) else (
  if p2 = 4 then (
  dv_b (V zz2 4 (p1)) fun x13 =>
  (V, x13)
  ) else (
  if p2 = 5 then (
  dv_b2 (f_X1_isLaid V (zz2) (p1)) fun x14 _ =>
  if x14 = 0 then (
  (V, (-1))
  ) else (
  dv_b (V a0 9 0) fun zz3 =>
  dv_b (V a0 0 0) fun zz4 =>
  dv_b2 (f_X8_forcedLaw V (zz4)) fun v16 _ =>
  dv_b2 (f_X2_wearOf V (zz3) (v16) (zz2) (p1)) fun V112 x17 =>
  (V112, x17)
  )
  ) else (
  (V, (-1))
  ))))))
  ) else (
  (V, (-1))
  )

noncomputable def f_X11_hall_22 (V : dV) (a0 : Int) : dR :=
  dv_b2 (f_X11_answer V (a0) ((-1))) fun V24 x1 =>
  (V24, x1)

noncomputable def f_X11_hall (V : dV) (a0 p1 p2 : Int) : dR :=
  if p1 < 1 then (
  f_X11_hall_22 (V) (a0)
  ) else (
  if 12 < p1 then (
  f_X11_hall_22 (V) (a0)
  ) else (
  if p2 < 1 then (
  f_X11_hall_22 (V) (a0)
  ) else (
  if p2 ≤ 12 then (
  dv_b (V a0 0 0) fun zz1 =>
  dv_b (V zz1 0 0) fun zz2 =>
  dv_b2 (f_X1_laidCarpets V (zz2)) fun x4 _ =>
  if x4 ≤ 0 then (
  dv_b (V a0 0 0) fun zz3 =>
  dv_b (V zz3 0 0) fun zz4 =>
  dv_b (dv_u V zz4 8 0 (p1)) fun V56 =>
  dv_b (V56 a0 0 0) fun zz5 =>
  dv_b (V56 zz5 0 0) fun zz6 =>
  dv_b (dv_u V56 zz6 9 0 (p2)) fun V67 =>
  dv_b (V67 a0 10 0) fun zz7 =>
  dv_b2 (f_X4_clear V67 (zz7)) fun V74 _ =>
  dv_b (p1 * p2) fun x12 =>
  dv_b2 (f_X11_answer V74 (a0) (x12)) fun V81 x14 =>
  (V81, x14)
  ) else (
  dv_b2 (f_X11_answer V (a0) ((-3))) fun V44 x17 =>
  (V44, x17)
  )
  ) else (
  f_X11_hall_22 (V) (a0)
  )
  )
  )
  )

noncomputable def f_X11_at (V : dV) (a0 p1 p2 : Int) : dP :=
  dv_b (V a0 0 0) fun zz1 =>
  dv_b (V zz1 0 0) fun zz2 =>
  dv_b2 (f_X1_carpetOn V (zz2) (p1) (p2)) fun x3 _ =>
  (x3, ())

noncomputable def f_X11_asks (V : dV) (a0 p1 p2 p3 p4 : Int) : dR :=
  dv_b (V a0 0 0) fun zz1 =>
  dv_b (V zz1 0 0) fun zz2 =>
  dv_b2 (f_X1_has V (zz2) (p1)) fun x3 _ =>
  if x3 = 0 then (
  (V, (-1))
  ) else (
  dv_b2 (f_X11_onGrid V (p2)) fun x4 _ =>
  if x4 = 0 then (
  (V, (-1))
  ) else (
  dv_b2 (f_X11_onGrid V (p3)) fun x5 _ =>
  if x5 ≠ 0 then (
  if p4 = 0 then (
  dv_b (V a0 9 0) fun zz3 =>
  dv_b (V a0 0 0) fun zz4 =>
  dv_b2 (f_X8_forcedLaw V (zz4)) fun v7 _ =>
  dv_b2 (f_X2_costOf V (zz3) (v7) (zz2) (p1) (p2) (p3)) fun V80 x8 =>
  (V80, x8)
  ) else (
  if p4 = 1 then (
  dv_b (V a0 9 0) fun zz5 =>
  dv_b (V a0 0 0) fun zz6 =>
  dv_b2 (f_X8_forcedLaw V (zz6)) fun v11 _ =>
  dv_b2 (f_X2_isBarred V (zz5) (v11) (zz2) (p1) (p2) (p3)) fun V100 x12 =>
  if x12 = 0 then (
  (V100, 0)
  ) else (
  (V100, 1)
  )
  ) else (
  if p4 = 2 then (
  dv_b2 (f_X11_canLie V (a0) (zz2) (p1) (p2) (p3)) fun V118 x14 =>
  if x14 = 0 then (
  (V118, 0)
  ) else (
  (V118, 1)
  )
  ) else (
  (V, (-1))
  )))
  ) else (
  (V, (-1))
  )
  )
  )

noncomputable def f_X11_terms_21 (V : dV) (a0 : Int) : dR :=
  dv_b2 (f_X11_answer V (a0) ((-1))) fun V23 x1 =>
  (V23, x1)

noncomputable def f_X11_terms (V : dV) (a0 p1 p2 : Int) : dR :=
  if p1 < 0 then (
  f_X11_terms_21 (V) (a0)
  ) else (
  if 3 ≤ p1 then (
  f_X11_terms_21 (V) (a0)
  ) else (
  if p2 < 0 then (
  f_X11_terms_21 (V) (a0)
  ) else (
  dv_b2 (f_X11_mostOfTerm V (p1)) fun x2 _ =>
  if p2 ≤ x2 then (
  dv_b (V a0 0 0) fun zz1 =>
  dv_b (V zz1 0 0) fun zz2 =>
  dv_b (V zz2 5 (p1)) fun x6 =>
  dv_b (V a0 0 0) fun zz3 =>
  dv_b (V zz3 0 0) fun zz4 =>
  dv_b (dv_u V zz4 5 (p1) (p2)) fun V52 =>
  dv_b (V52 a0 10 0) fun zz5 =>
  dv_b2 (f_X4_clear V52 (zz5)) fun V57 _ =>
  dv_b2 (f_X11_answer V57 (a0) (x6)) fun V62 x14 =>
  (V62, x14)
  ) else (
  f_X11_terms_21 (V) (a0)
  )
  )
  )
  )

noncomputable def f_X11_feed (V : dV) (a0 p1 p2 p3 p4 p5 : Int) : dR :=
  dv_b (V a0 5 0) fun zz1 =>
  dv_b (V zz1 1 0) fun zz2 =>
  dv_b (zz2 + 20) fun x3 =>
  if x3 ≤ 400 then (
  dv_b (V a0 5 0) fun zz3 =>
  dv_b2 (f_X9_addFour V (zz3) (p1)) fun V23 _ =>
  dv_b (V23 a0 5 0) fun zz4 =>
  dv_b2 (f_X9_addFour V23 (zz4) (p2)) fun V31 _ =>
  dv_b (V31 a0 5 0) fun zz5 =>
  dv_b2 (f_X9_addFour V31 (zz5) (p3)) fun V39 _ =>
  dv_b (V39 a0 5 0) fun zz6 =>
  dv_b2 (f_X9_addFour V39 (zz6) (p4)) fun V48 _ =>
  dv_b (V48 a0 5 0) fun zz7 =>
  dv_b2 (f_X9_addFour V48 (zz7) (p5)) fun V57 _ =>
  dv_b (V57 a0 5 0) fun zz8 =>
  dv_b (V57 zz8 1 0) fun zz9 =>
  (V57, zz9)
  ) else (
  (V, (-1))
  )

noncomputable def f_X11_end (V : dV) (a0 p1 : Int) : dR :=
  if p1 < 0 then (
  (V, (-1))
  ) else (
  dv_b (V a0 5 0) fun zz1 =>
  dv_b (V zz1 1 0) fun zz2 =>
  if p1 ≤ zz2 then (
  dv_b (V a0 5 0) fun zz3 =>
  dv_b (dv_u V zz3 1 0 (p1)) fun V22 =>
  (V22, p1)
  ) else (
  (V, (-1))
  )
  )

noncomputable def f_X11_row_100 (V : dV) (a0 j23_3 j100_1 j100_2 : Int) : Sum (dV × Int × Int × Int × Int) (dR) :=
  dv_b (j23_3 + 3) fun x13 =>
  Sum.inl (V, a0, j100_1, j100_2, x13)

noncomputable def f_X11_row_97 (V : dV) (a0 j23_1 j23_2 j23_3 : Int) : Sum (dV × Int × Int × Int × Int) (dR) :=
  dv_b (dv_add (j23_2) (1)) fun x15 =>
  f_X11_row_100 (V) (a0) (j23_3) (j23_1) (x15)

noncomputable def f_X11_row_23c (V : dV) (a0 j23_1 j23_2 j23_3 : Int) : Sum (dV × Int × Int × Int × Int) (dR) :=
  dv_b (V a0 5 0) fun zz3 =>
  dv_b (V zz3 1 0) fun zz4 =>
  if zz4 ≤ j23_3 then (
  dv_b (dv_u V a0 16 0 (j23_2)) fun V108 =>
  dv_b (V108 a0 5 0) fun zz5 =>
  dv_b (dv_u V108 zz5 1 0 (0)) fun V116 =>
  dv_b (V116 a0 10 0) fun zz6 =>
  dv_b2 (f_X4_clear V116 (zz6)) fun V123 _ =>
  dv_b2 (f_X11_answer V123 (a0) (j23_1)) fun V128 x9 =>
  Sum.inr ((V128, x9))
  ) else (
  dv_b (j23_3 + 2) fun x11 =>
  dv_b (V a0 5 0) fun zz7 =>
  dv_b (V zz7 1 0) fun zz8 =>
  if zz8 ≤ x11 then (
  f_X11_row_97 (V) (a0) (j23_1) (j23_2) (j23_3)
  ) else (
  dv_b (V a0 0 0) fun zz9 =>
  dv_b (V zz9 0 0) fun zz10 =>
  dv_b (V a0 5 0) fun zz11 =>
  dv_b (V zz11 0 (j23_3)) fun x19 =>
  dv_b (V a0 5 0) fun zz12 =>
  dv_b (j23_3 + 1) fun x20 =>
  dv_b (V zz12 0 (x20)) fun x21 =>
  dv_b (V a0 5 0) fun zz13 =>
  dv_b (j23_3 + 2) fun x22 =>
  dv_b (V zz13 0 (x22)) fun x23 =>
  dv_b2 (f_X1_add V (zz10) (x19) (x21) (x23)) fun V85 x24 =>
  if x24 < 0 then (
  f_X11_row_97 (V85) (a0) (j23_1) (j23_2) (j23_3)
  ) else (
  dv_b (dv_add (j23_1) (1)) fun x30 =>
  f_X11_row_100 (V85) (a0) (j23_3) (x30) (j23_2)
  )
  )
  )
noncomputable def f_X11_row_23b (s : (dV × Int × Int × Int × Int)) : Sum (dV × Int × Int × Int × Int) (dR) := f_X11_row_23c (s.1) (s.2.1) (s.2.2.1) (s.2.2.2.1) (s.2.2.2.2)

theorem f_X11_row_23e (V : dV) (a0 j23_1 j23_2 j23_3 : Int) : f_X11_row_23b (V, a0, j23_1, j23_2, j23_3) = f_X11_row_23c V a0 j23_1 j23_2 j23_3 := rfl

noncomputable def f_X11_row (V : dV) (a0 : Int) : dR :=
  dv_b (V a0 5 0) fun zz1 =>
  dv_b (V zz1 1 0) fun zz2 =>
  if zz2 ≠ 0 then (
  dv_lp (f_X11_row_23b) (V, a0, 0, 0, 0)
  ) else (
  dv_b2 (f_X11_answer V (a0) ((-6))) fun V13 x31 =>
  (V13, x31)
  )

noncomputable def f_X11_fluff (V : dV) (a0 : Int) : dP :=
  dv_b (V a0 16 0) fun zz1 =>
  (zz1, ())

noncomputable def f_X11_fault (V : dV) (a0 : Int) : dP :=
  dv_b (V a0 15 0) fun zz1 =>
  (zz1, ())

noncomputable def f_X11_stopped (V : dV) (a0 : Int) : dP :=
  dv_b (V a0 17 0) fun zz1 =>
  (zz1, ())

noncomputable def f_X11_status (V : dV) (a0 : Int) : dP :=
  dv_b (V a0 14 0) fun zz1 =>
  (zz1, ())

noncomputable def f_X11_force_23 (V : dV) (a0 p1 : Int) : dR :=
  dv_b (V a0 0 0) fun zz1 =>
  dv_b (V zz1 6 0) fun zz2 =>
  dv_b (V a0 0 0) fun zz3 =>
  dv_b (dv_u V zz3 6 0 (p1)) fun V36 =>
  dv_b (dv_u V36 a0 14 0 (0)) fun V41 =>
  (V41, zz2)

noncomputable def f_X11_force (V : dV) (a0 p1 : Int) : dR :=
  if p1 = (-1) then (
  f_X11_force_23 (V) (a0) (p1)
  ) else (
  dv_b (V a0 0 0) fun zz4 =>
  dv_b2 (f_X8_lawOf V (zz4) (p1)) fun v6 _ =>
  if v6 = -1 then (
  dv_b2 (f_X11_answer V (a0) ((-2))) fun V19 x8 =>
  (V19, x8)
  ) else (
  f_X11_force_23 (V) (a0) (p1)
  )
  )

noncomputable def f_X11_doLay (V : dV) (a0 p1 p2 p3 : Int) : dR :=
  dv_b (V a0 0 0) fun zz1 =>
  dv_b (V zz1 0 0) fun zz2 =>
  dv_b2 (f_X11_onGrid V (p2)) fun x3 _ =>
  if x3 = 0 then (
  (V, (-1))
  ) else (
  dv_b2 (f_X11_onGrid V (p3)) fun x4 _ =>
  if x4 ≠ 0 then (
  dv_b2 (f_X1_has V (zz2) (p1)) fun x5 _ =>
  if x5 ≠ 0 then (
  dv_b2 (f_X11_canLie V (a0) (zz2) (p1) (p2) (p3)) fun V43 x6 =>
  if x6 ≠ 0 then (
  dv_b (V43 a0 9 0) fun zz3 =>
  dv_b (V43 a0 0 0) fun zz4 =>
  dv_b2 (f_X8_forcedLaw V43 (zz4)) fun v9 _ =>
  dv_b2 (f_X2_costOf V43 (zz3) (v9) (zz2) (p1) (p2) (p3)) fun V68 x10 =>
  dv_b (V68 a0 10 0) fun zz5 =>
  dv_b2 (f_X4_note V68 (zz5) (0) (zz2)) fun V80 _ =>
  dv_b (dv_u V80 zz2 3 (p1) (p2)) fun V90 =>
  dv_b (dv_u V90 zz2 4 (p1) (p3)) fun V98 =>
  dv_b (V98 zz2 10 0) fun zz6 =>
  dv_b (dv_add (zz6) (x10)) fun x19 =>
  dv_b (min (9999) (x19)) fun x20 =>
  dv_b (dv_u V98 zz2 10 0 (x20)) fun V115 =>
  (V115, x10)
  ) else (
  (V43, (-3))
  )
  ) else (
  (V, (-2))
  )
  ) else (
  (V, (-1))
  )
  )

noncomputable def f_X11_doRoll (V : dV) (a0 p1 : Int) : dR :=
  dv_b (V a0 0 0) fun zz1 =>
  dv_b (V zz1 0 0) fun zz2 =>
  dv_b2 (f_X1_has V (zz2) (p1)) fun x3 _ =>
  if x3 ≠ 0 then (
  dv_b2 (f_X1_isLaid V (zz2) (p1)) fun x4 _ =>
  if x4 ≠ 0 then (
  dv_b (V a0 10 0) fun zz3 =>
  dv_b2 (f_X4_note V (zz3) (1) (zz2)) fun V36 _ =>
  dv_b2 (f_X1_rollUp V36 (zz2) (p1)) fun V41 _ =>
  dv_b2 (f_X1_bareCells V41 (zz2)) fun x6 _ =>
  (V41, x6)
  ) else (
  (V, (-3))
  )
  ) else (
  (V, (-2))
  )

noncomputable def f_X11_doMirror (V : dV) (a0 : Int) : dR :=
  dv_b (V a0 10 0) fun zz1 =>
  dv_b (V a0 0 0) fun zz2 =>
  dv_b (V zz2 0 0) fun zz3 =>
  dv_b2 (f_X4_note V (zz1) (2) (zz3)) fun V12 _ =>
  dv_b (V12 a0 0 0) fun zz4 =>
  dv_b (V12 zz4 0 0) fun zz5 =>
  dv_b2 (f_X1_turnOver V12 (zz5)) fun V22 x6 =>
  (V22, x6)

noncomputable def f_X11_doPass (V : dV) (a0 : Int) : dR :=
  dv_b (V a0 0 0) fun zz1 =>
  dv_b (V zz1 0 0) fun zz2 =>
  dv_b (V zz2 5 (0)) fun x4 =>
  if x4 < 999 then (
  dv_b (V a0 10 0) fun zz3 =>
  dv_b (V a0 0 0) fun zz4 =>
  dv_b (V zz4 0 0) fun zz5 =>
  dv_b2 (f_X4_note V (zz3) (3) (zz5)) fun V33 _ =>
  dv_b (V33 a0 0 0) fun zz6 =>
  dv_b (V33 zz6 0 0) fun zz7 =>
  dv_b (V33 a0 9 0) fun zz8 =>
  dv_b (V33 a0 0 0) fun zz9 =>
  dv_b2 (f_X8_forcedLaw V33 (zz9)) fun v9 _ =>
  dv_b2 (f_X1_wearAYear V33 (zz7) (zz8) (v9)) fun V54 x10 =>
  (V54, x10)
  ) else (
  (V, (-3))
  )

noncomputable def f_X11_lay (V : dV) (a0 p1 p2 p3 : Int) : dR :=
  dv_b2 (f_X11_doLay V (a0) (p1) (p2) (p3)) fun V5 x1 =>
  dv_b2 (f_X11_answer V5 (a0) (x1)) fun V8 x2 =>
  (V8, x2)

noncomputable def f_X11_roll (V : dV) (a0 p1 : Int) : dR :=
  dv_b2 (f_X11_doRoll V (a0) (p1)) fun V3 x1 =>
  dv_b2 (f_X11_answer V3 (a0) (x1)) fun V6 x2 =>
  (V6, x2)

noncomputable def f_X11_mirror (V : dV) (a0 : Int) : dR :=
  dv_b2 (f_X11_doMirror V (a0)) fun V2 x1 =>
  dv_b2 (f_X11_answer V2 (a0) (x1)) fun V5 x2 =>
  (V5, x2)

noncomputable def f_X11_pass (V : dV) (a0 : Int) : dR :=
  dv_b2 (f_X11_doPass V (a0)) fun V2 x1 =>
  dv_b2 (f_X11_answer V2 (a0) (x1)) fun V5 x2 =>
  (V5, x2)

noncomputable def f_X11_undo (V : dV) (a0 : Int) : dR :=
  dv_b (V a0 10 0) fun zz1 =>
  dv_b (V a0 0 0) fun zz2 =>
  dv_b (V zz2 0 0) fun zz3 =>
  dv_b2 (f_X4_takeBack V (zz1) (zz3)) fun V12 x4 =>
  dv_b2 (f_X11_answer V12 (a0) (x4)) fun V15 x5 =>
  (V15, x5)

noncomputable def f_X11_bare (V : dV) (a0 p1 : Int) : dR :=
  dv_b (V a0 0 0) fun zz1 =>
  dv_b (V zz1 0 0) fun zz2 =>
  if p1 ≠ 0 then (
  dv_b2 (f_X1_firstBareCell V (zz2)) fun V18 x3 =>
  if x3 ≠ (-1) then (
  if p1 ≠ 1 then (
  if p1 ≠ 2 then (
  (V18, (-1))
  ) else (
  dv_b (x3 / 12) fun x4 =>
  (V18, x4)
  )
  ) else (
  dv_b (x3 % 12) fun x5 =>
  (V18, x5)
  )
  ) else (
  (V18, (-1))
  )
  ) else (
  dv_b2 (f_X1_bareCells V (zz2)) fun x6 _ =>
  (V, x6)
  )

noncomputable def f_X11_inner (V : dV) (a0 : Int) : dP :=
  dv_b (V a0 0 0) fun zz1 =>
  dv_b (V zz1 0 0) fun zz2 =>
  dv_b2 (f_X1_innerHalls V (zz2)) fun x3 _ =>
  (x3, ())

noncomputable def f_X11_crosses (V : dV) (a0 : Int) : dP :=
  dv_b (V a0 0 0) fun zz1 =>
  dv_b (V zz1 0 0) fun zz2 =>
  dv_b2 (f_X1_crossPoints V (zz2)) fun x3 _ =>
  (x3, ())

noncomputable def f_X11_alike (V : dV) (a0 : Int) : dP :=
  dv_b (V a0 0 0) fun zz1 =>
  dv_b (V zz1 0 0) fun zz2 =>
  dv_b2 (f_X1_twosOfOneSide V (zz2)) fun x3 _ =>
  (x3, ())

noncomputable def f_X11_currents_47 (V : dV) (zz5 p1 s47_2 : Int) : dP :=
  dv_b2 (f_X1_sidesAtLine V (zz5) (p1) (s47_2)) fun x4 _ =>
  (x4, ())

noncomputable def f_X11_currents (V : dV) (a0 p1 p2 : Int) : dP :=
  if p1 < 0 then (
  ((-1), ())
  ) else (
  dv_b (V a0 0 0) fun zz1 =>
  dv_b (V zz1 0 0) fun zz2 =>
  dv_b (V zz2 9 0) fun zz3 =>
  if zz3 < p1 then (
  ((-1), ())
  ) else (
  if p2 < 0 then (
  ((-1), ())
  ) else (
  if p2 ≤ 1 then (
  dv_b (V a0 0 0) fun zz4 =>
  dv_b (V zz4 0 0) fun zz5 =>
  if p2 ≠ 1 then (
  f_X11_currents_47 (V) (zz5) (p1) (0)
  ) else (
  f_X11_currents_47 (V) (zz5) (p1) (1)
  )
  ) else (
  ((-1), ())
  )
  )
  )
  )

noncomputable def f_X11_fitting (V : dV) (a0 p1 : Int) : dR :=
  if p1 < 1 then (
  (V, (-1))
  ) else (
  if p1 ≤ 12 then (
  dv_b (V a0 0 0) fun zz1 =>
  dv_b (V zz1 0 0) fun zz2 =>
  dv_b2 (f_X1_placesFor V (zz2) (p1)) fun V23 x3 =>
  (V23, x3)
  ) else (
  (V, (-1))
  )
  )

noncomputable def f_X11_seen_25 (V : dV) (a0 : Int) : dR :=
  dv_b2 (f_X11_answer V (a0) ((-1))) fun V27 x2 =>
  (V27, x2)

noncomputable def f_X11_seen (V : dV) (a0 p1 p2 p3 : Int) : dR :=
  dv_b2 (f_X11_onGrid V (p1)) fun x1 _ =>
  if x1 = 0 then (
  f_X11_seen_25 (V) (a0)
  ) else (
  dv_b2 (f_X11_onGrid V (p2)) fun x3 _ =>
  if x3 = 0 then (
  f_X11_seen_25 (V) (a0)
  ) else (
  if p3 < 1 then (
  f_X11_seen_25 (V) (a0)
  ) else (
  if p3 ≤ 12 then (
  dv_b (V a0 0 0) fun zz1 =>
  dv_b (V zz1 7 0) fun zz2 =>
  if zz2 < 6 then (
  dv_b (V a0 0 0) fun zz3 =>
  dv_b (V a0 0 0) fun zz4 =>
  dv_b (V zz4 7 0) fun zz5 =>
  dv_b (dv_u V zz3 2 (zz5) (p1)) fun V65 =>
  dv_b (V65 a0 0 0) fun zz6 =>
  dv_b (V65 a0 0 0) fun zz7 =>
  dv_b (V65 zz7 7 0) fun zz8 =>
  dv_b (dv_u V65 zz6 3 (zz8) (p2)) fun V81 =>
  dv_b (V81 a0 0 0) fun zz9 =>
  dv_b (V81 a0 0 0) fun zz10 =>
  dv_b (V81 zz10 7 0) fun zz11 =>
  dv_b (dv_u V81 zz9 4 (zz11) (p3)) fun V97 =>
  dv_b (V97 a0 0 0) fun zz12 =>
  dv_b (V97 zz12 7 0) fun zz13 =>
  dv_b (zz13 + 1) fun x15 =>
  dv_b (dv_u V97 zz12 7 0 (x15)) fun V108 =>
  dv_b (V108 a0 0 0) fun zz14 =>
  dv_b (V108 zz14 7 0) fun zz15 =>
  dv_b2 (f_X11_answer V108 (a0) (zz15)) fun V119 x18 =>
  (V119, x18)
  ) else (
  dv_b2 (f_X11_answer V (a0) ((-5))) fun V46 x21 =>
  (V46, x21)
  )
  ) else (
  f_X11_seen_25 (V) (a0)
  )
  )
  )
  )

noncomputable def f_X11_forget (V : dV) (a0 : Int) : dR :=
  dv_b (V a0 0 0) fun zz1 =>
  dv_b (V zz1 7 0) fun zz2 =>
  dv_b (V a0 0 0) fun zz3 =>
  dv_b (dv_u V zz3 7 0 (0)) fun V13 =>
  (V13, zz2)

noncomputable def f_X11_drawYear_160 (V : dV) (x4 a0 : Int) : dR :=
  dv_b (V a0 3 0) fun zz7 =>
  dv_b (V a0 9 0) fun zz8 =>
  dv_b (V a0 0 0) fun zz9 =>
  dv_b2 (f_X8_forcedLaw V (zz9)) fun v13 _ =>
  dv_b2 (f_X1_wearAYear V (zz7) (zz8) (v13)) fun V175 x14 =>
  (V175, x4)

noncomputable def f_X11_drawYear_97 (V : dV) (s71_0 s46_0 x4 a0 s97_0 : Int) : dR :=
  dv_b (dv_rem (x4) (3)) fun x9 =>
  if x9 ≠ 2 then (
  dv_b (V a0 3 0) fun zz10 =>
  dv_b2 (f_X11_canLie V (a0) (zz10) (s46_0) (s71_0) (s97_0)) fun V130 x16 =>
  if x16 = 0 then (
  f_X11_drawYear_160 (V130) (x4) (a0)
  ) else (
  dv_b (V130 a0 3 0) fun zz11 =>
  dv_b (dv_u V130 zz11 3 (s46_0) (s71_0)) fun V147 =>
  dv_b (V147 a0 3 0) fun zz12 =>
  dv_b (dv_u V147 zz12 4 (s46_0) (s97_0)) fun V159 =>
  f_X11_drawYear_160 (V159) (x4) (a0)
  )
  ) else (
  dv_b (V a0 3 0) fun zz13 =>
  dv_b2 (f_X1_rollUp V (zz13) (s46_0)) fun V113 _ =>
  f_X11_drawYear_160 (V113) (x4) (a0)
  )

noncomputable def f_X11_drawYear_71 (V : dV) (s46_0 x4 x3 a0 s71_0 : Int) : dR :=
  dv_b (V a0 3 0) fun zz5 =>
  dv_b (V zz5 9 0) fun zz6 =>
  if zz6 ≤ 0 then (
  dv_z
  ) else (
  dv_b (V a0 3 0) fun zz14 =>
  dv_b (V zz14 9 0) fun zz15 =>
  dv_b (dv_rem (x3) (zz15)) fun x35 =>
  f_X11_drawYear_97 (V) (s71_0) (s46_0) (x4) (a0) (x35)
  )

noncomputable def f_X11_drawYear_46 (V : dV) (x4 x3 x2 a0 s46_0 : Int) : dR :=
  dv_b (V a0 3 0) fun zz3 =>
  dv_b (V zz3 8 0) fun zz4 =>
  if zz4 ≤ 0 then (
  dv_z
  ) else (
  dv_b (V a0 3 0) fun zz16 =>
  dv_b (V zz16 8 0) fun zz17 =>
  dv_b (dv_rem (x2) (zz17)) fun x36 =>
  f_X11_drawYear_71 (V) (s46_0) (x4) (x3) (a0) (x36)
  )

noncomputable def f_X11_drawYear (V : dV) (a0 p1 : Int) : dR :=
  dv_b2 (f_X11_nextDraw V (p1)) fun x1 _ =>
  dv_b2 (f_X11_nextDraw V (x1)) fun x2 _ =>
  dv_b2 (f_X11_nextDraw V (x2)) fun x3 _ =>
  dv_b2 (f_X11_nextDraw V (x3)) fun x4 _ =>
  dv_b (V a0 3 0) fun zz1 =>
  dv_b (V zz1 7 0) fun zz2 =>
  if zz2 ≤ 0 then (
  f_X11_drawYear_46 (V) (x4) (x3) (x2) (a0) (0)
  ) else (
  dv_b (V a0 3 0) fun zz18 =>
  dv_b (V zz18 7 0) fun zz19 =>
  dv_b (dv_rem (x1) (zz19)) fun x37 =>
  f_X11_drawYear_46 (V) (x4) (x3) (x2) (a0) (x37)
  )

noncomputable def f_X11_years_22 (V : dV) (a0 : Int) : dR :=
  dv_b2 (f_X11_answer V (a0) ((-1))) fun V24 x1 =>
  (V24, x1)

noncomputable def f_X11_years_100 (V : dV) (a0 : Int) : Sum (dV × Int × Int × Int × Int) (dR) :=
  dv_b (V a0 3 0) fun zz7 =>
  dv_b2 (f_X1_bareCells V (zz7)) fun x10 _ =>
  dv_b2 (f_X11_answer V (a0) (x10)) fun V108 x11 =>
  Sum.inr ((V108, x11))

noncomputable def f_X11_years_67c (V : dV) (a0 p2 j67_3 j67_4 : Int) : Sum (dV × Int × Int × Int × Int) (dR) :=
  if p2 ≤ j67_4 then (
  f_X11_years_100 (V) (a0)
  ) else (
  dv_b (V a0 3 0) fun zz8 =>
  dv_b (V zz8 5 (0)) fun x14 =>
  if 999 ≤ x14 then (
  f_X11_years_100 (V) (a0)
  ) else (
  dv_b2 (f_X11_drawYear V (a0) (j67_3)) fun V90 x15 =>
  dv_b (j67_4 + 1) fun x18 =>
  Sum.inl (V90, a0, p2, x15, x18)
  )
  )
noncomputable def f_X11_years_67b (s : (dV × Int × Int × Int × Int)) : Sum (dV × Int × Int × Int × Int) (dR) := f_X11_years_67c (s.1) (s.2.1) (s.2.2.1) (s.2.2.2.1) (s.2.2.2.2)

theorem f_X11_years_67e (V : dV) (a0 p2 j67_3 j67_4 : Int) : f_X11_years_67b (V, a0, p2, j67_3, j67_4) = f_X11_years_67c V a0 p2 j67_3 j67_4 := rfl

noncomputable def f_X11_years (V : dV) (a0 p1 p2 : Int) : dR :=
  if p1 < 0 then (
  f_X11_years_22 (V) (a0)
  ) else (
  if 1000000 < p1 then (
  f_X11_years_22 (V) (a0)
  ) else (
  if p2 < 1 then (
  f_X11_years_22 (V) (a0)
  ) else (
  if p2 ≤ 60 then (
  dv_b (V a0 0 0) fun zz1 =>
  dv_b (V zz1 0 0) fun zz2 =>
  dv_b (V zz2 7 0) fun zz3 =>
  if zz3 ≠ 0 then (
  dv_b (V a0 3 0) fun zz4 =>
  dv_b (V a0 0 0) fun zz5 =>
  dv_b (V zz5 0 0) fun zz6 =>
  dv_b2 (f_X1_copyFrom V (zz4) (zz6)) fun V59 _ =>
  dv_lp (f_X11_years_67b) (V59, a0, p2, p1, 0)
  ) else (
  dv_b2 (f_X11_answer V (a0) ((-3))) fun V44 x19 =>
  (V44, x19)
  )
  ) else (
  f_X11_years_22 (V) (a0)
  )
  )
  )
  )

noncomputable def f_X11_drawn (V : dV) (a0 p1 p2 : Int) : dP :=
  dv_b (V a0 3 0) fun zz1 =>
  dv_b2 (f_X1_has V (zz1) (p1)) fun x2 _ =>
  if x2 ≠ 0 then (
  if p2 = 0 then (
  dv_b (V a0 3 0) fun zz2 =>
  dv_b (V zz2 2 (p1)) fun x4 =>
  (x4, ())
  ) else (
  if p2 = 1 then (
  dv_b (V a0 3 0) fun zz3 =>
  dv_b (V zz3 3 (p1)) fun x6 =>
  (x6, ())
  ) else (
  if p2 = 2 then (
  dv_b (V a0 3 0) fun zz4 =>
  dv_b (V zz4 4 (p1)) fun x8 =>
  (x8, ())
  ) else (
  ((-1), ())
  )))
  ) else (
  ((-1), ())
  )

noncomputable def f_X11_image_9 (V : dV) (a0 : Int) : dR :=
  dv_b2 (f_X11_answer V (a0) ((-1))) fun V11 x1 =>
  (V11, x1)

noncomputable def f_X11_image (V : dV) (a0 p1 : Int) : dR :=
  if p1 < 0 then (
  f_X11_image_9 (V) (a0)
  ) else (
  if p1 < 2 then (
  dv_b (V a0 1 (p1)) fun b3 =>
  dv_b (V a0 0 0) fun zz1 =>
  dv_b2 (f_X8_copyFrom V (b3) (zz1)) fun V25 _ =>
  dv_b (dv_u V25 a0 2 (p1) (1)) fun V34 =>
  dv_b2 (f_X11_answer V34 (a0) (0)) fun V37 x6 =>
  (V37, x6)
  ) else (
  f_X11_image_9 (V) (a0)
  )
  )

noncomputable def f_X11_back_9 (V : dV) (a0 : Int) : dR :=
  dv_b2 (f_X11_answer V (a0) ((-1))) fun V11 x1 =>
  (V11, x1)

noncomputable def f_X11_back (V : dV) (a0 p1 : Int) : dR :=
  if p1 < 0 then (
  f_X11_back_9 (V) (a0)
  ) else (
  if p1 < 2 then (
  dv_b (V a0 2 (p1)) fun x3 =>
  if x3 ≠ 0 then (
  dv_b (V a0 0 0) fun zz1 =>
  dv_b (V a0 1 (p1)) fun b6 =>
  dv_b2 (f_X8_copyFrom V (zz1) (b6)) fun V41 _ =>
  dv_b (V41 a0 10 0) fun zz2 =>
  dv_b2 (f_X4_clear V41 (zz2)) fun V48 _ =>
  dv_b2 (f_X11_answer V48 (a0) (0)) fun V53 x8 =>
  (V53, x8)
  ) else (
  dv_b2 (f_X11_answer V (a0) ((-2))) fun V27 x9 =>
  (V27, x9)
  )
  ) else (
  f_X11_back_9 (V) (a0)
  )
  )

noncomputable def f_X11_count (V : dV) (a0 p1 : Int) : dP :=
  dv_b (V a0 0 0) fun zz1 =>
  dv_b (V zz1 0 0) fun zz2 =>
  if p1 = 0 then (
  dv_b (V zz2 7 0) fun zz3 =>
  (zz3, ())
  ) else (
  if p1 = 1 then (
  dv_b2 (f_X1_laidCarpets V (zz2)) fun x4 _ =>
  (x4, ())
  ) else (
  if p1 = 2 then (
  dv_b2 (f_X1_rags V (zz2)) fun x5 _ =>
  (x5, ())
  ) else (
  if p1 = 3 then (
  dv_b (V zz2 10 0) fun zz4 =>
  (zz4, ())
  ) else (
  if p1 = 4 then (
  dv_b (V a0 0 0) fun zz5 =>
  dv_b (V zz5 7 0) fun zz6 =>
  (zz6, ())
  ) else (
  if p1 = 5 then (
  dv_b (V a0 0 0) fun zz7 =>
  dv_b (V zz7 5 0) fun zz8 =>
  (zz8, ())
  ) else (
  if p1 = 6 then (
  dv_b (V a0 10 0) fun zz9 =>
  dv_b (V zz9 4 0) fun zz10 =>
  (zz10, ())
  ) else (
  if p1 = 7 then (
  dv_b (V a0 5 0) fun zz11 =>
  dv_b (V zz11 1 0) fun zz12 =>
  (zz12, ())
  ) else (
  if p1 = 8 then (
  dv_b (p1 - 8) fun x14 =>
  dv_b (V a0 13 (x14)) fun x15 =>
  (x15, ())
  ) else (
  if p1 = 9 then (
  dv_b (p1 - 8) fun x17 =>
  dv_b (V a0 13 (x17)) fun x18 =>
  (x18, ())
  ) else (
  if p1 = 10 then (
  dv_b (p1 - 8) fun x20 =>
  dv_b (V a0 13 (x20)) fun x21 =>
  (x21, ())
  ) else (
  if p1 = 11 then (
  dv_b (p1 - 8) fun x23 =>
  dv_b (V a0 13 (x23)) fun x24 =>
  (x24, ())
  ) else (
  if p1 = 12 then (
  dv_b (p1 - 8) fun x26 =>
  dv_b (V a0 13 (x26)) fun x27 =>
  (x27, ())
  ) else (
  if p1 = 13 then (
  dv_b (V a0 0 0) fun zz13 =>
  dv_b (V zz13 6 0) fun zz14 =>
  (zz14, ())
  ) else (
  if p1 = 14 then (
  dv_b (p1 - 14) fun x30 =>
  dv_b (V zz2 5 (x30)) fun x31 =>
  (x31, ())
  ) else (
  if p1 = 15 then (
  dv_b (p1 - 14) fun x33 =>
  dv_b (V zz2 5 (x33)) fun x34 =>
  (x34, ())
  ) else (
  if p1 = 16 then (
  dv_b (p1 - 14) fun x36 =>
  dv_b (V zz2 5 (x36)) fun x37 =>
  (x37, ())
  ) else (
  if p1 = 17 then (
  dv_b (V zz2 8 0) fun zz15 =>
  (zz15, ())
  ) else (
  if p1 = 18 then (
  dv_b (V zz2 9 0) fun zz16 =>
  (zz16, ())
  ) else (
  ((-1), ())
  )))))))))))))))))))

noncomputable def f_X11_runOnce_159 (V : dV) (a0 j159_2 : Int) : dR :=
  dv_b (V a0 8 0) fun zz9 =>
  dv_b (V zz9 1 (1)) fun x15 =>
  dv_b (dv_add (x15) (1)) fun x16 =>
  dv_b (dv_u V zz9 1 (1) (x16)) fun V171 =>
  if j159_2 < 0 then (
  (V171, 0)
  ) else (
  (V171, 1)
  )

noncomputable def f_X11_runOnce (V : dV) (a0 p1 : Int) : dR :=
  dv_b (V a0 8 0) fun zz1 =>
  dv_b (V a0 0 0) fun zz2 =>
  dv_b (V zz2 0 0) fun zz3 =>
  dv_b2 (f_X6_setOrderWords V (zz1) (zz3)) fun V11 _ =>
  dv_b (V11 a0 8 0) fun zz4 =>
  dv_b (V11 a0 7 0) fun zz5 =>
  dv_b2 (f_X6_isSo V11 (zz4) (zz5) (p1)) fun V23 x6 =>
  if x6 ≠ 0 then (
  dv_b (V23 a0 8 0) fun zz6 =>
  dv_b (V23 a0 7 0) fun zz7 =>
  dv_b2 (f_X6_reckonSums V23 (zz6) (zz7) (p1)) fun V40 x9 =>
  if x9 ≠ 0 then (
  dv_b (V40 a0 7 0) fun zz8 =>
  dv_b2 (f_X10_mark V40 (zz8) (p1) (0)) fun x12 _ =>
  if x12 = 0 then (
  dv_b (V40 a0 8 0) fun zz10 =>
  dv_b (V40 zz10 2 (0)) fun x19 =>
  dv_b (V40 a0 8 0) fun zz11 =>
  dv_b (V40 zz11 2 (1)) fun x20 =>
  dv_b (V40 a0 8 0) fun zz12 =>
  dv_b (V40 zz12 2 (2)) fun x21 =>
  dv_b2 (f_X11_doLay V40 (a0) (x19) (x20) (x21)) fun V112 x22 =>
  dv_b (V112 a0 8 0) fun zz13 =>
  dv_b (dv_u V112 zz13 1 (2) (x22)) fun V125 =>
  f_X11_runOnce_159 (V125) (a0) (x22)
  ) else (
  if x12 = 1 then (
  dv_b (V40 a0 8 0) fun zz14 =>
  dv_b (V40 zz14 2 (0)) fun x32 =>
  dv_b2 (f_X11_doRoll V40 (a0) (x32)) fun V139 x33 =>
  f_X11_runOnce_159 (V139) (a0) (x33)
  ) else (
  if x12 = 2 then (
  dv_b2 (f_X11_doMirror V40 (a0)) fun V147 x36 =>
  f_X11_runOnce_159 (V147) (a0) (x36)
  ) else (
  dv_b2 (f_X11_doPass V40 (a0)) fun V155 x39 =>
  f_X11_runOnce_159 (V155) (a0) (x39)
  )))
  ) else (
  (V40, 0)
  )
  ) else (
  (V23, 1)
  )




noncomputable def f_X7_prepare (V : dV) (a0 p1 p2 p3 : Int) : dR :=
  dv_b (dv_u V a0 8 0 (p1)) fun V2 =>
  dv_b (dv_u V2 a0 9 0 (p2)) fun V7 =>
  dv_b (dv_u V7 a0 7 0 (p3)) fun V12 =>
  dv_b (dv_u V12 a0 10 0 ((-1))) fun V17 =>
  dv_b (V17 a0 8 0) fun zz1 =>
  dv_b2 (f_X1_drawRows V17 (zz1)) fun V24 _ =>
  dv_b (V24 a0 8 0) fun zz2 =>
  dv_b2 (f_X1_bareCells V24 (zz2)) fun x9 _ =>
  dv_b (dv_u V24 a0 11 0 (x9)) fun V35 =>
  (V35, 0)

noncomputable def f_X7_rowLength (V : dV) (a0 : Int) : dP :=
  dv_b (V a0 5 0) fun zz1 =>
  (zz1, ())

noncomputable def f_X7_rowCarpet (V : dV) (a0 p1 : Int) : dP :=
  if p1 < 0 then (
  ((-1), ())
  ) else (
  dv_b (V a0 5 0) fun zz1 =>
  if zz1 ≤ p1 then (
  ((-1), ())
  ) else (
  dv_b (9) fun x3 =>
  if x3 ≤ p1 then (
  ((-1), ())
  ) else (
  dv_b (V a0 4 (p1)) fun x4 =>
  (x4, ())
  )
  )
  )

noncomputable def f_X7_areaReady_50 (V : dV) (a0 j4_2 j4_1 s50_1 : Int) : Sum (dV × Int × Int × Int) (dP) :=
  dv_b (dv_add (j4_1) (s50_1)) fun x3 =>
  dv_b (j4_2 + 1) fun x4 =>
  Sum.inl (V, a0, x3, x4)

noncomputable def f_X7_areaReady_4c (V : dV) (a0 j4_1 j4_2 : Int) : Sum (dV × Int × Int × Int) (dP) :=
  dv_b (V a0 8 0) fun zz1 =>
  dv_b (V zz1 7 0) fun zz2 =>
  if zz2 ≤ j4_2 then (
  Sum.inr ((j4_1, ()))
  ) else (
  dv_b (V a0 8 0) fun zz3 =>
  dv_b2 (f_X1_isReady V (zz3) (j4_2)) fun x2 _ =>
  if x2 = 0 then (
  f_X7_areaReady_50 (V) (a0) (j4_2) (j4_1) (0)
  ) else (
  dv_b (V a0 8 0) fun zz4 =>
  dv_b (V zz4 0 (j4_2)) fun x6 =>
  dv_b (V a0 8 0) fun zz5 =>
  dv_b (V zz5 0 (j4_2)) fun x7 =>
  dv_b (x6 * x7) fun x8 =>
  f_X7_areaReady_50 (V) (a0) (j4_2) (j4_1) (x8)
  )
  )
noncomputable def f_X7_areaReady_4b (s : (dV × Int × Int × Int)) : Sum (dV × Int × Int × Int) (dP) := f_X7_areaReady_4c (s.1) (s.2.1) (s.2.2.1) (s.2.2.2)

theorem f_X7_areaReady_4e (V : dV) (a0 j4_1 j4_2 : Int) : f_X7_areaReady_4b (V, a0, j4_1, j4_2) = f_X7_areaReady_4c V a0 j4_1 j4_2 := rfl

noncomputable def f_X7_areaReady (V : dV) (a0 : Int) : dP :=
  dv_lp (f_X7_areaReady_4b) (V, a0, 0, 0)

noncomputable def f_X7_isBare (V : dV) (a0 p1 p2 : Int) : dP :=
  dv_b (p2 % 12) fun x1 =>
  dv_b (p2 / 12) fun x2 =>
  dv_b (V a0 8 0) fun zz1 =>
  dv_b (V zz1 8 0) fun zz2 =>
  if zz2 ≤ x1 then (
  (0, ())
  ) else (
  dv_b (V a0 8 0) fun zz3 =>
  dv_b (V zz3 9 0) fun zz4 =>
  if zz4 ≤ x2 then (
  (0, ())
  ) else (
  dv_b (V a0 8 0) fun zz5 =>
  dv_b (V zz5 6 (x2)) fun x6 =>
  dv_b (dv_shr (x6) (x1)) fun x7 =>
  dv_b (dv_and (x7) (1)) fun x8 =>
  if x8 ≠ 0 then (
  (0, ())
  ) else (
  dv_b (4 * x1) fun x9 =>
  dv_b (dv_lushr (p1) (x9)) fun y10 =>
  dv_b (dv_land (y10) (15)) fun y11 =>
  dv_b (x2) fun y12 =>
  dv_b (dv_lcmp (y11) (y12)) fun x13 =>
  if 0 < x13 then (
  (0, ())
  ) else (
  (1, ())
  )
  )
  )
  )

noncomputable def f_X7_firstBare_3c (V : dV) (a0 p1 j3_4 : Int) : Sum (dV × Int × Int × Int) (dP) :=
  if 144 ≤ j3_4 then (
  Sum.inr (((-1), ()))
  ) else (
  dv_b2 (f_X7_isBare V (a0) (p1) (j3_4)) fun x1 _ =>
  if x1 = 0 then (
  dv_b (j3_4 + 1) fun x2 =>
  Sum.inl (V, a0, p1, x2)
  ) else (
  Sum.inr ((j3_4, ()))
  )
  )
noncomputable def f_X7_firstBare_3b (s : (dV × Int × Int × Int)) : Sum (dV × Int × Int × Int) (dP) := f_X7_firstBare_3c (s.1) (s.2.1) (s.2.2.1) (s.2.2.2)

theorem f_X7_firstBare_3e (V : dV) (a0 p1 j3_4 : Int) : f_X7_firstBare_3b (V, a0, p1, j3_4) = f_X7_firstBare_3c V a0 p1 j3_4 := rfl

noncomputable def f_X7_firstBare (V : dV) (a0 p1 p2 : Int) : dP :=
  dv_lp (f_X7_firstBare_3b) (V, a0, p1, p2)

noncomputable def f_X7_agreesWithSeen_88 (V : dV) (a0 p1 p2 p3 j3_4 : Int) : Sum (dV × Int × Int × Int × Int × Int) (dP) :=
  dv_b (j3_4 + 1) fun x10 =>
  Sum.inl (V, a0, p1, p2, p3, x10)

noncomputable def f_X7_agreesWithSeen_3c (V : dV) (a0 p1 p2 p3 j3_4 : Int) : Sum (dV × Int × Int × Int × Int × Int) (dP) :=
  dv_b (V a0 10 0) fun zz1 =>
  if zz1 = -1 then (
  Sum.inr ((1, ()))
  ) else (
  dv_b (V a0 10 0) fun zz2 =>
  dv_b (V zz2 7 0) fun zz3 =>
  if zz3 ≤ j3_4 then (
  Sum.inr ((1, ()))
  ) else (
  dv_b (V a0 10 0) fun zz4 =>
  dv_b (V zz4 2 (j3_4)) fun x5 =>
  dv_b (dv_sub (x5) (p2)) fun x6 =>
  dv_b (V a0 10 0) fun zz5 =>
  dv_b (V zz5 3 (j3_4)) fun x8 =>
  dv_b (dv_sub (x8) (p3)) fun x9 =>
  if x6 < 0 then (
  f_X7_agreesWithSeen_88 (V) (a0) (p1) (p2) (p3) (j3_4)
  ) else (
  if p1 ≤ x6 then (
  f_X7_agreesWithSeen_88 (V) (a0) (p1) (p2) (p3) (j3_4)
  ) else (
  if x9 < 0 then (
  f_X7_agreesWithSeen_88 (V) (a0) (p1) (p2) (p3) (j3_4)
  ) else (
  if p1 ≤ x9 then (
  f_X7_agreesWithSeen_88 (V) (a0) (p1) (p2) (p3) (j3_4)
  ) else (
  dv_b (V a0 10 0) fun zz6 =>
  dv_b (V zz6 4 (j3_4)) fun x12 =>
  if x12 = p1 then (
  f_X7_agreesWithSeen_88 (V) (a0) (p1) (p2) (p3) (j3_4)
  ) else (
  Sum.inr ((0, ()))
  )
  )
  )
  )
  )
  )
  )
noncomputable def f_X7_agreesWithSeen_3b (s : (dV × Int × Int × Int × Int × Int)) : Sum (dV × Int × Int × Int × Int × Int) (dP) := f_X7_agreesWithSeen_3c (s.1) (s.2.1) (s.2.2.1) (s.2.2.2.1) (s.2.2.2.2.1) (s.2.2.2.2.2)

theorem f_X7_agreesWithSeen_3e (V : dV) (a0 p1 p2 p3 j3_4 : Int) : f_X7_agreesWithSeen_3b (V, a0, p1, p2, p3, j3_4) = f_X7_agreesWithSeen_3c V a0 p1 p2 p3 j3_4 := rfl

noncomputable def f_X7_agreesWithSeen (V : dV) (a0 p1 p2 p3 : Int) : dP :=
  dv_lp (f_X7_agreesWithSeen_3b) (V, a0, p1, p2, p3, 0)

noncomputable def f_X7_keyWith (V : dV) (a0 p1 p2 p3 : Int) : dP :=
  dv_b (p3 % 12) fun x1 =>
  dv_b (p3 / 12) fun x2 =>
  dv_b (V a0 8 0) fun zz1 =>
  dv_b (V zz1 0 (p2)) fun x4 =>
  dv_b (x2 + x4) fun x5 =>
  dv_b (x5) fun y6 =>
  dv_b (V a0 8 0) fun zz2 =>
  dv_b (V zz2 0 (p2)) fun x7 =>
  dv_b (4 * x7) fun x8 =>
  dv_b (dv_lshl (1) (x8)) fun y9 =>
  dv_b (dv_lsub (y9) (1)) fun y10 =>
  dv_b (4 * x1) fun x11 =>
  dv_b (dv_lshl (y10) (x11)) fun y12 =>
  dv_b (dv_lxor (y12) ((-1))) fun y13 =>
  dv_b (dv_land (p1) (y13)) fun y14 =>
  dv_b (dv_lmul (y6) (18764998447377)) fun y15 =>
  dv_b (4 * x1) fun x16 =>
  dv_b (dv_lshl (y15) (x16)) fun y17 =>
  dv_b (dv_land (y17) (y12)) fun y18 =>
  dv_b (dv_lor (y14) (y18)) fun y19 =>
  dv_b (48 + p2) fun x20 =>
  dv_b (dv_lshl (1) (x20)) fun y21 =>
  dv_b (dv_lor (y19) (y21)) fun y22 =>
  (y22, ())

noncomputable def f_X7_cheaper (V : dV) (p1 p2 p3 : Int) : dP :=
  if p2 ≠ (-1) then (
  if p1 ≠ (-1) then (
  dv_b (dv_add (p2) (p3)) fun x1 =>
  dv_b (min (p1) (x1)) fun x2 =>
  (x2, ())
  ) else (
  dv_b (dv_add (p2) (p3)) fun x3 =>
  (x3, ())
  )
  ) else (
  (p1, ())
  )

noncomputable def f_X7_priceAt_123 (V : dV) (x6 a0 s123_2 : Int) : dR :=
  dv_b (dv_u V a0 1 (x6) (s123_2)) fun V123 =>
  dv_b (V123 a0 1 (x6)) fun x29 =>
  (V123, x29)

noncomputable def f_X7_priceAt (V : dV) (a0 p1 p2 : Int) : dR :=
  dv_b (V a0 9 0) fun zz1 =>
  if zz1 = -1 then (
  dv_b (V a0 8 0) fun zz2 =>
  dv_b (V zz2 0 (p1)) fun x4 =>
  (V, x4)
  ) else (
  dv_b (p1 * 144) fun x5 =>
  dv_b (x5 + p2) fun x6 =>
  dv_b (V a0 2 (x6)) fun x8 =>
  dv_b (V a0 6 0) fun zz3 =>
  if x8 = zz3 then (
  dv_b (V a0 1 (x6)) fun x11 =>
  (V, x11)
  ) else (
  dv_b (p2 % 12) fun x12 =>
  dv_b (p2 / 12) fun x13 =>
  dv_b (V a0 6 0) fun zz4 =>
  dv_b (dv_u V a0 2 (x6) (zz4)) fun V59 =>
  dv_b (V59 a0 7 0) fun zz5 =>
  dv_b (V59 a0 9 0) fun zz6 =>
  dv_b (V59 a0 8 0) fun zz7 =>
  dv_b2 (f_X2_isBarred V59 (zz5) (zz6) (zz7) (p1) (x12) (x13)) fun V82 x20 =>
  if x20 = 0 then (
  dv_b (V82 a0 12 0) fun zz8 =>
  if zz8 = 0 then (
  f_X7_priceAt_123 (V82) (x6) (a0) (0)
  ) else (
  dv_b (V82 a0 7 0) fun zz9 =>
  dv_b (V82 a0 9 0) fun zz10 =>
  dv_b (V82 a0 8 0) fun zz11 =>
  dv_b2 (f_X2_costOf V82 (zz9) (zz10) (zz11) (p1) (x12) (x13)) fun V116 x31 =>
  f_X7_priceAt_123 (V116) (x6) (a0) (x31)
  )
  ) else (
  f_X7_priceAt_123 (V82) (x6) (a0) ((-1))
  )
  )
  )

noncomputable def f_X7_mostAt_4c (V : dV) (a0 p1 j4_2 j4_3 : Int) : Sum (dV × Int × Int × Int × Int) (dP) :=
  dv_b (V a0 8 0) fun zz1 =>
  dv_b (V zz1 7 0) fun zz2 =>
  if zz2 ≤ j4_3 then (
  Sum.inr ((j4_2, ()))
  ) else (
  if p1 < 0 then (
  Sum.inr ((j4_2, ()))
  ) else (
  if 144 ≤ p1 then (
  Sum.inr (dv_zp)
  ) else (
  dv_b (j4_3 * 144) fun x3 =>
  dv_b (x3 + p1) fun x4 =>
  dv_b (V a0 3 (x4)) fun x5 =>
  dv_b (max (j4_2) (x5)) fun x6 =>
  dv_b (j4_3 + 1) fun x7 =>
  Sum.inl (V, a0, p1, x6, x7)
  )
  )
  )
noncomputable def f_X7_mostAt_4b (s : (dV × Int × Int × Int × Int)) : Sum (dV × Int × Int × Int × Int) (dP) := f_X7_mostAt_4c (s.1) (s.2.1) (s.2.2.1) (s.2.2.2.1) (s.2.2.2.2)

theorem f_X7_mostAt_4e (V : dV) (a0 p1 j4_2 j4_3 : Int) : f_X7_mostAt_4b (V, a0, p1, j4_2, j4_3) = f_X7_mostAt_4c V a0 p1 j4_2 j4_3 := rfl

noncomputable def f_X7_mostAt (V : dV) (a0 p1 : Int) : dP :=
  dv_lp (f_X7_mostAt_4b) (V, a0, p1, 0, 0)

noncomputable def f_X7_bestLook_40 (V : dV) (a0 j4_2 j40_1 : Int) : Sum (dV × Int × Int × Int) (dP) :=
  dv_b (j4_2 + 1) fun x2 =>
  Sum.inl (V, a0, j40_1, x2)

noncomputable def f_X7_bestLook_38 (V : dV) (a0 j4_2 : Int) : Sum (dV × Int × Int × Int) (dP) :=
  f_X7_bestLook_40 (V) (a0) (j4_2) (j4_2)

noncomputable def f_X7_bestLook_4c (V : dV) (a0 j4_1 j4_2 : Int) : Sum (dV × Int × Int × Int) (dP) :=
  if 144 ≤ j4_2 then (
  Sum.inr ((j4_1, ()))
  ) else (
  dv_b2 (f_X7_isBare V (a0) (0) (j4_2)) fun x1 _ =>
  if x1 = 0 then (
  f_X7_bestLook_40 (V) (a0) (j4_2) (j4_1)
  ) else (
  if j4_1 = (-1) then (
  f_X7_bestLook_38 (V) (a0) (j4_2)
  ) else (
  dv_b2 (f_X7_mostAt V (a0) (j4_2)) fun x3 _ =>
  dv_b2 (f_X7_mostAt V (a0) (j4_1)) fun x4 _ =>
  if x4 ≤ x3 then (
  f_X7_bestLook_40 (V) (a0) (j4_2) (j4_1)
  ) else (
  f_X7_bestLook_38 (V) (a0) (j4_2)
  )
  )
  )
  )
noncomputable def f_X7_bestLook_4b (s : (dV × Int × Int × Int)) : Sum (dV × Int × Int × Int) (dP) := f_X7_bestLook_4c (s.1) (s.2.1) (s.2.2.1) (s.2.2.2)

theorem f_X7_bestLook_4e (V : dV) (a0 j4_1 j4_2 : Int) : f_X7_bestLook_4b (V, a0, j4_1, j4_2) = f_X7_bestLook_4c V a0 j4_1 j4_2 := rfl

noncomputable def f_X7_bestLook (V : dV) (a0 : Int) : dP :=
  dv_lp (f_X7_bestLook_4b) (V, a0, (-1), 0)

noncomputable def f_X7_heed_94 (V : dV) (a0 p1 j7_2 : Int) : Sum (dV × Int × Int × Int) (dR) :=
  dv_b (j7_2 + 1) fun x12 =>
  Sum.inl (V, a0, p1, x12)

noncomputable def f_X7_heed_7c (V : dV) (a0 p1 j7_2 : Int) : Sum (dV × Int × Int × Int) (dR) :=
  dv_b (V p1 7 0) fun zz1 =>
  if zz1 ≤ j7_2 then (
  Sum.inr ((V, 1))
  ) else (
  dv_b (V p1 2 (j7_2)) fun x4 =>
  dv_b (V a0 8 0) fun zz2 =>
  dv_b (V zz2 8 0) fun zz3 =>
  if zz3 ≤ x4 then (
  Sum.inr ((V, 0))
  ) else (
  dv_b (V p1 3 (j7_2)) fun x7 =>
  dv_b (V a0 8 0) fun zz4 =>
  dv_b (V zz4 9 0) fun zz5 =>
  if x7 < zz5 then (
  dv_b (V a0 8 0) fun zz6 =>
  dv_b (V p1 2 (j7_2)) fun x9 =>
  dv_b (V p1 3 (j7_2)) fun x10 =>
  dv_b2 (f_X1_carpetOn V (zz6) (x9) (x10)) fun x11 _ =>
  if x11 = (-1) then (
  f_X7_heed_94 (V) (a0) (p1) (j7_2)
  ) else (
  dv_b (V a0 8 0) fun zz7 =>
  dv_b (V zz7 0 (x11)) fun x14 =>
  dv_b (V p1 4 (j7_2)) fun x16 =>
  if x14 = x16 then (
  f_X7_heed_94 (V) (a0) (p1) (j7_2)
  ) else (
  Sum.inr ((V, 0))
  )
  )
  ) else (
  Sum.inr ((V, 0))
  )
  )
  )
noncomputable def f_X7_heed_7b (s : (dV × Int × Int × Int)) : Sum (dV × Int × Int × Int) (dR) := f_X7_heed_7c (s.1) (s.2.1) (s.2.2.1) (s.2.2.2)

theorem f_X7_heed_7e (V : dV) (a0 p1 j7_2 : Int) : f_X7_heed_7b (V, a0, p1, j7_2) = f_X7_heed_7c V a0 p1 j7_2 := rfl

noncomputable def f_X7_heed (V : dV) (a0 p1 : Int) : dR :=
  dv_b (dv_u V a0 10 0 (p1)) fun V2 =>
  dv_lp (f_X7_heed_7b) (V2, a0, p1, 0)

noncomputable def f_X7_fits_99c (V : dV) (x15 x9 x8 x7 a0 p1 j99_9 : Int) : Sum (dV × Int × Int × Int × Int × Int × Int × Int) (dP) :=
  if x7 ≤ j99_9 then (
  dv_b2 (f_X7_agreesWithSeen V (a0) (x7) (x8) (x9)) fun x16 _ =>
  Sum.inr ((x16, ()))
  ) else (
  dv_b (x8 + j99_9) fun x17 =>
  dv_b (4 * x17) fun x18 =>
  dv_b (dv_lushr (p1) (x18)) fun y19 =>
  dv_b (dv_land (y19) (15)) fun y20 =>
  dv_b (x9) fun y21 =>
  dv_b (dv_lcmp (y20) (y21)) fun x22 =>
  if 0 < x22 then (
  Sum.inr ((0, ()))
  ) else (
  dv_b (V a0 8 0) fun zz7 =>
  dv_b (x9 + j99_9) fun x24 =>
  dv_b (V zz7 6 (x24)) fun x25 =>
  dv_b (dv_shr (x25) (x8)) fun x26 =>
  dv_b (dv_and (x26) (x15)) fun x27 =>
  if x27 = 0 then (
  dv_b (j99_9 + 1) fun x28 =>
  Sum.inl (V, x15, x9, x8, x7, a0, p1, x28)
  ) else (
  Sum.inr ((0, ()))
  )
  )
  )
noncomputable def f_X7_fits_99b (s : (dV × Int × Int × Int × Int × Int × Int × Int)) : Sum (dV × Int × Int × Int × Int × Int × Int × Int) (dP) := f_X7_fits_99c (s.1) (s.2.1) (s.2.2.1) (s.2.2.2.1) (s.2.2.2.2.1) (s.2.2.2.2.2.1) (s.2.2.2.2.2.2.1) (s.2.2.2.2.2.2.2)

theorem f_X7_fits_99e (V : dV) (x15 x9 x8 x7 a0 p1 j99_9 : Int) : f_X7_fits_99b (V, x15, x9, x8, x7, a0, p1, j99_9) = f_X7_fits_99c V x15 x9 x8 x7 a0 p1 j99_9 := rfl

noncomputable def f_X7_fits (V : dV) (a0 p1 p2 p3 : Int) : dP :=
  if p3 < 0 then (
  (0, ())
  ) else (
  dv_b (V a0 8 0) fun zz1 =>
  dv_b2 (f_X1_isReady V (zz1) (p2)) fun x1 _ =>
  if x1 = 0 then (
  (0, ())
  ) else (
  dv_b (dv_add (48) (p2)) fun x2 =>
  dv_b (dv_lushr (p1) (x2)) fun y3 =>
  dv_b (dv_land (y3) (1)) fun y4 =>
  dv_b (dv_lcmp (y4) (0)) fun x5 =>
  if x5 = 0 then (
  dv_b (V a0 8 0) fun zz2 =>
  dv_b (V zz2 0 (p2)) fun x7 =>
  dv_b (p3 % 12) fun x8 =>
  dv_b (p3 / 12) fun x9 =>
  dv_b (x8 + x7) fun x10 =>
  dv_b (V a0 8 0) fun zz3 =>
  dv_b (V zz3 8 0) fun zz4 =>
  if zz4 < x10 then (
  (0, ())
  ) else (
  dv_b (x9 + x7) fun x12 =>
  dv_b (V a0 8 0) fun zz5 =>
  dv_b (V zz5 9 0) fun zz6 =>
  if x12 ≤ zz6 then (
  dv_b (dv_shl (1) (x7)) fun x14 =>
  dv_b (dv_sub (x14) (1)) fun x15 =>
  dv_lp (f_X7_fits_99b) (V, x15, x9, x8, x7, a0, p1, 0)
  ) else (
  (0, ())
  )
  )
  ) else (
  (0, ())
  )
  )
  )

noncomputable def f_X7_fillsAlone (V : dV) (a0 p1 : Int) : dR :=
  dv_b2 (f_X7_firstBare V (a0) (0) (0)) fun x1 _ =>
  dv_b (V a0 8 0) fun zz1 =>
  dv_b (V zz1 0 (p1)) fun x3 =>
  dv_b (V a0 8 0) fun zz2 =>
  dv_b (V zz2 0 (p1)) fun x4 =>
  dv_b (x3 * x4) fun x5 =>
  dv_b (V a0 11 0) fun zz3 =>
  if x5 ≠ zz3 then (
  (V, 0)
  ) else (
  dv_b2 (f_X7_fits V (a0) (0) (p1) (x1)) fun x8 _ =>
  if x8 = 0 then (
  (V, 0)
  ) else (
  dv_b2 (f_X7_priceAt V (a0) (p1) (x1)) fun V46 x9 =>
  if x9 = (-1) then (
  (V46, 0)
  ) else (
  (V46, 1)
  )
  )
  )

noncomputable def f_X7_addToTally_28c (V : dV) (x2 a0 p1 p2 p3 j14_5 j28_6 : Int) : Sum (dV × Int × Int × Int × Int × Int × Int × Int) (Sum (dV × Int × Int × Int × Int × Int × Int) (dR)) :=
  if x2 ≤ j28_6 then (
  dv_b (j14_5 + 1) fun x3 =>
  Sum.inr (Sum.inl (V, x2, a0, p1, p2, p3, x3))
  ) else (
  dv_b (p1 * 144) fun x5 =>
  dv_b (x5 + p2) fun x6 =>
  dv_b (j14_5 * 12) fun x7 =>
  dv_b (x6 + x7) fun x8 =>
  dv_b (x8 + j28_6) fun x9 =>
  dv_b (V a0 3 (x9)) fun x10 =>
  dv_b (dv_add (x10) (p3)) fun x11 =>
  dv_b (dv_u V a0 3 (x9) (x11)) fun V59 =>
  dv_b (j28_6 + 1) fun x13 =>
  Sum.inl (V59, x2, a0, p1, p2, p3, j14_5, x13)
  )
noncomputable def f_X7_addToTally_28b (s : (dV × Int × Int × Int × Int × Int × Int × Int)) : Sum (dV × Int × Int × Int × Int × Int × Int × Int) (Sum (dV × Int × Int × Int × Int × Int × Int) (dR)) := f_X7_addToTally_28c (s.1) (s.2.1) (s.2.2.1) (s.2.2.2.1) (s.2.2.2.2.1) (s.2.2.2.2.2.1) (s.2.2.2.2.2.2.1) (s.2.2.2.2.2.2.2)

theorem f_X7_addToTally_28e (V : dV) (x2 a0 p1 p2 p3 j14_5 j28_6 : Int) : f_X7_addToTally_28b (V, x2, a0, p1, p2, p3, j14_5, j28_6) = f_X7_addToTally_28c V x2 a0 p1 p2 p3 j14_5 j28_6 := rfl

noncomputable def f_X7_addToTally_14c (V : dV) (x2 a0 p1 p2 p3 j14_5 : Int) : Sum (dV × Int × Int × Int × Int × Int × Int) (dR) :=
  if x2 ≤ j14_5 then (
  Sum.inr ((V, 0))
  ) else (
  if p3 ≤ 0 then (
  Sum.inr ((V, 0))
  ) else (
  dv_lp (f_X7_addToTally_28b) (V, x2, a0, p1, p2, p3, j14_5, 0)
  )
  )
noncomputable def f_X7_addToTally_14b (s : (dV × Int × Int × Int × Int × Int × Int)) : Sum (dV × Int × Int × Int × Int × Int × Int) (dR) := f_X7_addToTally_14c (s.1) (s.2.1) (s.2.2.1) (s.2.2.2.1) (s.2.2.2.2.1) (s.2.2.2.2.2.1) (s.2.2.2.2.2.2)

theorem f_X7_addToTally_14e (V : dV) (x2 a0 p1 p2 p3 j14_5 : Int) : f_X7_addToTally_14b (V, x2, a0, p1, p2, p3, j14_5) = f_X7_addToTally_14c V x2 a0 p1 p2 p3 j14_5 := rfl

noncomputable def f_X7_addToTally (V : dV) (a0 p1 p2 p3 : Int) : dR :=
  dv_b (V a0 8 0) fun zz1 =>
  dv_b (V zz1 0 (p1)) fun x2 =>
  dv_lp (f_X7_addToTally_14b) (V, x2, a0, p1, p2, p3, 0)





noncomputable def f_X5_isLetter (V : dV) (p1 : Int) : dP :=
  if p1 < 97 then (
  (0, ())
  ) else (
  if 122 < p1 then (
  (0, ())
  ) else (
  (1, ())
  )
  )

noncomputable def f_X5_isDigit (V : dV) (p1 : Int) : dP :=
  if p1 < 48 then (
  (0, ())
  ) else (
  if 57 < p1 then (
  (0, ())
  ) else (
  (1, ())
  )
  )

noncomputable def f_X5_endOfLetters_2c (V : dV) (a0 j2_2 : Int) : Sum (dV × Int × Int) (dP) :=
  dv_b (V a0 2 0) fun zz1 =>
  dv_b (V zz1 1 0) fun zz2 =>
  if zz2 ≤ j2_2 then (
  Sum.inr ((j2_2, ()))
  ) else (
  dv_b (V a0 2 0) fun zz3 =>
  dv_b (V zz3 0 (j2_2)) fun x3 =>
  dv_b2 (f_X5_isLetter V (x3)) fun x4 _ =>
  if x4 = 0 then (
  Sum.inr ((j2_2, ()))
  ) else (
  dv_b (j2_2 + 1) fun x5 =>
  Sum.inl (V, a0, x5)
  )
  )
noncomputable def f_X5_endOfLetters_2b (s : (dV × Int × Int)) : Sum (dV × Int × Int) (dP) := f_X5_endOfLetters_2c (s.1) (s.2.1) (s.2.2)

theorem f_X5_endOfLetters_2e (V : dV) (a0 j2_2 : Int) : f_X5_endOfLetters_2b (V, a0, j2_2) = f_X5_endOfLetters_2c V a0 j2_2 := rfl

noncomputable def f_X5_endOfLetters (V : dV) (a0 p1 : Int) : dP :=
  dv_lp (f_X5_endOfLetters_2b) (V, a0, p1)

noncomputable def f_X5_endOfDigits_2c (V : dV) (a0 j2_2 : Int) : Sum (dV × Int × Int) (dP) :=
  dv_b (V a0 2 0) fun zz1 =>
  dv_b (V zz1 1 0) fun zz2 =>
  if zz2 ≤ j2_2 then (
  Sum.inr ((j2_2, ()))
  ) else (
  dv_b (V a0 2 0) fun zz3 =>
  dv_b (V zz3 0 (j2_2)) fun x3 =>
  dv_b2 (f_X5_isDigit V (x3)) fun x4 _ =>
  if x4 = 0 then (
  Sum.inr ((j2_2, ()))
  ) else (
  dv_b (j2_2 + 1) fun x5 =>
  Sum.inl (V, a0, x5)
  )
  )
noncomputable def f_X5_endOfDigits_2b (s : (dV × Int × Int)) : Sum (dV × Int × Int) (dP) := f_X5_endOfDigits_2c (s.1) (s.2.1) (s.2.2)

theorem f_X5_endOfDigits_2e (V : dV) (a0 j2_2 : Int) : f_X5_endOfDigits_2b (V, a0, j2_2) = f_X5_endOfDigits_2c V a0 j2_2 := rfl

noncomputable def f_X5_endOfDigits (V : dV) (a0 p1 : Int) : dP :=
  dv_lp (f_X5_endOfDigits_2b) (V, a0, p1)

noncomputable def f_X5_valueFrom_5c (V : dV) (a0 p2 j5_3 j5_4 : Int) : Sum (dV × Int × Int × Int × Int) (dP) :=
  if p2 ≤ j5_4 then (
  Sum.inr ((j5_3, ()))
  ) else (
  dv_b (dv_mul (j5_3) (10)) fun x1 =>
  dv_b (V a0 2 0) fun zz1 =>
  dv_b (V zz1 0 (j5_4)) fun x3 =>
  dv_b (dv_add (x1) (x3)) fun x4 =>
  dv_b (dv_sub (x4) (48)) fun x5 =>
  dv_b (min (x5) (1001)) fun x6 =>
  dv_b (j5_4 + 1) fun x7 =>
  Sum.inl (V, a0, p2, x6, x7)
  )
noncomputable def f_X5_valueFrom_5b (s : (dV × Int × Int × Int × Int)) : Sum (dV × Int × Int × Int × Int) (dP) := f_X5_valueFrom_5c (s.1) (s.2.1) (s.2.2.1) (s.2.2.2.1) (s.2.2.2.2)

theorem f_X5_valueFrom_5e (V : dV) (a0 p2 j5_3 j5_4 : Int) : f_X5_valueFrom_5b (V, a0, p2, j5_3, j5_4) = f_X5_valueFrom_5c V a0 p2 j5_3 j5_4 := rfl

noncomputable def f_X5_valueFrom (V : dV) (a0 p1 p2 : Int) : dP :=
  dv_lp (f_X5_valueFrom_5b) (V, a0, p2, 0, p1)

noncomputable def f_X5_codeOf (V : dV) (p1 : Int) : dP :=
  if p1 = 37 then (
  (3004, ())
  ) else (
  if p1 = 38 then (
  ((-1), ())
  ) else (
  if p1 = 39 then (
  ((-1), ())
  ) else (
  if p1 = 40 then (
  ((-1), ())
  ) else (
  if p1 = 41 then (
  ((-1), ())
  ) else (
  if p1 = 42 then (
  (3002, ())
  ) else (
  if p1 = 43 then (
  (3000, ())
  ) else (
  if p1 = 44 then (
  ((-1), ())
  ) else (
  if p1 = 45 then (
  (3001, ())
  ) else (
  if p1 = 46 then (
  ((-1), ())
  ) else (
  if p1 = 47 then (
  (3003, ())
  ) else (
  ((-1), ())
  )))))))))))

noncomputable def f_X5_orderCode_24 (V : dV) (p1 : Int) : dP :=
  if p1 ≠ 321 then (
  if p1 ≠ 318 then (
  if p1 ≠ 327 then (
  ((-1), ())
  ) else (
  (2014, ())
  )
  ) else (
  (2005, ())
  )
  ) else (
  (2000, ())
  )

noncomputable def f_X5_orderCode (V : dV) (p1 : Int) : dP :=
  if p1 < 323 then (
  f_X5_orderCode_24 (V) (p1)
  ) else (
  if 326 < p1 then (
  f_X5_orderCode_24 (V) (p1)
  ) else (
  dv_b (2001 + p1) fun x1 =>
  dv_b (x1 - 323) fun x2 =>
  (x2, ())
  )
  )

noncomputable def f_X5_lawCode (V : dV) (p1 : Int) : dP :=
  if p1 < 315 then (
  ((-1), ())
  ) else (
  if 322 < p1 then (
  ((-1), ())
  ) else (
  dv_b (2000 + p1) fun x1 =>
  dv_b (x1 - 315) fun x2 =>
  (x2, ())
  )
  )

noncomputable def f_X5_seenToken (V : dV) (a0 : Int) : dP :=
  dv_b (V a0 8 0) fun zz1 =>
  if zz1 ≠ (-1) then (
  ((-1), ())
  ) else (
  dv_b (V a0 5 0) fun zz2 =>
  dv_b (V a0 0 (zz2)) fun x4 =>
  (x4, ())
  )

noncomputable def f_X5_fail (V : dV) (a0 : Int) : dR :=
  dv_b (V a0 8 0) fun zz1 =>
  if zz1 ≠ (-1) then (
  (V, 0)
  ) else (
  dv_b (V a0 5 0) fun zz2 =>
  dv_b (V a0 1 (zz2)) fun x4 =>
  dv_b (dv_u V a0 8 0 (x4)) fun V18 =>
  (V18, 0)
  )

noncomputable def f_X5_take (V : dV) (a0 p1 : Int) : dR :=
  dv_b (V a0 8 0) fun zz1 =>
  if zz1 ≠ (-1) then (
  (V, 0)
  ) else (
  dv_b (V a0 5 0) fun zz2 =>
  dv_b (V a0 0 (zz2)) fun x4 =>
  if x4 = p1 then (
  dv_b (V a0 5 0) fun zz3 =>
  dv_b (zz3 + 1) fun x5 =>
  dv_b (dv_u V a0 5 0 (x5)) fun V30 =>
  (V30, 1)
  ) else (
  (V, 0)
  )
  )

noncomputable def f_X5_takeNumber (V : dV) (a0 p1 p2 : Int) : dR :=
  dv_b (V a0 5 0) fun zz1 =>
  dv_b (V a0 0 (zz1)) fun x3 =>
  dv_b (dv_sub (x3) (400)) fun x4 =>
  dv_b (V a0 8 0) fun zz2 =>
  if zz2 ≠ (-1) then (
  (V, (-1))
  ) else (
  if x4 < p1 then (
  (V, (-1))
  ) else (
  if x4 ≤ p2 then (
  dv_b (V a0 5 0) fun zz3 =>
  dv_b (zz3 + 1) fun x6 =>
  dv_b (dv_u V a0 5 0 (x6)) fun V41 =>
  (V41, x4)
  ) else (
  (V, (-1))
  )
  )
  )

noncomputable def f_X5_openBracket (V : dV) (a0 : Int) : dR :=
  dv_b (V a0 7 0) fun zz1 =>
  if zz1 < 8 then (
  dv_b (V a0 7 0) fun zz2 =>
  dv_b (zz2 + 1) fun x1 =>
  dv_b (dv_u V a0 7 0 (x1)) fun V18 =>
  dv_b (V18 a0 5 0) fun zz3 =>
  dv_b (zz3 + 1) fun x5 =>
  dv_b (dv_u V18 a0 5 0 (x5)) fun V28 =>
  (V28, 1)
  ) else (
  (V, 0)
  )

noncomputable def f_X5_readPart_184 (d : Nat) (rc : dV → Int → dR) (V : dV) (a0 j175_2 : Int) : dR :=
  dv_b (V a0 3 0) fun zz6 =>
  dv_b2 (f_X10_add V (zz6) (j175_2)) fun V189 _ =>
  (V189, 0)

noncomputable def f_X5_readPart_175 (d : Nat) (rc : dV → Int → dR) (V : dV) (a0 j175_2 : Int) : dR :=
  if j175_2 ≠ (-1) then (
  f_X5_readPart_184 d rc (V) (a0) (j175_2)
  ) else (
  dv_b2 (f_X5_fail V (a0)) fun V181 _ =>
  f_X5_readPart_184 d rc (V181) (a0) (j175_2)
  )

noncomputable def f_X5_readPart_184x2 (d : Nat) (rc : dV → Int → dR) (V : dV) (a0 j175_2 : Int) : dR :=
  dv_b (V a0 3 0) fun zz8 =>
  dv_b2 (f_X10_add V (zz8) (j175_2)) fun V189 _ =>
  (V189, 0)

noncomputable def f_X5_readPart_175x2 (d : Nat) (rc : dV → Int → dR) (V : dV) (a0 j175_2 : Int) : dR :=
  if j175_2 ≠ (-1) then (
  f_X5_readPart_184x2 d rc (V) (a0) (j175_2)
  ) else (
  dv_b2 (f_X5_fail V (a0)) fun V181 _ =>
  f_X5_readPart_184x2 d rc (V181) (a0) (j175_2)
  )

noncomputable def f_X5_readPart_184x3 (d : Nat) (rc : dV → Int → dR) (V : dV) (a0 j175_2 : Int) : dR :=
  dv_b (V a0 3 0) fun zz11 =>
  dv_b2 (f_X10_add V (zz11) (j175_2)) fun V189 _ =>
  (V189, 0)

noncomputable def f_X5_readPart_175x3 (d : Nat) (rc : dV → Int → dR) (V : dV) (a0 j175_2 : Int) : dR :=
  if j175_2 ≠ (-1) then (
  f_X5_readPart_184x3 d rc (V) (a0) (j175_2)
  ) else (
  dv_b2 (f_X5_fail V (a0)) fun V181 _ =>
  f_X5_readPart_184x3 d rc (V181) (a0) (j175_2)
  )

noncomputable def f_X5_readPart_154 (d : Nat) (rc : dV → Int → dR) (V : dV) (x30 a0 : Int) : dR :=
  dv_b2 (f_X5_takeNumber V (a0) (0) (8)) fun V158 x42 =>
  if x42 ≠ (-1) then (
  dv_b (x30 + x42) fun x46 =>
  f_X5_readPart_175x3 d rc (V158) (a0) (x46)
  ) else (
  f_X5_readPart_175x3 d rc (V158) (a0) ((-1))
  )

noncomputable def f_X5_readPart_184x4 (d : Nat) (rc : dV → Int → dR) (V : dV) (a0 j175_2 : Int) : dR :=
  dv_b (V a0 3 0) fun zz13 =>
  dv_b2 (f_X10_add V (zz13) (j175_2)) fun V189 _ =>
  (V189, 0)

noncomputable def f_X5_readPart_175x4 (d : Nat) (rc : dV → Int → dR) (V : dV) (a0 j175_2 : Int) : dR :=
  if j175_2 ≠ (-1) then (
  f_X5_readPart_184x4 d rc (V) (a0) (j175_2)
  ) else (
  dv_b2 (f_X5_fail V (a0)) fun V181 _ =>
  f_X5_readPart_184x4 d rc (V181) (a0) (j175_2)
  )

noncomputable def f_X5_readPart_154x2 (d : Nat) (rc : dV → Int → dR) (V : dV) (x30 a0 : Int) : dR :=
  dv_b2 (f_X5_takeNumber V (a0) (0) (8)) fun V158 x57 =>
  if x57 ≠ (-1) then (
  dv_b (x30 + x57) fun x61 =>
  f_X5_readPart_175x4 d rc (V158) (a0) (x61)
  ) else (
  f_X5_readPart_175x4 d rc (V158) (a0) ((-1))
  )

noncomputable def f_X5_readPart_184x5 (d : Nat) (rc : dV → Int → dR) (V : dV) (a0 j175_2 : Int) : dR :=
  dv_b (V a0 3 0) fun zz16 =>
  dv_b2 (f_X10_add V (zz16) (j175_2)) fun V189 _ =>
  (V189, 0)

noncomputable def f_X5_readPart_175x5 (d : Nat) (rc : dV → Int → dR) (V : dV) (a0 j175_2 : Int) : dR :=
  if j175_2 ≠ (-1) then (
  f_X5_readPart_184x5 d rc (V) (a0) (j175_2)
  ) else (
  dv_b2 (f_X5_fail V (a0)) fun V181 _ =>
  f_X5_readPart_184x5 d rc (V181) (a0) (j175_2)
  )

noncomputable def f_X5_readPart_154x3 (d : Nat) (rc : dV → Int → dR) (V : dV) (x62 a0 : Int) : dR :=
  dv_b2 (f_X5_takeNumber V (a0) (0) (8)) fun V158 x76 =>
  if x76 ≠ (-1) then (
  dv_b (x62 + x76) fun x79 =>
  f_X5_readPart_175x5 d rc (V158) (a0) (x79)
  ) else (
  f_X5_readPart_175x5 d rc (V158) (a0) ((-1))
  )

noncomputable def f_X5_readPart_184x6 (d : Nat) (rc : dV → Int → dR) (V : dV) (a0 j175_2 : Int) : dR :=
  dv_b (V a0 3 0) fun zz18 =>
  dv_b2 (f_X10_add V (zz18) (j175_2)) fun V189 _ =>
  (V189, 0)

noncomputable def f_X5_readPart_175x6 (d : Nat) (rc : dV → Int → dR) (V : dV) (a0 j175_2 : Int) : dR :=
  if j175_2 ≠ (-1) then (
  f_X5_readPart_184x6 d rc (V) (a0) (j175_2)
  ) else (
  dv_b2 (f_X5_fail V (a0)) fun V181 _ =>
  f_X5_readPart_184x6 d rc (V181) (a0) (j175_2)
  )

noncomputable def f_X5_readPart_154x4 (d : Nat) (rc : dV → Int → dR) (V : dV) (x62 a0 : Int) : dR :=
  dv_b2 (f_X5_takeNumber V (a0) (0) (8)) fun V158 x90 =>
  if x90 ≠ (-1) then (
  dv_b (x62 + x90) fun x93 =>
  f_X5_readPart_175x6 d rc (V158) (a0) (x93)
  ) else (
  f_X5_readPart_175x6 d rc (V158) (a0) ((-1))
  )

noncomputable def f_X5_readPart_B (d : Nat) (rc : dV → Int → dR) (V : dV) (a0 : Int) : dR :=
  dv_b2 (f_X5_seenToken V (a0)) fun x1 _ =>
  if x1 ≠ 91 then (
  dv_b (V a0 6 0) fun zz1 =>
  if zz1 < 50 then (
  dv_b (V a0 6 0) fun zz2 =>
  dv_b (zz2 + 1) fun x3 =>
  dv_b (dv_u V a0 6 0 (x3)) fun V67 =>
  if x1 < 400 then (
  dv_b (V67 a0 4 0) fun zz3 =>
  if zz3 = 0 then (
  dv_b2 (f_X5_lawCode V67 (x1)) fun x8 _ =>
  dv_b (V67 a0 5 0) fun zz4 =>
  if x8 = (-1) then (
  dv_b (zz4 + 0) fun x10 =>
  dv_b (dv_u V67 a0 5 0 (x10)) fun V130 =>
  dv_b (V130 a0 4 0) fun zz5 =>
  if zz5 = 0 then (
  f_X5_readPart_175 d rc (V130) (a0) (x8)
  ) else (
  dv_z
  )
  ) else (
  if 400 ≤ x1 then (
  dv_z
  ) else (
  dv_b (zz4 + 1) fun x20 =>
  dv_b (dv_u V67 a0 5 0 (x20)) fun V130 =>
  dv_b (V130 a0 4 0) fun zz7 =>
  if zz7 = 0 then (
  f_X5_readPart_175x2 d rc (V130) (a0) (x8)
  ) else (
  dv_z
  )
  )
  )
  ) else (
  dv_b2 (f_X5_orderCode V67 (x1)) fun x30 _ =>
  dv_b (V67 a0 5 0) fun zz9 =>
  if x30 = (-1) then (
  dv_b (zz9 + 0) fun x32 =>
  dv_b (dv_u V67 a0 5 0 (x32)) fun V130 =>
  dv_b (V130 a0 4 0) fun zz10 =>
  if zz10 = 0 then (
  dv_z
  ) else (
  if x1 = 318 then (
  f_X5_readPart_154 d rc (V130) (x30) (a0)
  ) else (
  if x1 ≠ 327 then (
  f_X5_readPart_175x3 d rc (V130) (a0) (x30)
  ) else (
  f_X5_readPart_154 d rc (V130) (x30) (a0)
  )
  )
  )
  ) else (
  if 400 ≤ x1 then (
  dv_z
  ) else (
  dv_b (zz9 + 1) fun x47 =>
  dv_b (dv_u V67 a0 5 0 (x47)) fun V130 =>
  dv_b (V130 a0 4 0) fun zz12 =>
  if zz12 = 0 then (
  dv_z
  ) else (
  if x1 = 318 then (
  f_X5_readPart_154x2 d rc (V130) (x30) (a0)
  ) else (
  if x1 ≠ 327 then (
  f_X5_readPart_175x4 d rc (V130) (a0) (x30)
  ) else (
  f_X5_readPart_154x2 d rc (V130) (x30) (a0)
  )
  )
  )
  )
  )
  )
  ) else (
  dv_b2 (f_X5_takeNumber V67 (a0) (0) (1000)) fun V82 x62 =>
  dv_b (V82 a0 5 0) fun zz14 =>
  if x62 = (-1) then (
  dv_b (zz14 + 0) fun x66 =>
  dv_b (dv_u V82 a0 5 0 (x66)) fun V130 =>
  dv_b (V130 a0 4 0) fun zz15 =>
  if zz15 = 0 then (
  f_X5_readPart_175x5 d rc (V130) (a0) (x62)
  ) else (
  if x1 = 318 then (
  dv_z
  ) else (
  if x1 ≠ 327 then (
  f_X5_readPart_175x5 d rc (V130) (a0) (x62)
  ) else (
  dv_z
  )
  )
  )
  ) else (
  if 400 ≤ x1 then (
  dv_b (zz14 + 0) fun x80 =>
  dv_b (dv_u V82 a0 5 0 (x80)) fun V130 =>
  dv_b (V130 a0 4 0) fun zz17 =>
  if zz17 = 0 then (
  f_X5_readPart_175x6 d rc (V130) (a0) (x62)
  ) else (
  if x1 = 318 then (
  dv_z
  ) else (
  if x1 ≠ 327 then (
  f_X5_readPart_175x6 d rc (V130) (a0) (x62)
  ) else (
  dv_z
  )
  )
  )
  ) else (
  dv_z
  )
  )
  )
  ) else (
  dv_b2 (f_X5_fail V (a0)) fun V56 _ =>
  (V56, 0)
  )
  ) else (
  dv_b2 (f_X5_openBracket V (a0)) fun V12 x98 =>
  if x98 = 0 then (
  dv_b2 (f_X5_take V12 (a0) (93)) fun V35 x100 =>
  if x100 ≠ 0 then (
  (V35, 0)
  ) else (
  dv_b2 (f_X5_fail V35 (a0)) fun V42 _ =>
  (V42, 0)
  )
  ) else (
  dv_b2 (rc V12 (a0)) fun V19 _ =>
  dv_b (V19 a0 7 0) fun zz19 =>
  dv_b (zz19 - 1) fun x106 =>
  dv_b (dv_u V19 a0 7 0 (x106)) fun V29 =>
  dv_b2 (f_X5_take V29 (a0) (93)) fun V35 x109 =>
  if x109 ≠ 0 then (
  (V35, 0)
  ) else (
  dv_b2 (f_X5_fail V35 (a0)) fun V42 _ =>
  (V42, 0)
  )
  )
  )

noncomputable def f_X5_readSum_90 (d : Nat) (rc : dV → Int → dR) (V : dV) (a0 j8_1 : Int) : Sum (dV × Int × Int × Int) (dR) :=
  dv_b (V a0 3 0) fun zz1 =>
  dv_b2 (f_X10_add V (zz1) (j8_1)) fun V95 _ =>
  Sum.inr ((V95, 0))

noncomputable def f_X5_readSum_84 (d : Nat) (rc : dV → Int → dR) (V : dV) (a0 j8_2 j84_1 : Int) : Sum (dV × Int × Int × Int) (dR) :=
  dv_b (j8_2 + 1) fun x13 =>
  Sum.inl (V, a0, j84_1, x13)

noncomputable def f_X5_readSum_8c (d : Nat) (rc : dV → Int → dR) (V : dV) (a0 j8_1 j8_2 : Int) : Sum (dV × Int × Int × Int) (dR) :=
  if 400 ≤ j8_2 then (
  f_X5_readSum_90 d rc (V) (a0) (j8_1)
  ) else (
  dv_b2 (f_X5_seenToken V (a0)) fun x5 _ =>
  dv_b2 (f_X5_codeOf V (x5)) fun x6 _ =>
  if x6 ≠ (-1) then (
  dv_b (V a0 5 0) fun zz2 =>
  dv_b (zz2 + 1) fun x8 =>
  dv_b (dv_u V a0 5 0 (x8)) fun V38 =>
  if x6 = 3000 then (
  dv_b (V38 a0 3 0) fun zz3 =>
  dv_b2 (f_X10_add V38 (zz3) (j8_1)) fun V60 _ =>
  dv_b2 (rc V60 (a0)) fun V66 _ =>
  f_X5_readSum_84 d rc (V66) (a0) (j8_2) (x6)
  ) else (
  if x6 ≠ 3001 then (
  dv_b2 (rc V38 (a0)) fun V73 _ =>
  dv_b (V73 a0 3 0) fun zz4 =>
  dv_b2 (f_X10_add V73 (zz4) (x6)) fun V81 _ =>
  f_X5_readSum_84 d rc (V81) (a0) (j8_2) (j8_1)
  ) else (
  dv_b (V38 a0 3 0) fun zz5 =>
  dv_b2 (f_X10_add V38 (zz5) (j8_1)) fun V60 _ =>
  dv_b2 (rc V60 (a0)) fun V66 _ =>
  f_X5_readSum_84 d rc (V66) (a0) (j8_2) (x6)
  )
  )
  ) else (
  f_X5_readSum_90 d rc (V) (a0) (j8_1)
  )
  )
noncomputable def f_X5_readSum_8b (d : Nat) (rc : dV → Int → dR) (s : (dV × Int × Int × Int)) : Sum (dV × Int × Int × Int) (dR) := f_X5_readSum_8c d rc (s.1) (s.2.1) (s.2.2.1) (s.2.2.2)

theorem f_X5_readSum_8e (d : Nat) (rc : dV → Int → dR) (V : dV) (a0 j8_1 j8_2 : Int) : f_X5_readSum_8b d rc (V, a0, j8_1, j8_2) = f_X5_readSum_8c d rc V a0 j8_1 j8_2 := rfl

noncomputable def f_X5_readSum_B (d : Nat) (rc : dV → Int → dR) (V : dV) (a0 : Int) : dR :=
  dv_b2 (rc V (a0)) fun V1 _ =>
  dv_lp (f_X5_readSum_8b d rc) (V1, a0, (-1), 0)

noncomputable def f_X5_readSum : Nat → dV → Int → dR
  | 0 => (f_X5_readSum_B 0 (f_X5_readPart_B 0 (fun _ _ => dv_z)))
  | d + 1 => (f_X5_readSum_B (d + 1) (f_X5_readPart_B (d + 1) (f_X5_readSum d)))

noncomputable def f_X5_readPart (d : Nat) : dV → Int → dR := f_X5_readPart_B d (dv_pre (fun _ _ => dv_z) f_X5_readSum d)

theorem f_X5_readPart_d (d : Nat) (V : dV) (a0 : Int) : f_X5_readPart d V a0 = f_X5_readPart_B d (dv_pre (fun _ _ => dv_z) f_X5_readSum d) V a0 := rfl

theorem f_X5_readSum_d (d : Nat) (V : dV) (a0 : Int) : f_X5_readSum d V a0 = f_X5_readSum_B d (f_X5_readPart d) V a0 := by cases d <;> rfl

noncomputable def f_X5_readPlain_156 (d : Nat) (rc : dV → Int → dR) (V : dV) (a0 j4_1 : Int) : Sum (dV × Int × Int × Int) (dR) :=
  if j4_1 = 0 then (
  Sum.inr ((V, 0))
  ) else (
  dv_b (V a0 3 0) fun zz1 =>
  dv_b2 (f_X10_add V (zz1) (3008)) fun V167 _ =>
  Sum.inr ((V167, 0))
  )

noncomputable def f_X5_readPlain_133 (d : Nat) (rc : dV → Int → dR) (V : dV) (a0 j4_1 s133_0 : Int) : Sum (dV × Int × Int × Int) (dR) :=
  if s133_0 ≠ (-1) then (
  dv_b2 (f_X5_readSum 8 V (a0)) fun V145 _ =>
  dv_b (V145 a0 3 0) fun zz2 =>
  dv_b2 (f_X10_add V145 (zz2) (s133_0)) fun V153 _ =>
  f_X5_readPlain_156 d rc (V153) (a0) (j4_1)
  ) else (
  dv_b2 (f_X5_fail V (a0)) fun V140 _ =>
  Sum.inr ((V140, 0))
  )

noncomputable def f_X5_readPlain_37 (d : Nat) (rc : dV → Int → dR) (V : dV) (a0 j4_1 : Int) : Sum (dV × Int × Int × Int) (dR) :=
  dv_b2 (f_X5_seenToken V (a0)) fun x3 _ =>
  if x3 ≠ 40 then (
  dv_b2 (f_X5_readSum 8 V (a0)) fun V84 _ =>
  dv_b2 (f_X5_take V84 (a0) (60)) fun V90 x8 =>
  if x8 = 0 then (
  dv_b2 (f_X5_take V90 (a0) (62)) fun V105 x17 =>
  if x17 = 0 then (
  dv_b2 (f_X5_take V105 (a0) (61)) fun V120 x20 =>
  if x20 = 0 then (
  f_X5_readPlain_133 d rc (V120) (a0) (j4_1) ((-1))
  ) else (
  f_X5_readPlain_133 d rc (V120) (a0) (j4_1) (3007)
  )
  ) else (
  f_X5_readPlain_133 d rc (V105) (a0) (j4_1) (3006)
  )
  ) else (
  f_X5_readPlain_133 d rc (V90) (a0) (j4_1) (3005)
  )
  ) else (
  dv_b2 (f_X5_openBracket V (a0)) fun V47 x23 =>
  if x23 = 0 then (
  dv_b2 (f_X5_take V47 (a0) (41)) fun V70 x25 =>
  if x25 ≠ 0 then (
  f_X5_readPlain_156 d rc (V70) (a0) (j4_1)
  ) else (
  dv_b2 (f_X5_fail V70 (a0)) fun V77 _ =>
  f_X5_readPlain_156 d rc (V77) (a0) (j4_1)
  )
  ) else (
  dv_b2 (rc V47 (a0)) fun V54 _ =>
  dv_b (V54 a0 7 0) fun zz3 =>
  dv_b (zz3 - 1) fun x31 =>
  dv_b (dv_u V54 a0 7 0 (x31)) fun V64 =>
  dv_b2 (f_X5_take V64 (a0) (41)) fun V70 x34 =>
  if x34 ≠ 0 then (
  f_X5_readPlain_156 d rc (V70) (a0) (j4_1)
  ) else (
  dv_b2 (f_X5_fail V70 (a0)) fun V77 _ =>
  f_X5_readPlain_156 d rc (V77) (a0) (j4_1)
  )
  )
  )

noncomputable def f_X5_readPlain_30 (d : Nat) (rc : dV → Int → dR) (V : dV) (a0 j4_2 s30_0 : Int) : Sum (dV × Int × Int × Int) (dR) :=
  dv_b (j4_2 + 1) fun x42 =>
  Sum.inl (V, a0, s30_0, x42)

noncomputable def f_X5_readPlain_4c (d : Nat) (rc : dV → Int → dR) (V : dV) (a0 j4_1 j4_2 : Int) : Sum (dV × Int × Int × Int) (dR) :=
  if 400 ≤ j4_2 then (
  f_X5_readPlain_37 d rc (V) (a0) (j4_1)
  ) else (
  dv_b2 (f_X5_take V (a0) (314)) fun V15 x39 =>
  if x39 = 0 then (
  f_X5_readPlain_37 d rc (V15) (a0) (j4_1)
  ) else (
  if j4_1 ≠ 0 then (
  f_X5_readPlain_30 d rc (V15) (a0) (j4_2) (0)
  ) else (
  f_X5_readPlain_30 d rc (V15) (a0) (j4_2) (1)
  )
  )
  )
noncomputable def f_X5_readPlain_4b (d : Nat) (rc : dV → Int → dR) (s : (dV × Int × Int × Int)) : Sum (dV × Int × Int × Int) (dR) := f_X5_readPlain_4c d rc (s.1) (s.2.1) (s.2.2.1) (s.2.2.2)

theorem f_X5_readPlain_4e (d : Nat) (rc : dV → Int → dR) (V : dV) (a0 j4_1 j4_2 : Int) : f_X5_readPlain_4b d rc (V, a0, j4_1, j4_2) = f_X5_readPlain_4c d rc V a0 j4_1 j4_2 := rfl

noncomputable def f_X5_readPlain_B (d : Nat) (rc : dV → Int → dR) (V : dV) (a0 : Int) : dR :=
  dv_lp (f_X5_readPlain_4b d rc) (V, a0, 0, 0)

noncomputable def f_X5_readTest_128 (d : Nat) (rc : dV → Int → dR) (V : dV) (a0 j8_1 : Int) : Sum (dV × Int × Int × Int) (dR) :=
  dv_b (V a0 3 0) fun zz1 =>
  dv_b (V a0 3 0) fun zz2 =>
  dv_b (V zz2 2 0) fun zz3 =>
  dv_b2 (f_X10_setCode V (zz1) (j8_1) (zz3)) fun V140 _ =>
  Sum.inr ((V140, 0))

noncomputable def f_X5_readTest_122 (d : Nat) (rc : dV → Int → dR) (V : dV) (a0 j8_2 j122_1 : Int) : Sum (dV × Int × Int × Int) (dR) :=
  dv_b (j8_2 + 1) fun x11 =>
  Sum.inl (V, a0, j122_1, x11)

noncomputable def f_X5_readTest_122x2 (d : Nat) (rc : dV → Int → dR) (V : dV) (a0 j8_2 j122_1 : Int) : Sum (dV × Int × Int × Int) (dR) :=
  dv_b (j8_2 + 1) fun x39 =>
  Sum.inl (V, a0, j122_1, x39)

noncomputable def f_X5_readTest_8c (d : Nat) (rc : dV → Int → dR) (V : dV) (a0 j8_1 j8_2 : Int) : Sum (dV × Int × Int × Int) (dR) :=
  if 400 ≤ j8_2 then (
  f_X5_readTest_128 d rc (V) (a0) (j8_1)
  ) else (
  dv_b2 (f_X5_seenToken V (a0)) fun x6 _ =>
  if x6 = 312 then (
  dv_b2 (f_X5_take V (a0) (312)) fun V39 x7 =>
  if x7 = 0 then (
  dv_b (V39 a0 5 0) fun zz4 =>
  dv_b (zz4 + 1) fun x13 =>
  dv_b (dv_u V39 a0 5 0 (x13)) fun V87 =>
  dv_b (V87 a0 3 0) fun zz5 =>
  dv_b2 (f_X10_addJump V87 (zz5) (3009)) fun V97 x17 =>
  dv_b2 (rc V97 (a0)) fun V103 _ =>
  dv_b (V103 a0 3 0) fun zz6 =>
  dv_b (V103 a0 3 0) fun zz7 =>
  dv_b (V103 zz7 2 0) fun zz8 =>
  dv_b2 (f_X10_setCode V103 (zz6) (x17) (zz8)) fun V119 _ =>
  f_X5_readTest_122 d rc (V119) (a0) (j8_2) (j8_1)
  ) else (
  dv_b (V39 a0 3 0) fun zz9 =>
  dv_b (V39 a0 3 0) fun zz10 =>
  dv_b (V39 zz10 2 0) fun zz11 =>
  dv_b2 (f_X10_setCode V39 (zz9) (j8_1) (zz11)) fun V59 _ =>
  dv_b (V59 a0 3 0) fun zz12 =>
  dv_b2 (f_X10_addJump V59 (zz12) (3010)) fun V69 x30 =>
  dv_b2 (rc V69 (a0)) fun V74 _ =>
  f_X5_readTest_122 d rc (V74) (a0) (j8_2) (x30)
  )
  ) else (
  dv_b2 (f_X5_seenToken V (a0)) fun x34 _ =>
  if x34 ≠ 313 then (
  f_X5_readTest_128 d rc (V) (a0) (j8_1)
  ) else (
  dv_b2 (f_X5_take V (a0) (312)) fun V39 x35 =>
  if x35 = 0 then (
  dv_b (V39 a0 5 0) fun zz13 =>
  dv_b (zz13 + 1) fun x41 =>
  dv_b (dv_u V39 a0 5 0 (x41)) fun V87 =>
  dv_b (V87 a0 3 0) fun zz14 =>
  dv_b2 (f_X10_addJump V87 (zz14) (3009)) fun V97 x45 =>
  dv_b2 (rc V97 (a0)) fun V103 _ =>
  dv_b (V103 a0 3 0) fun zz15 =>
  dv_b (V103 a0 3 0) fun zz16 =>
  dv_b (V103 zz16 2 0) fun zz17 =>
  dv_b2 (f_X10_setCode V103 (zz15) (x45) (zz17)) fun V119 _ =>
  f_X5_readTest_122x2 d rc (V119) (a0) (j8_2) (j8_1)
  ) else (
  dv_b (V39 a0 3 0) fun zz18 =>
  dv_b (V39 a0 3 0) fun zz19 =>
  dv_b (V39 zz19 2 0) fun zz20 =>
  dv_b2 (f_X10_setCode V39 (zz18) (j8_1) (zz20)) fun V59 _ =>
  dv_b (V59 a0 3 0) fun zz21 =>
  dv_b2 (f_X10_addJump V59 (zz21) (3010)) fun V69 x58 =>
  dv_b2 (rc V69 (a0)) fun V74 _ =>
  f_X5_readTest_122x2 d rc (V74) (a0) (j8_2) (x58)
  )
  )
  )
  )
noncomputable def f_X5_readTest_8b (d : Nat) (rc : dV → Int → dR) (s : (dV × Int × Int × Int)) : Sum (dV × Int × Int × Int) (dR) := f_X5_readTest_8c d rc (s.1) (s.2.1) (s.2.2.1) (s.2.2.2)

theorem f_X5_readTest_8e (d : Nat) (rc : dV → Int → dR) (V : dV) (a0 j8_1 j8_2 : Int) : f_X5_readTest_8b d rc (V, a0, j8_1, j8_2) = f_X5_readTest_8c d rc V a0 j8_1 j8_2 := rfl

noncomputable def f_X5_readTest_B (d : Nat) (rc : dV → Int → dR) (V : dV) (a0 : Int) : dR :=
  dv_b2 (rc V (a0)) fun V1 _ =>
  dv_lp (f_X5_readTest_8b d rc) (V1, a0, (-1), 0)

noncomputable def f_X5_readTest : Nat → dV → Int → dR
  | 0 => (f_X5_readTest_B 0 (f_X5_readPlain_B 0 (fun _ _ => dv_z)))
  | d + 1 => (f_X5_readTest_B (d + 1) (f_X5_readPlain_B (d + 1) (f_X5_readTest d)))

noncomputable def f_X5_readPlain (d : Nat) : dV → Int → dR := f_X5_readPlain_B d (dv_pre (fun _ _ => dv_z) f_X5_readTest d)

theorem f_X5_readPlain_d (d : Nat) (V : dV) (a0 : Int) : f_X5_readPlain d V a0 = f_X5_readPlain_B d (dv_pre (fun _ _ => dv_z) f_X5_readTest d) V a0 := rfl

theorem f_X5_readTest_d (d : Nat) (V : dV) (a0 : Int) : f_X5_readTest d V a0 = f_X5_readTest_B d (f_X5_readPlain d) V a0 := by cases d <;> rfl


noncomputable def f_X5_is_15c (w1 : List Int32) (V : dV) (a0 p2 p3 j15_4 : Int) : Sum (dV × Int × Int × Int × Int) (dP) :=
  if p3 ≤ j15_4 then (
  Sum.inr ((1, ()))
  ) else (
  dv_b (V a0 2 0) fun zz1 =>
  dv_b (V zz1 0 (j15_4)) fun x4 =>
  dv_b (j15_4 - p2) fun x5 =>
  dv_b (dv_ch (w1.getD (x5).toNat 0)) fun x6 =>
  if x4 = x6 then (
  dv_b (j15_4 + 1) fun x7 =>
  Sum.inl (V, a0, p2, p3, x7)
  ) else (
  Sum.inr ((0, ()))
  )
  )
noncomputable def f_X5_is_15b (w1 : List Int32) (s : (dV × Int × Int × Int × Int)) : Sum (dV × Int × Int × Int × Int) (dP) := f_X5_is_15c w1 (s.1) (s.2.1) (s.2.2.1) (s.2.2.2.1) (s.2.2.2.2)

theorem f_X5_is_15e (w1 : List Int32) (V : dV) (a0 p2 p3 j15_4 : Int) : f_X5_is_15b w1 (V, a0, p2, p3, j15_4) = f_X5_is_15c w1 V a0 p2 p3 j15_4 := rfl

noncomputable def f_X5_is (w1 : List Int32) (V : dV) (a0 p2 p3 : Int) : dP :=
  dv_b (p3 - p2) fun x1 =>
  dv_b ((w1.length : Int)) fun x2 =>
  if x1 = x2 then (
  dv_lp (f_X5_is_15b w1) (V, a0, p2, p3, p2)
  ) else (
  (0, ())
  )

noncomputable def f_X5_wordFrom (V : dV) (a0 p1 p2 : Int) : dP :=
  dv_b2 (f_X5_is ([99, 111, 115, 116, 115] : List Int32) V (a0) (p1) (p2)) fun x1 _ =>
  if x1 = 0 then (
  dv_b2 (f_X5_is ([119, 101, 97, 114, 115] : List Int32) V (a0) (p1) (p2)) fun x2 _ =>
  if x2 = 0 then (
  dv_b2 (f_X5_is ([98, 97, 114, 115] : List Int32) V (a0) (p1) (p2)) fun x3 _ =>
  if x3 = 0 then (
  dv_b2 (f_X5_is ([108, 97, 121] : List Int32) V (a0) (p1) (p2)) fun x4 _ =>
  if x4 = 0 then (
  dv_b2 (f_X5_is ([114, 111, 108, 108] : List Int32) V (a0) (p1) (p2)) fun x5 _ =>
  if x5 = 0 then (
  dv_b2 (f_X5_is ([109, 105, 114, 114, 111, 114] : List Int32) V (a0) (p1) (p2)) fun x6 _ =>
  if x6 = 0 then (
  dv_b2 (f_X5_is ([112, 97, 115, 115] : List Int32) V (a0) (p1) (p2)) fun x7 _ =>
  if x7 = 0 then (
  dv_b2 (f_X5_is ([105, 102] : List Int32) V (a0) (p1) (p2)) fun x8 _ =>
  if x8 = 0 then (
  dv_b2 (f_X5_is ([116, 105, 109, 101, 115] : List Int32) V (a0) (p1) (p2)) fun x9 _ =>
  if x9 = 0 then (
  dv_b2 (f_X5_is ([97, 116] : List Int32) V (a0) (p1) (p2)) fun x10 _ =>
  if x10 = 0 then (
  dv_b2 (f_X5_is ([98, 121] : List Int32) V (a0) (p1) (p2)) fun x11 _ =>
  if x11 = 0 then (
  dv_b2 (f_X5_is ([111, 114] : List Int32) V (a0) (p1) (p2)) fun x12 _ =>
  if x12 = 0 then (
  dv_b2 (f_X5_is ([97, 110, 100] : List Int32) V (a0) (p1) (p2)) fun x13 _ =>
  if x13 = 0 then (
  dv_b2 (f_X5_is ([110, 111, 116] : List Int32) V (a0) (p1) (p2)) fun x14 _ =>
  if x14 = 0 then (
  dv_b2 (f_X5_is ([99, 97, 114, 112, 101, 116] : List Int32) V (a0) (p1) (p2)) fun x15 _ =>
  if x15 = 0 then (
  dv_b2 (f_X5_is ([115, 105, 100, 101] : List Int32) V (a0) (p1) (p2)) fun x16 _ =>
  if x16 = 0 then (
  dv_b2 (f_X5_is ([107, 105, 110, 100] : List Int32) V (a0) (p1) (p2)) fun x17 _ =>
  if x17 = 0 then (
  dv_b2 (f_X5_is ([112, 105, 108, 101] : List Int32) V (a0) (p1) (p2)) fun x18 _ =>
  if x18 = 0 then (
  dv_b2 (f_X5_is ([120] : List Int32) V (a0) (p1) (p2)) fun x19 _ =>
  if x19 = 0 then (
  dv_b2 (f_X5_is ([121] : List Int32) V (a0) (p1) (p2)) fun x20 _ =>
  if x20 = 0 then (
  dv_b2 (f_X5_is ([121, 101, 97, 114] : List Int32) V (a0) (p1) (p2)) fun x21 _ =>
  if x21 = 0 then (
  dv_b2 (f_X5_is ([109, 111, 111, 100] : List Int32) V (a0) (p1) (p2)) fun x22 _ =>
  if x22 = 0 then (
  dv_b2 (f_X5_is ([100, 111, 110, 101] : List Int32) V (a0) (p1) (p2)) fun x23 _ =>
  if x23 = 0 then (
  dv_b2 (f_X5_is ([108, 97, 116, 101, 115, 116] : List Int32) V (a0) (p1) (p2)) fun x24 _ =>
  if x24 = 0 then (
  dv_b2 (f_X5_is ([98, 97, 114, 101] : List Int32) V (a0) (p1) (p2)) fun x25 _ =>
  if x25 = 0 then (
  dv_b2 (f_X5_is ([112, 97, 105, 100] : List Int32) V (a0) (p1) (p2)) fun x26 _ =>
  if x26 = 0 then (
  dv_b2 (f_X5_is ([108, 97, 105, 100] : List Int32) V (a0) (p1) (p2)) fun x27 _ =>
  if x27 = 0 then (
  (300, ())
  ) else (
  (327, ())
  )
  ) else (
  (326, ())
  )
  ) else (
  (325, ())
  )
  ) else (
  (324, ())
  )
  ) else (
  (323, ())
  )
  ) else (
  (322, ())
  )
  ) else (
  (321, ())
  )
  ) else (
  (320, ())
  )
  ) else (
  (319, ())
  )
  ) else (
  (318, ())
  )
  ) else (
  (317, ())
  )
  ) else (
  (316, ())
  )
  ) else (
  (315, ())
  )
  ) else (
  (314, ())
  )
  ) else (
  (313, ())
  )
  ) else (
  (312, ())
  )
  ) else (
  (311, ())
  )
  ) else (
  (310, ())
  )
  ) else (
  (309, ())
  )
  ) else (
  (308, ())
  )
  ) else (
  (307, ())
  )
  ) else (
  (306, ())
  )
  ) else (
  (305, ())
  )
  ) else (
  (304, ())
  )
  ) else (
  (303, ())
  )
  ) else (
  (302, ())
  )
  ) else (
  (301, ())
  )

noncomputable def f_X5_scan_142 (V : dV) (a0 j6_1 : Int) : Sum (dV × Int × Int × Int × Int) (dR) :=
  dv_b (dv_u V a0 0 (j6_1) ((-1))) fun V148 =>
  dv_b (V148 a0 2 0) fun zz1 =>
  dv_b (V148 zz1 1 0) fun zz2 =>
  dv_b (dv_u V148 a0 1 (j6_1) (zz2)) fun V161 =>
  Sum.inr ((V161, 0))

noncomputable def f_X5_scan_133 (V : dV) (a0 j6_3 j133_1 j133_5 : Int) : Sum (dV × Int × Int × Int × Int) (dR) :=
  dv_b (j6_3 + 1) fun x14 =>
  Sum.inl (V, a0, j133_1, j133_5, x14)

noncomputable def f_X5_scan_130 (V : dV) (a0 j6_1 j6_3 j130_5 : Int) : Sum (dV × Int × Int × Int × Int) (dR) :=
  dv_b (j6_1 + 1) fun x25 =>
  f_X5_scan_133 (V) (a0) (j6_3) (x25) (j130_5)

noncomputable def f_X5_scan_6c (V : dV) (a0 j6_1 j6_2 j6_3 : Int) : Sum (dV × Int × Int × Int × Int) (dR) :=
  if 400 ≤ j6_3 then (
  f_X5_scan_142 (V) (a0) (j6_1)
  ) else (
  dv_b (V a0 2 0) fun zz3 =>
  dv_b (V zz3 1 0) fun zz4 =>
  if zz4 ≤ j6_2 then (
  f_X5_scan_142 (V) (a0) (j6_1)
  ) else (
  dv_b (V a0 2 0) fun zz5 =>
  dv_b (V zz5 0 (j6_2)) fun x9 =>
  dv_b (j6_2 + 1) fun x10 =>
  if x9 = 32 then (
  f_X5_scan_133 (V) (a0) (j6_3) (j6_1) (x10)
  ) else (
  dv_b (dv_u V a0 1 (j6_1) (j6_2)) fun V53 =>
  dv_b2 (f_X5_isLetter V53 (x9)) fun x20 _ =>
  if x20 = 0 then (
  dv_b2 (f_X5_isDigit V53 (x9)) fun x26 _ =>
  if x26 = 0 then (
  dv_b (dv_u V53 a0 0 (j6_1) (x9)) fun V129 =>
  f_X5_scan_130 (V129) (a0) (j6_1) (j6_3) (x10)
  ) else (
  dv_b2 (f_X5_endOfDigits V53 (a0) (x10)) fun x33 _ =>
  dv_b2 (f_X5_valueFrom V53 (a0) (j6_2) (x33)) fun x35 _ =>
  dv_b (dv_add (400) (x35)) fun x36 =>
  dv_b (dv_u V53 a0 0 (j6_1) (x36)) fun V118 =>
  f_X5_scan_130 (V118) (a0) (j6_1) (j6_3) (x33)
  )
  ) else (
  dv_b2 (f_X5_endOfLetters V53 (a0) (x10)) fun x42 _ =>
  dv_b2 (f_X5_wordFrom V53 (a0) (j6_2) (x42)) fun x44 _ =>
  dv_b (dv_u V53 a0 0 (j6_1) (x44)) fun V82 =>
  f_X5_scan_130 (V82) (a0) (j6_1) (j6_3) (x42)
  )
  )
  )
  )
noncomputable def f_X5_scan_6b (s : (dV × Int × Int × Int × Int)) : Sum (dV × Int × Int × Int × Int) (dR) := f_X5_scan_6c (s.1) (s.2.1) (s.2.2.1) (s.2.2.2.1) (s.2.2.2.2)

theorem f_X5_scan_6e (V : dV) (a0 j6_1 j6_2 j6_3 : Int) : f_X5_scan_6b (V, a0, j6_1, j6_2, j6_3) = f_X5_scan_6c V a0 j6_1 j6_2 j6_3 := rfl

noncomputable def f_X5_scan (V : dV) (a0 : Int) : dR :=
  dv_lp (f_X5_scan_6b) (V, a0, 0, 0, 0)

noncomputable def f_X5_readSums_65 (V : dV) (a0 p1 j17_2 : Int) : Sum (dV × Int × Int × Int) (dR) :=
  dv_b (V a0 3 0) fun zz4 =>
  dv_b (3 + j17_2) fun x8 =>
  dv_b (V a0 3 0) fun zz5 =>
  dv_b (V zz5 2 0) fun zz6 =>
  dv_b2 (f_X10_setMark V (zz4) (x8) (zz6)) fun V79 _ =>
  dv_b (j17_2 + 1) fun x13 =>
  Sum.inl (V79, a0, p1, x13)

noncomputable def f_X5_readSums_56 (V : dV) (a0 p1 j17_2 : Int) : Sum (dV × Int × Int × Int) (dR) :=
  if p1 ≤ j17_2 then (
  f_X5_readSums_65 (V) (a0) (p1) (j17_2)
  ) else (
  dv_b2 (f_X5_readSum 8 V (a0)) fun V62 _ =>
  f_X5_readSums_65 (V62) (a0) (p1) (j17_2)
  )

noncomputable def f_X5_readSums_46 (V : dV) (a0 p1 j17_2 s46_1 : Int) : Sum (dV × Int × Int × Int) (dR) :=
  dv_b2 (f_X5_take V (a0) (s46_1)) fun V46 x15 =>
  if x15 ≠ 0 then (
  f_X5_readSums_56 (V46) (a0) (p1) (j17_2)
  ) else (
  dv_b2 (f_X5_fail V46 (a0)) fun V53 _ =>
  f_X5_readSums_56 (V53) (a0) (p1) (j17_2)
  )

noncomputable def f_X5_readSums_17c (V : dV) (a0 p1 j17_2 : Int) : Sum (dV × Int × Int × Int) (dR) :=
  if 3 ≤ j17_2 then (
  Sum.inr ((V, 0))
  ) else (
  if j17_2 ≤ 0 then (
  f_X5_readSums_56 (V) (a0) (p1) (j17_2)
  ) else (
  if p1 ≤ j17_2 then (
  f_X5_readSums_56 (V) (a0) (p1) (j17_2)
  ) else (
  if j17_2 ≠ 1 then (
  f_X5_readSums_46 (V) (a0) (p1) (j17_2) (311)
  ) else (
  f_X5_readSums_46 (V) (a0) (p1) (j17_2) (310)
  )
  )
  )
  )
noncomputable def f_X5_readSums_17b (s : (dV × Int × Int × Int)) : Sum (dV × Int × Int × Int) (dR) := f_X5_readSums_17c (s.1) (s.2.1) (s.2.2.1) (s.2.2.2)

theorem f_X5_readSums_17e (V : dV) (a0 p1 j17_2 : Int) : f_X5_readSums_17b (V, a0, p1, j17_2) = f_X5_readSums_17c V a0 p1 j17_2 := rfl

noncomputable def f_X5_readSums (V : dV) (a0 p1 : Int) : dR :=
  dv_b (V a0 3 0) fun zz1 =>
  dv_b (V a0 3 0) fun zz2 =>
  dv_b (V zz2 2 0) fun zz3 =>
  dv_b2 (f_X10_setMark V (zz1) (2) (zz3)) fun V12 _ =>
  dv_lp (f_X5_readSums_17b) (V12, a0, p1, 0)

noncomputable def f_X5_readClause_47 (V : dV) (a0 : Int) : dR :=
  dv_b2 (f_X5_fail V (a0)) fun V48 _ =>
  (V48, 0)

noncomputable def f_X5_readClause_185 (V : dV) (a0 : Int) : dR :=
  dv_b (V a0 3 0) fun zz11 =>
  dv_b (V a0 3 0) fun zz12 =>
  dv_b (V zz12 2 0) fun zz13 =>
  dv_b2 (f_X10_setMark V (zz11) (7) (zz13)) fun V198 _ =>
  (V198, 0)

noncomputable def f_X5_readClause_155 (V : dV) (a0 : Int) : dR :=
  dv_b (V a0 3 0) fun zz8 =>
  dv_b (V a0 3 0) fun zz9 =>
  dv_b (V zz9 2 0) fun zz10 =>
  dv_b2 (f_X10_setMark V (zz8) (6) (zz10)) fun V168 _ =>
  dv_b2 (f_X5_take V168 (a0) (308)) fun V175 x24 =>
  if x24 = 0 then (
  f_X5_readClause_185 (V175) (a0)
  ) else (
  dv_b2 (f_X5_readTest 8 V175 (a0)) fun V182 _ =>
  f_X5_readClause_185 (V182) (a0)
  )

noncomputable def f_X5_readClause_109 (V : dV) (a0 s109_1 : Int) : dR :=
  dv_b2 (f_X5_readSums V (a0) (s109_1)) fun V109 _ =>
  dv_b (V109 a0 4 0) fun zz7 =>
  if zz7 = 0 then (
  f_X5_readClause_155 (V109) (a0)
  ) else (
  dv_b2 (f_X5_take V109 (a0) (309)) fun V123 x33 =>
  if x33 = 0 then (
  f_X5_readClause_155 (V123) (a0)
  ) else (
  dv_b2 (f_X5_takeNumber V123 (a0) (1) (20)) fun V133 x37 =>
  dv_b (V133 a0 3 0) fun zz14 =>
  dv_b2 (f_X10_setMark V133 (zz14) (1) (x37)) fun V143 _ =>
  if x37 ≠ (-1) then (
  f_X5_readClause_155 (V143) (a0)
  ) else (
  dv_b2 (f_X5_fail V143 (a0)) fun V152 _ =>
  f_X5_readClause_155 (V152) (a0)
  )
  )
  )

noncomputable def f_X5_readClause_44 (V : dV) (x5 a0 s44_1 : Int) : dR :=
  if x5 ≤ s44_1 then (
  dv_b (V a0 5 0) fun zz4 =>
  dv_b (zz4 + 1) fun x10 =>
  dv_b (dv_u V a0 5 0 (x10)) fun V59 =>
  dv_b (V59 a0 3 0) fun zz5 =>
  dv_b2 (f_X10_openClause V59 (zz5) (x5)) fun V67 _ =>
  dv_b (V67 a0 4 0) fun zz6 =>
  if zz6 = 0 then (
  if x5 ≠ 2 then (
  f_X5_readClause_109 (V67) (a0) (1)
  ) else (
  f_X5_readClause_109 (V67) (a0) (0)
  )
  ) else (
  if x5 ≠ 0 then (
  if x5 ≠ 1 then (
  f_X5_readClause_109 (V67) (a0) (0)
  ) else (
  f_X5_readClause_109 (V67) (a0) (1)
  )
  ) else (
  f_X5_readClause_109 (V67) (a0) (3)
  )
  )
  ) else (
  f_X5_readClause_47 (V) (a0)
  )

noncomputable def f_X5_readClause_25 (V : dV) (a0 x3 s25_1 : Int) : dR :=
  dv_b (dv_sub (x3) (s25_1)) fun x5 =>
  if x5 < 0 then (
  f_X5_readClause_47 (V) (a0)
  ) else (
  dv_b (V a0 4 0) fun zz3 =>
  if zz3 = 0 then (
  f_X5_readClause_44 (V) (x5) (a0) (2)
  ) else (
  f_X5_readClause_44 (V) (x5) (a0) (3)
  )
  )

noncomputable def f_X5_readClause (V : dV) (a0 : Int) : dR :=
  dv_b (V a0 5 0) fun zz1 =>
  dv_b (V a0 0 (zz1)) fun x3 =>
  dv_b (V a0 4 0) fun zz2 =>
  if zz2 = 0 then (
  f_X5_readClause_25 (V) (a0) (x3) (301)
  ) else (
  f_X5_readClause_25 (V) (a0) (x3) (304)
  )

noncomputable def f_X5_read_105 (V : dV) (a0 : Int) : Sum (dV × Int × Int) (dR) :=
  dv_b2 (f_X5_fail V (a0)) fun V106 _ =>
  dv_b (V106 a0 8 0) fun zz2 =>
  Sum.inr ((V106, zz2))

noncomputable def f_X5_read_49c (V : dV) (a0 j49_4 : Int) : Sum (dV × Int × Int) (dR) :=
  if 12 ≤ j49_4 then (
  f_X5_read_105 (V) (a0)
  ) else (
  dv_b (V a0 8 0) fun zz3 =>
  if zz3 ≠ (-1) then (
  f_X5_read_105 (V) (a0)
  ) else (
  dv_b2 (f_X5_readClause V (a0)) fun V65 _ =>
  dv_b2 (f_X5_take V65 (a0) (59)) fun V71 x36 =>
  if x36 ≠ 0 then (
  dv_b (j49_4 + 1) fun x39 =>
  Sum.inl (V71, a0, x39)
  ) else (
  dv_b (V71 a0 5 0) fun zz4 =>
  dv_b (V71 a0 0 (zz4)) fun x42 =>
  if x42 = (-1) then (
  dv_b (V71 a0 8 0) fun zz5 =>
  Sum.inr ((V71, zz5))
  ) else (
  dv_b2 (f_X5_fail V71 (a0)) fun V91 _ =>
  dv_b (V91 a0 8 0) fun zz6 =>
  Sum.inr ((V91, zz6))
  )
  )
  )
  )
noncomputable def f_X5_read_49b (s : (dV × Int × Int)) : Sum (dV × Int × Int) (dR) := f_X5_read_49c (s.1) (s.2.1) (s.2.2)

theorem f_X5_read_49e (V : dV) (a0 j49_4 : Int) : f_X5_read_49b (V, a0, j49_4) = f_X5_read_49c V a0 j49_4 := rfl

noncomputable def f_X5_read (V : dV) (a0 p1 p2 p3 : Int) : dR :=
  dv_b (dv_u V a0 2 0 (p1)) fun V2 =>
  dv_b (dv_u V2 a0 3 0 (p2)) fun V7 =>
  dv_b (dv_u V7 a0 4 0 (p3)) fun V12 =>
  dv_b (dv_u V12 a0 5 0 (0)) fun V17 =>
  dv_b (dv_u V17 a0 6 0 (0)) fun V22 =>
  dv_b (dv_u V22 a0 7 0 (0)) fun V27 =>
  dv_b (dv_u V27 a0 8 0 ((-1))) fun V32 =>
  dv_b (V32 a0 3 0) fun zz1 =>
  dv_b2 (f_X10_clear V32 (zz1)) fun V39 _ =>
  dv_b2 (f_X5_scan V39 (a0)) fun V43 _ =>
  dv_lp (f_X5_read_49b) (V43, a0, 0)

noncomputable def f_X11_law (V : dV) (a0 : Int) : dR :=
  dv_b (V a0 0 0) fun zz1 =>
  dv_b (V zz1 5 0) fun zz2 =>
  if zz2 < 6 then (
  dv_b (V a0 6 0) fun zz3 =>
  dv_b (V a0 5 0) fun zz4 =>
  dv_b (V a0 0 0) fun zz5 =>
  dv_b (V a0 0 0) fun zz6 =>
  dv_b (V zz6 5 0) fun zz7 =>
  dv_b (V zz5 1 (zz7)) fun b6 =>
  dv_b2 (f_X5_read V (zz3) (zz4) (b6) (0)) fun V52 x7 =>
  dv_b (dv_u V52 a0 15 0 (x7)) fun V55 =>
  dv_b (V55 a0 5 0) fun zz8 =>
  dv_b (dv_u V55 zz8 1 0 (0)) fun V63 =>
  dv_b (V63 a0 15 0) fun zz9 =>
  if zz9 = (-1) then (
  dv_b (V63 a0 0 0) fun zz10 =>
  dv_b (V63 zz10 5 0) fun zz11 =>
  dv_b (zz11 + 1) fun x19 =>
  dv_b (dv_u V63 zz10 5 0 (x19)) fun V91 =>
  dv_b (V91 a0 0 0) fun zz12 =>
  dv_b (V91 zz12 5 0) fun zz13 =>
  dv_b (zz13 - 1) fun x24 =>
  dv_b2 (f_X11_answer V91 (a0) (x24)) fun V104 x25 =>
  (V104, x25)
  ) else (
  dv_b2 (f_X11_answer V63 (a0) ((-6))) fun V77 x30 =>
  (V77, x30)
  )
  ) else (
  dv_b (V a0 5 0) fun zz14 =>
  dv_b (dv_u V zz14 1 0 (0)) fun V17 =>
  dv_b2 (f_X11_answer V17 (a0) ((-5))) fun V23 x38 =>
  (V23, x38)
  )

noncomputable def f_X11_orders_107c (V : dV) (x56 a0 j84_1 j107_3 : Int) : Sum (dV × Int × Int × Int × Int) (Sum (dV × Int × Int) (dR)) :=
  if x56 ≤ j107_3 then (
  dv_b (j84_1 + 1) fun x63 =>
  Sum.inr (Sum.inl (V, a0, x63))
  ) else (
  dv_b2 (f_X11_runOnce V (a0) (j84_1)) fun V114 x64 =>
  if x64 ≠ 0 then (
  dv_b (j107_3 + 1) fun x72 =>
  Sum.inl (V114, x56, a0, j84_1, x72)
  ) else (
  dv_b (V114 a0 10 0) fun zz15 =>
  dv_b (V114 a0 0 0) fun zz16 =>
  dv_b (V114 zz16 0 0) fun zz17 =>
  dv_b2 (f_X4_restore V114 (zz15) (zz17)) fun V131 _ =>
  dv_b (dv_u V131 a0 17 0 (j84_1)) fun V136 =>
  dv_b2 (f_X11_answer V136 (a0) ((-3))) fun V142 x87 =>
  Sum.inr (Sum.inr ((V142, x87)))
  )
  )
noncomputable def f_X11_orders_107b (s : (dV × Int × Int × Int × Int)) : Sum (dV × Int × Int × Int × Int) (Sum (dV × Int × Int) (dR)) := f_X11_orders_107c (s.1) (s.2.1) (s.2.2.1) (s.2.2.2.1) (s.2.2.2.2)

theorem f_X11_orders_107e (V : dV) (x56 a0 j84_1 j107_3 : Int) : f_X11_orders_107b (V, x56, a0, j84_1, j107_3) = f_X11_orders_107c V x56 a0 j84_1 j107_3 := rfl

noncomputable def f_X11_orders_84c (V : dV) (a0 j84_1 : Int) : Sum (dV × Int × Int) (dR) :=
  dv_b (V a0 7 0) fun zz11 =>
  dv_b (V zz11 3 0) fun zz12 =>
  if zz12 ≤ j84_1 then (
  dv_b (V a0 8 0) fun zz13 =>
  dv_b (V zz13 1 (1)) fun x47 =>
  dv_b2 (f_X11_answer V (a0) (x47)) fun V168 x48 =>
  Sum.inr ((V168, x48))
  ) else (
  dv_b (V a0 7 0) fun zz14 =>
  dv_b2 (f_X10_mark V (zz14) (j84_1) (1)) fun x56 _ =>
  dv_lp (f_X11_orders_107b) (V, x56, a0, j84_1, 0)
  )
noncomputable def f_X11_orders_84b (s : (dV × Int × Int)) : Sum (dV × Int × Int) (dR) := f_X11_orders_84c (s.1) (s.2.1) (s.2.2)

theorem f_X11_orders_84e (V : dV) (a0 j84_1 : Int) : f_X11_orders_84b (V, a0, j84_1) = f_X11_orders_84c V a0 j84_1 := rfl

noncomputable def f_X11_orders (V : dV) (a0 : Int) : dR :=
  dv_b (dv_u V a0 17 0 ((-1))) fun V2 =>
  dv_b (V2 a0 6 0) fun zz1 =>
  dv_b (V2 a0 5 0) fun zz2 =>
  dv_b (V2 a0 7 0) fun zz3 =>
  dv_b2 (f_X5_read V2 (zz1) (zz2) (zz3) (1)) fun V19 x4 =>
  dv_b (dv_u V19 a0 15 0 (x4)) fun V22 =>
  dv_b (V22 a0 5 0) fun zz4 =>
  dv_b (dv_u V22 zz4 1 0 (0)) fun V30 =>
  dv_b (V30 a0 15 0) fun zz5 =>
  if zz5 = (-1) then (
  dv_b (V30 a0 10 0) fun zz6 =>
  dv_b (V30 a0 0 0) fun zz7 =>
  dv_b (V30 zz7 0 0) fun zz8 =>
  dv_b2 (f_X4_save V30 (zz6) (zz8)) fun V59 _ =>
  dv_b (V59 a0 8 0) fun zz9 =>
  dv_b (dv_u V59 zz9 1 (1) (0)) fun V71 =>
  dv_b (V71 a0 8 0) fun zz10 =>
  dv_b (dv_u V71 zz10 1 (2) ((-1))) fun V81 =>
  dv_lp (f_X11_orders_84b) (V81, a0, 0)
  ) else (
  dv_b2 (f_X11_answer V30 (a0) ((-6))) fun V44 x95 =>
  (V44, x95)
  )



noncomputable def f_X12_lies (V : dV) (p1 p2 p3 : Int) : dP :=
  if p1 < p2 then (
  (0, ())
  ) else (
  if p3 < p1 then (
  (0, ())
  ) else (
  (1, ())
  )
  )

noncomputable def f_X12_lesser (V : dV) (p1 p2 : Int) : dP :=
  if p2 ≤ p1 then (
  (p2, ())
  ) else (
  (p1, ())
  )

noncomputable def f_X12_greater (V : dV) (p1 p2 : Int) : dP :=
  if p1 ≤ p2 then (
  (p2, ())
  ) else (
  (p1, ())
  )

noncomputable def f_X12_isIn (V : dV) (p1 p2 : Int) : dP :=
  dv_b (dv_shr (p1) (p2)) fun x1 =>
  dv_b (dv_and (x1) (1)) fun x2 =>
  if x2 ≠ 1 then (
  (0, ())
  ) else (
  (1, ())
  )

noncomputable def f_X12_isSide (V : dV) (p1 : Int) : dP :=
  dv_b2 (f_X12_lies V (p1) (1) (12)) fun x1 _ =>
  (x1, ())

noncomputable def f_X12_isAlong (V : dV) (p1 : Int) : dP :=
  dv_b2 (f_X12_lies V (p1) (0) (11)) fun x1 _ =>
  (x1, ())

noncomputable def f_X12_canBe (V : dV) (p1 p2 p3 : Int) : dP :=
  dv_b2 (f_X12_isSide V (p1)) fun x1 _ =>
  if x1 = 0 then (
  (0, ())
  ) else (
  dv_b2 (f_X12_lies V (p2) (0) (3)) fun x2 _ =>
  if x2 = 0 then (
  (0, ())
  ) else (
  dv_b2 (f_X12_lies V (p3) (0) (9)) fun x3 _ =>
  if x3 = 0 then (
  (0, ())
  ) else (
  (1, ())
  )
  )
  )

noncomputable def f_X12_isTerm (V : dV) (p1 p2 : Int) : dP :=
  if p1 = 0 then (
  dv_b2 (f_X12_lies V (p2) (0) (999)) fun x1 _ =>
  (x1, ())
  ) else (
  if p1 = 1 then (
  dv_b2 (f_X12_lies V (p2) (0) (10)) fun x2 _ =>
  (x2, ())
  ) else (
  if p1 = 2 then (
  dv_b2 (f_X12_lies V (p2) (0) (9)) fun x3 _ =>
  (x3, ())
  ) else (
  (0, ())
  )))

noncomputable def f_X12_termAt (V : dV) (p1 : Int) : dP :=
  if p1 ≠ 0 then (
  if p1 ≠ 1 then (
  (66, ())
  ) else (
  (65, ())
  )
  ) else (
  (28, ())
  )

noncomputable def f_X12_isSmall (V : dV) (p1 : Int) : dP :=
  if p1 < 97 then (
  (0, ())
  ) else (
  if 122 < p1 then (
  (0, ())
  ) else (
  (1, ())
  )
  )

noncomputable def f_X12_isDigit (V : dV) (p1 : Int) : dP :=
  if p1 < 48 then (
  (0, ())
  ) else (
  if 57 < p1 then (
  (0, ())
  ) else (
  (1, ())
  )
  )

noncomputable def f_X12_sign (V : dV) (p1 : Int) : dP :=
  dv_b (100 + p1) fun x1 =>
  (x1, ())

noncomputable def f_X12_many (V : dV) (a0 : Int) : dP :=
  dv_b (V a0 2 (69)) fun x2 =>
  (x2, ())

noncomputable def f_X12_isCarpet (V : dV) (a0 p1 : Int) : dP :=
  dv_b2 (f_X12_many V (a0)) fun x1 _ =>
  dv_b (x1 - 1) fun x2 =>
  dv_b2 (f_X12_lies V (p1) (0) (x2)) fun x3 _ =>
  (x3, ())

noncomputable def f_X12_isLaid (V : dV) (a0 p1 : Int) : dP :=
  dv_b (9 + p1) fun x2 =>
  dv_b (V a0 2 (x2)) fun x3 =>
  if x3 = (-1) then (
  (0, ())
  ) else (
  (1, ())
  )

noncomputable def f_X12_isWhole (V : dV) (a0 p1 : Int) : dP :=
  dv_b (0 + p1) fun x2 =>
  dv_b (V a0 2 (x2)) fun x3 =>
  if x3 ≤ 0 then (
  (0, ())
  ) else (
  (1, ())
  )

noncomputable def f_X12_laidMany_4c (V : dV) (a0 j4_1 j4_2 : Int) : Sum (dV × Int × Int × Int) (dP) :=
  dv_b2 (f_X12_many V (a0)) fun x1 _ =>
  if x1 ≤ j4_2 then (
  Sum.inr ((j4_1, ()))
  ) else (
  dv_b2 (f_X12_isLaid V (a0) (j4_2)) fun x2 _ =>
  if x2 = 0 then (
  dv_b (j4_1 + 0) fun x3 =>
  dv_b (j4_2 + 1) fun x4 =>
  Sum.inl (V, a0, x3, x4)
  ) else (
  dv_b (j4_1 + 1) fun x5 =>
  dv_b (j4_2 + 1) fun x6 =>
  Sum.inl (V, a0, x5, x6)
  )
  )
noncomputable def f_X12_laidMany_4b (s : (dV × Int × Int × Int)) : Sum (dV × Int × Int × Int) (dP) := f_X12_laidMany_4c (s.1) (s.2.1) (s.2.2.1) (s.2.2.2)

theorem f_X12_laidMany_4e (V : dV) (a0 j4_1 j4_2 : Int) : f_X12_laidMany_4b (V, a0, j4_1, j4_2) = f_X12_laidMany_4c V a0 j4_1 j4_2 := rfl

noncomputable def f_X12_laidMany (V : dV) (a0 : Int) : dP :=
  dv_lp (f_X12_laidMany_4b) (V, a0, 0, 0)

noncomputable def f_X12_covers (V : dV) (a0 p1 p2 p3 : Int) : dP :=
  dv_b2 (f_X12_isLaid V (a0) (p1)) fun x1 _ =>
  if x1 = 0 then (
  (0, ())
  ) else (
  dv_b (9 + p1) fun x3 =>
  dv_b (V a0 2 (x3)) fun x4 =>
  dv_b (9 + p1) fun x5 =>
  dv_b (V a0 2 (x5)) fun x6 =>
  dv_b (29 + p1) fun x7 =>
  dv_b (V a0 2 (x7)) fun x8 =>
  dv_b (dv_add (x6) (x8)) fun x9 =>
  dv_b (dv_sub (x9) (1)) fun x10 =>
  dv_b2 (f_X12_lies V (p2) (x4) (x10)) fun x11 _ =>
  if x11 = 0 then (
  (0, ())
  ) else (
  dv_b (18 + p1) fun x12 =>
  dv_b (V a0 2 (x12)) fun x13 =>
  dv_b (18 + p1) fun x14 =>
  dv_b (V a0 2 (x14)) fun x15 =>
  dv_b (29 + p1) fun x16 =>
  dv_b (V a0 2 (x16)) fun x17 =>
  dv_b (dv_add (x15) (x17)) fun x18 =>
  dv_b (dv_sub (x18) (1)) fun x19 =>
  dv_b2 (f_X12_lies V (p3) (x13) (x19)) fun x20 _ =>
  if x20 = 0 then (
  (0, ())
  ) else (
  (1, ())
  )
  )
  )

noncomputable def f_X12_at_31 (V : dV) (a0 p1 p2 j5_4 s31_0 : Int) : Sum (dV × Int × Int × Int × Int × Int) (dP) :=
  dv_b (j5_4 + 1) fun x3 =>
  Sum.inl (V, a0, p1, p2, s31_0, x3)

noncomputable def f_X12_at_5c (V : dV) (a0 p1 p2 j5_3 j5_4 : Int) : Sum (dV × Int × Int × Int × Int × Int) (dP) :=
  dv_b2 (f_X12_many V (a0)) fun x1 _ =>
  if x1 ≤ j5_4 then (
  Sum.inr ((j5_3, ()))
  ) else (
  dv_b2 (f_X12_covers V (a0) (j5_4) (p1) (p2)) fun x2 _ =>
  if x2 = 0 then (
  f_X12_at_31 (V) (a0) (p1) (p2) (j5_4) (j5_3)
  ) else (
  f_X12_at_31 (V) (a0) (p1) (p2) (j5_4) (j5_4)
  )
  )
noncomputable def f_X12_at_5b (s : (dV × Int × Int × Int × Int × Int)) : Sum (dV × Int × Int × Int × Int × Int) (dP) := f_X12_at_5c (s.1) (s.2.1) (s.2.2.1) (s.2.2.2.1) (s.2.2.2.2.1) (s.2.2.2.2.2)

theorem f_X12_at_5e (V : dV) (a0 p1 p2 j5_3 j5_4 : Int) : f_X12_at_5b (V, a0, p1, p2, j5_3, j5_4) = f_X12_at_5c V a0 p1 p2 j5_3 j5_4 := rfl

noncomputable def f_X12_at (V : dV) (a0 p1 p2 : Int) : dP :=
  dv_lp (f_X12_at_5b) (V, a0, p1, p2, (-1), 0)

noncomputable def f_X12_isLaw (V : dV) (a0 p1 : Int) : dP :=
  dv_b (V a0 2 (71)) fun x2 =>
  dv_b (x2 - 1) fun x3 =>
  dv_b2 (f_X12_lies V (p1) ((-1)) (x3)) fun x4 _ =>
  (x4, ())

noncomputable def f_X12_rolledWhole_36 (V : dV) (a0 j4_2 j4_1 s36_1 : Int) : Sum (dV × Int × Int × Int) (dP) :=
  dv_b (dv_or (j4_1) (s36_1)) fun x3 =>
  dv_b (j4_2 + 1) fun x4 =>
  Sum.inl (V, a0, x3, x4)

noncomputable def f_X12_rolledWhole_35 (V : dV) (a0 j4_2 j4_1 : Int) : Sum (dV × Int × Int × Int) (dP) :=
  f_X12_rolledWhole_36 (V) (a0) (j4_2) (j4_1) (0)

noncomputable def f_X12_rolledWhole_4c (V : dV) (a0 j4_1 j4_2 : Int) : Sum (dV × Int × Int × Int) (dP) :=
  dv_b2 (f_X12_many V (a0)) fun x1 _ =>
  if x1 ≤ j4_2 then (
  Sum.inr ((j4_1, ()))
  ) else (
  dv_b2 (f_X12_isLaid V (a0) (j4_2)) fun x2 _ =>
  if x2 ≠ 0 then (
  f_X12_rolledWhole_35 (V) (a0) (j4_2) (j4_1)
  ) else (
  dv_b2 (f_X12_isWhole V (a0) (j4_2)) fun x5 _ =>
  if x5 = 0 then (
  f_X12_rolledWhole_35 (V) (a0) (j4_2) (j4_1)
  ) else (
  dv_b (dv_shl (1) (j4_2)) fun x6 =>
  f_X12_rolledWhole_36 (V) (a0) (j4_2) (j4_1) (x6)
  )
  )
  )
noncomputable def f_X12_rolledWhole_4b (s : (dV × Int × Int × Int)) : Sum (dV × Int × Int × Int) (dP) := f_X12_rolledWhole_4c (s.1) (s.2.1) (s.2.2.1) (s.2.2.2)

theorem f_X12_rolledWhole_4e (V : dV) (a0 j4_1 j4_2 : Int) : f_X12_rolledWhole_4b (V, a0, j4_1, j4_2) = f_X12_rolledWhole_4c V a0 j4_1 j4_2 := rfl

noncomputable def f_X12_rolledWhole (V : dV) (a0 : Int) : dP :=
  dv_lp (f_X12_rolledWhole_4b) (V, a0, 0, 0)

noncomputable def f_X12_priceAt (V : dV) (a0 p1 p2 : Int) : dP :=
  dv_b (144 * p1) fun x2 =>
  dv_b (x2 + p2) fun x3 =>
  dv_b (V a0 34 (x3)) fun x4 =>
  (x4, ())

noncomputable def f_X12_mostAt_4c (V : dV) (a0 p1 j4_2 j4_3 : Int) : Sum (dV × Int × Int × Int × Int) (dP) :=
  dv_b2 (f_X12_many V (a0)) fun x1 _ =>
  if x1 ≤ j4_3 then (
  Sum.inr ((j4_2, ()))
  ) else (
  dv_b (9 * p1) fun x3 =>
  dv_b (x3 + j4_3) fun x4 =>
  dv_b (V a0 38 (x4)) fun x5 =>
  dv_b2 (f_X12_greater V (j4_2) (x5)) fun x6 _ =>
  dv_b (j4_3 + 1) fun x7 =>
  Sum.inl (V, a0, p1, x6, x7)
  )
noncomputable def f_X12_mostAt_4b (s : (dV × Int × Int × Int × Int)) : Sum (dV × Int × Int × Int × Int) (dP) := f_X12_mostAt_4c (s.1) (s.2.1) (s.2.2.1) (s.2.2.2.1) (s.2.2.2.2)

theorem f_X12_mostAt_4e (V : dV) (a0 p1 j4_2 j4_3 : Int) : f_X12_mostAt_4b (V, a0, p1, j4_2, j4_3) = f_X12_mostAt_4c V a0 p1 j4_2 j4_3 := rfl

noncomputable def f_X12_mostAt (V : dV) (a0 p1 : Int) : dP :=
  dv_lp (f_X12_mostAt_4b) (V, a0, p1, 0, 0)

noncomputable def f_X12_ragMany_26 (V : dV) (a0 j4_2 j4_1 s26_1 : Int) : Sum (dV × Int × Int × Int) (dP) :=
  dv_b (dv_add (j4_1) (s26_1)) fun x3 =>
  dv_b (j4_2 + 1) fun x4 =>
  Sum.inl (V, a0, x3, x4)

noncomputable def f_X12_ragMany_4c (V : dV) (a0 j4_1 j4_2 : Int) : Sum (dV × Int × Int × Int) (dP) :=
  dv_b2 (f_X12_many V (a0)) fun x1 _ =>
  if x1 ≤ j4_2 then (
  Sum.inr ((j4_1, ()))
  ) else (
  dv_b2 (f_X12_isWhole V (a0) (j4_2)) fun x2 _ =>
  if x2 = 0 then (
  f_X12_ragMany_26 (V) (a0) (j4_2) (j4_1) (1)
  ) else (
  f_X12_ragMany_26 (V) (a0) (j4_2) (j4_1) (0)
  )
  )
noncomputable def f_X12_ragMany_4b (s : (dV × Int × Int × Int)) : Sum (dV × Int × Int × Int) (dP) := f_X12_ragMany_4c (s.1) (s.2.1) (s.2.2.1) (s.2.2.2)

theorem f_X12_ragMany_4e (V : dV) (a0 j4_1 j4_2 : Int) : f_X12_ragMany_4b (V, a0, j4_1, j4_2) = f_X12_ragMany_4c V a0 j4_1 j4_2 := rfl

noncomputable def f_X12_ragMany (V : dV) (a0 : Int) : dP :=
  dv_lp (f_X12_ragMany_4b) (V, a0, 0, 0)

noncomputable def f_X12_fluff (V : dV) (a0 : Int) : dP :=
  dv_b (V a0 6 0) fun zz1 =>
  (zz1, ())

noncomputable def f_X12_fault (V : dV) (a0 : Int) : dP :=
  dv_b (V a0 14 0) fun zz1 =>
  (zz1, ())

noncomputable def f_X12_stopped (V : dV) (a0 : Int) : dP :=
  dv_b (V a0 47 0) fun zz1 =>
  (zz1, ())

noncomputable def f_X12_status (V : dV) (a0 : Int) : dP :=
  dv_b (V a0 0 0) fun zz1 =>
  (zz1, ())

noncomputable def f_X12_fine (V : dV) (a0 : Int) : dP :=
  dv_b (V a0 21 0) fun zz1 =>
  if zz1 ≠ (-1) then (
  (0, ())
  ) else (
  (1, ())
  )

noncomputable def f_X12_drawn (V : dV) (a0 p1 p2 : Int) : dP :=
  dv_b (V a0 55 0) fun zz1 =>
  dv_b (zz1 - 1) fun x2 =>
  dv_b2 (f_X12_lies V (p1) (0) (x2)) fun x3 _ =>
  if x3 = 0 then (
  ((-1), ())
  ) else (
  dv_b2 (f_X12_lies V (p2) (0) (2)) fun x4 _ =>
  if x4 ≠ 0 then (
  if p2 ≠ 0 then (
  if p2 ≠ 1 then (
  dv_b (18 + p1) fun x6 =>
  dv_b (V a0 54 (x6)) fun x7 =>
  (x7, ())
  ) else (
  dv_b (9 + p1) fun x8 =>
  dv_b (V a0 54 (x8)) fun x9 =>
  (x9, ())
  )
  ) else (
  dv_b (0 + p1) fun x10 =>
  dv_b (V a0 54 (x10)) fun x11 =>
  (x11, ())
  )
  ) else (
  ((-1), ())
  )
  )

noncomputable def f_X12_bareMany_18c (V : dV) (a0 j18_1 j18_2 : Int) : Sum (dV × Int × Int × Int) (dP) :=
  dv_b2 (f_X12_many V (a0)) fun x6 _ =>
  if x6 ≤ j18_2 then (
  Sum.inr ((j18_1, ()))
  ) else (
  dv_b2 (f_X12_isLaid V (a0) (j18_2)) fun x7 _ =>
  if x7 = 0 then (
  dv_b (j18_1 - 0) fun x8 =>
  dv_b (j18_2 + 1) fun x9 =>
  Sum.inl (V, a0, x8, x9)
  ) else (
  dv_b (29 + j18_2) fun x10 =>
  dv_b (V a0 2 (x10)) fun x11 =>
  dv_b (29 + j18_2) fun x12 =>
  dv_b (V a0 2 (x12)) fun x13 =>
  dv_b (x11 * x13) fun x14 =>
  dv_b (j18_1 - x14) fun x16 =>
  dv_b (j18_2 + 1) fun x17 =>
  Sum.inl (V, a0, x16, x17)
  )
  )
noncomputable def f_X12_bareMany_18b (s : (dV × Int × Int × Int)) : Sum (dV × Int × Int × Int) (dP) := f_X12_bareMany_18c (s.1) (s.2.1) (s.2.2.1) (s.2.2.2)

theorem f_X12_bareMany_18e (V : dV) (a0 j18_1 j18_2 : Int) : f_X12_bareMany_18b (V, a0, j18_1, j18_2) = f_X12_bareMany_18c V a0 j18_1 j18_2 := rfl

noncomputable def f_X12_bareMany (V : dV) (a0 : Int) : dP :=
  dv_b (V a0 2 (67)) fun x2 =>
  dv_b (V a0 2 (68)) fun x3 =>
  dv_b (x2 * x3) fun x4 =>
  dv_lp (f_X12_bareMany_18b) (V, a0, x4, 0)

noncomputable def f_X12_within_118 (V : dV) (a0 p1 p2 p3 p4 j9_7 j118_5 j118_6 : Int) : Sum (dV × Int × Int × Int × Int × Int × Int × Int × Int) (dP) :=
  dv_b (j9_7 + 1) fun x6 =>
  Sum.inl (V, a0, p1, p2, p3, p4, j118_5, j118_6, x6)

noncomputable def f_X12_within_9c (V : dV) (a0 p1 p2 p3 p4 j9_5 j9_6 j9_7 : Int) : Sum (dV × Int × Int × Int × Int × Int × Int × Int × Int) (dP) :=
  dv_b2 (f_X12_many V (a0)) fun x1 _ =>
  if x1 ≤ j9_7 then (
  if 2 ≤ j9_5 then (
  Sum.inr ((j9_6, ()))
  ) else (
  Sum.inr (((-1), ()))
  )
  ) else (
  dv_b (29 + j9_7) fun x3 =>
  dv_b (V a0 2 (x3)) fun x4 =>
  dv_b2 (f_X12_isLaid V (a0) (j9_7)) fun x5 _ =>
  if x5 = 0 then (
  f_X12_within_118 (V) (a0) (p1) (p2) (p3) (p4) (j9_7) (j9_5) (j9_6)
  ) else (
  dv_b (9 + j9_7) fun x7 =>
  dv_b (V a0 2 (x7)) fun x8 =>
  if x8 < p1 then (
  f_X12_within_118 (V) (a0) (p1) (p2) (p3) (p4) (j9_7) (j9_5) (j9_6)
  ) else (
  dv_b (18 + j9_7) fun x9 =>
  dv_b (V a0 2 (x9)) fun x10 =>
  if x10 < p2 then (
  f_X12_within_118 (V) (a0) (p1) (p2) (p3) (p4) (j9_7) (j9_5) (j9_6)
  ) else (
  dv_b (9 + j9_7) fun x11 =>
  dv_b (V a0 2 (x11)) fun x12 =>
  dv_b (dv_add (x12) (x4)) fun x13 =>
  if p3 < x13 then (
  f_X12_within_118 (V) (a0) (p1) (p2) (p3) (p4) (j9_7) (j9_5) (j9_6)
  ) else (
  dv_b (18 + j9_7) fun x14 =>
  dv_b (V a0 2 (x14)) fun x15 =>
  dv_b (dv_add (x15) (x4)) fun x16 =>
  if x16 ≤ p4 then (
  dv_b (x4 * x4) fun x17 =>
  dv_b (dv_add (j9_6) (x17)) fun x19 =>
  dv_b (dv_add (j9_5) (1)) fun x20 =>
  f_X12_within_118 (V) (a0) (p1) (p2) (p3) (p4) (j9_7) (x20) (x19)
  ) else (
  f_X12_within_118 (V) (a0) (p1) (p2) (p3) (p4) (j9_7) (j9_5) (j9_6)
  )
  )
  )
  )
  )
  )
noncomputable def f_X12_within_9b (s : (dV × Int × Int × Int × Int × Int × Int × Int × Int)) : Sum (dV × Int × Int × Int × Int × Int × Int × Int × Int) (dP) := f_X12_within_9c (s.1) (s.2.1) (s.2.2.1) (s.2.2.2.1) (s.2.2.2.2.1) (s.2.2.2.2.2.1) (s.2.2.2.2.2.2.1) (s.2.2.2.2.2.2.2.1) (s.2.2.2.2.2.2.2.2)

theorem f_X12_within_9e (V : dV) (a0 p1 p2 p3 p4 j9_5 j9_6 j9_7 : Int) : f_X12_within_9b (V, a0, p1, p2, p3, p4, j9_5, j9_6, j9_7) = f_X12_within_9c V a0 p1 p2 p3 p4 j9_5 j9_6 j9_7 := rfl

noncomputable def f_X12_within (V : dV) (a0 p1 p2 p3 p4 : Int) : dP :=
  dv_lp (f_X12_within_9b) (V, a0, p1, p2, p3, p4, 0, 0, 0)

noncomputable def f_X12_inner_92 (V : dV) (x3 x2 a0 j21_4 j33_5 j42_6 j54_7 j54_3 s92_1 : Int) : Sum (dV × Int × Int × Int × Int × Int × Int × Int × Int) (Sum (dV × Int × Int × Int × Int × Int × Int × Int) (Sum (dV × Int × Int × Int × Int × Int × Int) (Sum (dV × Int × Int × Int × Int × Int) (dP)))) :=
  dv_b (dv_add (j54_3) (s92_1)) fun x18 =>
  dv_b (j54_7 + 1) fun x19 =>
  Sum.inl (V, x3, x2, a0, j21_4, j33_5, j42_6, x18, x19)

noncomputable def f_X12_inner_54c (V : dV) (x3 x2 a0 j21_4 j33_5 j42_6 j54_3 j54_7 : Int) : Sum (dV × Int × Int × Int × Int × Int × Int × Int × Int) (Sum (dV × Int × Int × Int × Int × Int × Int × Int) (Sum (dV × Int × Int × Int × Int × Int × Int) (Sum (dV × Int × Int × Int × Int × Int) (dP)))) :=
  if x3 < j54_7 then (
  dv_b (j42_6 + 1) fun x13 =>
  Sum.inr (Sum.inl (V, x3, x2, a0, j21_4, j33_5, j54_3, x13))
  ) else (
  dv_b2 (f_X12_within V (a0) (j21_4) (j42_6) (j33_5) (j54_7)) fun x14 _ =>
  dv_b (j33_5 - j21_4) fun x15 =>
  dv_b (j54_7 - j42_6) fun x16 =>
  dv_b (dv_mul (x15) (x16)) fun x17 =>
  if x14 ≠ x17 then (
  f_X12_inner_92 (V) (x3) (x2) (a0) (j21_4) (j33_5) (j42_6) (j54_7) (j54_3) (0)
  ) else (
  f_X12_inner_92 (V) (x3) (x2) (a0) (j21_4) (j33_5) (j42_6) (j54_7) (j54_3) (1)
  )
  )
noncomputable def f_X12_inner_54b (s : (dV × Int × Int × Int × Int × Int × Int × Int × Int)) : Sum (dV × Int × Int × Int × Int × Int × Int × Int × Int) (Sum (dV × Int × Int × Int × Int × Int × Int × Int) (Sum (dV × Int × Int × Int × Int × Int × Int) (Sum (dV × Int × Int × Int × Int × Int) (dP)))) := f_X12_inner_54c (s.1) (s.2.1) (s.2.2.1) (s.2.2.2.1) (s.2.2.2.2.1) (s.2.2.2.2.2.1) (s.2.2.2.2.2.2.1) (s.2.2.2.2.2.2.2.1) (s.2.2.2.2.2.2.2.2)

theorem f_X12_inner_54e (V : dV) (x3 x2 a0 j21_4 j33_5 j42_6 j54_3 j54_7 : Int) : f_X12_inner_54b (V, x3, x2, a0, j21_4, j33_5, j42_6, j54_3, j54_7) = f_X12_inner_54c V x3 x2 a0 j21_4 j33_5 j42_6 j54_3 j54_7 := rfl

noncomputable def f_X12_inner_42c (V : dV) (x3 x2 a0 j21_4 j33_5 j42_3 j42_6 : Int) : Sum (dV × Int × Int × Int × Int × Int × Int × Int) (Sum (dV × Int × Int × Int × Int × Int × Int) (Sum (dV × Int × Int × Int × Int × Int) (dP))) :=
  if x3 ≤ j42_6 then (
  dv_b (j33_5 + 1) fun x11 =>
  Sum.inr (Sum.inl (V, x3, x2, a0, j21_4, j42_3, x11))
  ) else (
  dv_b (j42_6 + 1) fun x12 =>
  dv_lp (f_X12_inner_54b) (V, x3, x2, a0, j21_4, j33_5, j42_6, j42_3, x12)
  )
noncomputable def f_X12_inner_42b (s : (dV × Int × Int × Int × Int × Int × Int × Int)) : Sum (dV × Int × Int × Int × Int × Int × Int × Int) (Sum (dV × Int × Int × Int × Int × Int × Int) (Sum (dV × Int × Int × Int × Int × Int) (dP))) := f_X12_inner_42c (s.1) (s.2.1) (s.2.2.1) (s.2.2.2.1) (s.2.2.2.2.1) (s.2.2.2.2.2.1) (s.2.2.2.2.2.2.1) (s.2.2.2.2.2.2.2)

theorem f_X12_inner_42e (V : dV) (x3 x2 a0 j21_4 j33_5 j42_3 j42_6 : Int) : f_X12_inner_42b (V, x3, x2, a0, j21_4, j33_5, j42_3, j42_6) = f_X12_inner_42c V x3 x2 a0 j21_4 j33_5 j42_3 j42_6 := rfl

noncomputable def f_X12_inner_33c (V : dV) (x3 x2 a0 j21_4 j33_3 j33_5 : Int) : Sum (dV × Int × Int × Int × Int × Int × Int) (Sum (dV × Int × Int × Int × Int × Int) (dP)) :=
  if x2 < j33_5 then (
  dv_b (j21_4 + 1) fun x10 =>
  Sum.inr (Sum.inl (V, x3, x2, a0, j33_3, x10))
  ) else (
  dv_lp (f_X12_inner_42b) (V, x3, x2, a0, j21_4, j33_5, j33_3, 0)
  )
noncomputable def f_X12_inner_33b (s : (dV × Int × Int × Int × Int × Int × Int)) : Sum (dV × Int × Int × Int × Int × Int × Int) (Sum (dV × Int × Int × Int × Int × Int) (dP)) := f_X12_inner_33c (s.1) (s.2.1) (s.2.2.1) (s.2.2.2.1) (s.2.2.2.2.1) (s.2.2.2.2.2.1) (s.2.2.2.2.2.2)

theorem f_X12_inner_33e (V : dV) (x3 x2 a0 j21_4 j33_3 j33_5 : Int) : f_X12_inner_33b (V, x3, x2, a0, j21_4, j33_3, j33_5) = f_X12_inner_33c V x3 x2 a0 j21_4 j33_3 j33_5 := rfl

noncomputable def f_X12_inner_21c (V : dV) (x3 x2 a0 j21_3 j21_4 : Int) : Sum (dV × Int × Int × Int × Int × Int) (dP) :=
  if x2 ≤ j21_4 then (
  dv_b2 (f_X12_within V (a0) (0) (0) (x2) (x3)) fun x4 _ =>
  dv_b (x2 * x3) fun x5 =>
  if x4 ≠ x5 then (
  dv_b (j21_3 - 0) fun x7 =>
  Sum.inr ((x7, ()))
  ) else (
  dv_b (dv_sub (j21_3) (1)) fun x8 =>
  Sum.inr ((x8, ()))
  )
  ) else (
  dv_b (j21_4 + 1) fun x9 =>
  dv_lp (f_X12_inner_33b) (V, x3, x2, a0, j21_4, j21_3, x9)
  )
noncomputable def f_X12_inner_21b (s : (dV × Int × Int × Int × Int × Int)) : Sum (dV × Int × Int × Int × Int × Int) (dP) := f_X12_inner_21c (s.1) (s.2.1) (s.2.2.1) (s.2.2.2.1) (s.2.2.2.2.1) (s.2.2.2.2.2)

theorem f_X12_inner_21e (V : dV) (x3 x2 a0 j21_3 j21_4 : Int) : f_X12_inner_21b (V, x3, x2, a0, j21_3, j21_4) = f_X12_inner_21c V x3 x2 a0 j21_3 j21_4 := rfl

noncomputable def f_X12_inner (V : dV) (a0 : Int) : dP :=
  dv_b (V a0 2 (67)) fun x2 =>
  dv_b (V a0 2 (68)) fun x3 =>
  dv_lp (f_X12_inner_21b) (V, x3, x2, a0, 0, 0)

noncomputable def f_X12_isCross_67 (V : dV) (x8 x7 x5 x3 s67_0 : Int) : dP :=
  if s67_0 = 0 then (
  (0, ())
  ) else (
  if x3 = x5 then (
  (0, ())
  ) else (
  if x3 = x7 then (
  (0, ())
  ) else (
  if x3 = x8 then (
  (0, ())
  ) else (
  if x5 = x7 then (
  (0, ())
  ) else (
  if x5 = x8 then (
  (0, ())
  ) else (
  if x7 = x8 then (
  (0, ())
  ) else (
  (1, ())
  )
  )
  )
  )
  )
  )
  )

noncomputable def f_X12_isCross_66 (V : dV) (x8 x7 x5 x3 : Int) : dP :=
  f_X12_isCross_67 (V) (x8) (x7) (x5) (x3) (0)

noncomputable def f_X12_isCross (V : dV) (a0 p1 p2 : Int) : dP :=
  dv_b (dv_sub (p1) (1)) fun x1 =>
  dv_b (dv_sub (p2) (1)) fun x2 =>
  dv_b2 (f_X12_at V (a0) (x1) (x2)) fun x3 _ =>
  dv_b (dv_sub (p2) (1)) fun x4 =>
  dv_b2 (f_X12_at V (a0) (p1) (x4)) fun x5 _ =>
  dv_b (dv_sub (p1) (1)) fun x6 =>
  dv_b2 (f_X12_at V (a0) (x6) (p2)) fun x7 _ =>
  dv_b2 (f_X12_at V (a0) (p1) (p2)) fun x8 _ =>
  if x3 = (-1) then (
  f_X12_isCross_66 (V) (x8) (x7) (x5) (x3)
  ) else (
  if x5 = (-1) then (
  f_X12_isCross_66 (V) (x8) (x7) (x5) (x3)
  ) else (
  if x7 = (-1) then (
  f_X12_isCross_66 (V) (x8) (x7) (x5) (x3)
  ) else (
  if x8 = (-1) then (
  f_X12_isCross_66 (V) (x8) (x7) (x5) (x3)
  ) else (
  f_X12_isCross_67 (V) (x8) (x7) (x5) (x3) (1)
  )
  )
  )
  )

noncomputable def f_X12_crosses_43 (V : dV) (a0 j4_2 j17_3 j17_1 s43_1 : Int) : Sum (dV × Int × Int × Int × Int) (Sum (dV × Int × Int × Int) (dP)) :=
  dv_b (dv_add (j17_1) (s43_1)) fun x6 =>
  dv_b (j17_3 + 1) fun x7 =>
  Sum.inl (V, a0, j4_2, x6, x7)

noncomputable def f_X12_crosses_17c (V : dV) (a0 j4_2 j17_1 j17_3 : Int) : Sum (dV × Int × Int × Int × Int) (Sum (dV × Int × Int × Int) (dP)) :=
  dv_b (V a0 2 (68)) fun x3 =>
  if x3 ≤ j17_3 then (
  dv_b (j4_2 + 1) fun x4 =>
  Sum.inr (Sum.inl (V, a0, j17_1, x4))
  ) else (
  dv_b2 (f_X12_isCross V (a0) (j4_2) (j17_3)) fun x5 _ =>
  if x5 = 0 then (
  f_X12_crosses_43 (V) (a0) (j4_2) (j17_3) (j17_1) (0)
  ) else (
  f_X12_crosses_43 (V) (a0) (j4_2) (j17_3) (j17_1) (1)
  )
  )
noncomputable def f_X12_crosses_17b (s : (dV × Int × Int × Int × Int)) : Sum (dV × Int × Int × Int × Int) (Sum (dV × Int × Int × Int) (dP)) := f_X12_crosses_17c (s.1) (s.2.1) (s.2.2.1) (s.2.2.2.1) (s.2.2.2.2)

theorem f_X12_crosses_17e (V : dV) (a0 j4_2 j17_1 j17_3 : Int) : f_X12_crosses_17b (V, a0, j4_2, j17_1, j17_3) = f_X12_crosses_17c V a0 j4_2 j17_1 j17_3 := rfl

noncomputable def f_X12_crosses_4c (V : dV) (a0 j4_1 j4_2 : Int) : Sum (dV × Int × Int × Int) (dP) :=
  dv_b (V a0 2 (67)) fun x2 =>
  if x2 ≤ j4_2 then (
  Sum.inr ((j4_1, ()))
  ) else (
  dv_lp (f_X12_crosses_17b) (V, a0, j4_2, j4_1, 1)
  )
noncomputable def f_X12_crosses_4b (s : (dV × Int × Int × Int)) : Sum (dV × Int × Int × Int) (dP) := f_X12_crosses_4c (s.1) (s.2.1) (s.2.2.1) (s.2.2.2)

theorem f_X12_crosses_4e (V : dV) (a0 j4_1 j4_2 : Int) : f_X12_crosses_4b (V, a0, j4_1, j4_2) = f_X12_crosses_4c V a0 j4_1 j4_2 := rfl

noncomputable def f_X12_crosses (V : dV) (a0 : Int) : dP :=
  dv_lp (f_X12_crosses_4b) (V, a0, 0, 1)

noncomputable def f_X12_currents_97 (V : dV) (a0 p1 p2 j31_4 j31_3 s97_1 : Int) : Sum (dV × Int × Int × Int × Int × Int) (dP) :=
  dv_b (dv_add (j31_3) (s97_1)) fun x7 =>
  dv_b (j31_4 + 1) fun x8 =>
  Sum.inl (V, a0, p1, p2, x7, x8)

noncomputable def f_X12_currents_96 (V : dV) (a0 p1 p2 j31_4 j31_3 : Int) : Sum (dV × Int × Int × Int × Int × Int) (dP) :=
  f_X12_currents_97 (V) (a0) (p1) (p2) (j31_4) (j31_3) (0)

noncomputable def f_X12_currents_78 (V : dV) (a0 p1 p2 j31_4 j31_3 x10 s78_2 : Int) : Sum (dV × Int × Int × Int × Int × Int) (dP) :=
  dv_b (dv_add (x10) (s78_2)) fun x11 =>
  if x11 ≠ p1 then (
  f_X12_currents_96 (V) (a0) (p1) (p2) (j31_4) (j31_3)
  ) else (
  dv_b (29 + j31_4) fun x12 =>
  dv_b (V a0 2 (x12)) fun x13 =>
  f_X12_currents_97 (V) (a0) (p1) (p2) (j31_4) (j31_3) (x13)
  )

noncomputable def f_X12_currents_31c (V : dV) (a0 p1 p2 j31_3 j31_4 : Int) : Sum (dV × Int × Int × Int × Int × Int) (dP) :=
  dv_b2 (f_X12_many V (a0)) fun x5 _ =>
  if x5 ≤ j31_4 then (
  Sum.inr ((j31_3, ()))
  ) else (
  dv_b2 (f_X12_isLaid V (a0) (j31_4)) fun x6 _ =>
  if x6 = 0 then (
  f_X12_currents_96 (V) (a0) (p1) (p2) (j31_4) (j31_3)
  ) else (
  dv_b (18 + j31_4) fun x9 =>
  dv_b (V a0 2 (x9)) fun x10 =>
  if p2 ≠ 0 then (
  dv_b (29 + j31_4) fun x14 =>
  dv_b (V a0 2 (x14)) fun x15 =>
  f_X12_currents_78 (V) (a0) (p1) (p2) (j31_4) (j31_3) (x10) (x15)
  ) else (
  f_X12_currents_78 (V) (a0) (p1) (p2) (j31_4) (j31_3) (x10) (0)
  )
  )
  )
noncomputable def f_X12_currents_31b (s : (dV × Int × Int × Int × Int × Int)) : Sum (dV × Int × Int × Int × Int × Int) (dP) := f_X12_currents_31c (s.1) (s.2.1) (s.2.2.1) (s.2.2.2.1) (s.2.2.2.2.1) (s.2.2.2.2.2)

theorem f_X12_currents_31e (V : dV) (a0 p1 p2 j31_3 j31_4 : Int) : f_X12_currents_31b (V, a0, p1, p2, j31_3, j31_4) = f_X12_currents_31c V a0 p1 p2 j31_3 j31_4 := rfl

noncomputable def f_X12_currents (V : dV) (a0 p1 p2 : Int) : dP :=
  dv_b (V a0 2 (68)) fun x2 =>
  dv_b2 (f_X12_lies V (p1) (0) (x2)) fun x3 _ =>
  if x3 = 0 then (
  ((-1), ())
  ) else (
  dv_b2 (f_X12_lies V (p2) (0) (1)) fun x4 _ =>
  if x4 ≠ 0 then (
  dv_lp (f_X12_currents_31b) (V, a0, p1, p2, 0, 0)
  ) else (
  ((-1), ())
  )
  )

noncomputable def f_X12_alike_67 (V : dV) (a0 j4_2 j16_3 j16_1 s67_1 : Int) : Sum (dV × Int × Int × Int × Int) (Sum (dV × Int × Int × Int) (dP)) :=
  dv_b (dv_add (j16_1) (s67_1)) fun x6 =>
  dv_b (j16_3 + 1) fun x7 =>
  Sum.inl (V, a0, j4_2, x6, x7)

noncomputable def f_X12_alike_66 (V : dV) (a0 j4_2 j16_3 j16_1 : Int) : Sum (dV × Int × Int × Int × Int) (Sum (dV × Int × Int × Int) (dP)) :=
  f_X12_alike_67 (V) (a0) (j4_2) (j16_3) (j16_1) (0)

noncomputable def f_X12_alike_16c (V : dV) (a0 j4_2 j16_1 j16_3 : Int) : Sum (dV × Int × Int × Int × Int) (Sum (dV × Int × Int × Int) (dP)) :=
  dv_b2 (f_X12_many V (a0)) fun x3 _ =>
  if x3 ≤ j16_3 then (
  dv_b (j4_2 + 1) fun x4 =>
  Sum.inr (Sum.inl (V, a0, j16_1, x4))
  ) else (
  dv_b2 (f_X12_isLaid V (a0) (j4_2)) fun x5 _ =>
  if x5 = 0 then (
  f_X12_alike_66 (V) (a0) (j4_2) (j16_3) (j16_1)
  ) else (
  dv_b2 (f_X12_isLaid V (a0) (j16_3)) fun x8 _ =>
  if x8 = 0 then (
  f_X12_alike_66 (V) (a0) (j4_2) (j16_3) (j16_1)
  ) else (
  dv_b (29 + j4_2) fun x10 =>
  dv_b (V a0 2 (x10)) fun x11 =>
  dv_b (29 + j16_3) fun x12 =>
  dv_b (V a0 2 (x12)) fun x13 =>
  if x11 ≠ x13 then (
  f_X12_alike_66 (V) (a0) (j4_2) (j16_3) (j16_1)
  ) else (
  f_X12_alike_67 (V) (a0) (j4_2) (j16_3) (j16_1) (1)
  )
  )
  )
  )
noncomputable def f_X12_alike_16b (s : (dV × Int × Int × Int × Int)) : Sum (dV × Int × Int × Int × Int) (Sum (dV × Int × Int × Int) (dP)) := f_X12_alike_16c (s.1) (s.2.1) (s.2.2.1) (s.2.2.2.1) (s.2.2.2.2)

theorem f_X12_alike_16e (V : dV) (a0 j4_2 j16_1 j16_3 : Int) : f_X12_alike_16b (V, a0, j4_2, j16_1, j16_3) = f_X12_alike_16c V a0 j4_2 j16_1 j16_3 := rfl

noncomputable def f_X12_alike_4c (V : dV) (a0 j4_1 j4_2 : Int) : Sum (dV × Int × Int × Int) (dP) :=
  dv_b2 (f_X12_many V (a0)) fun x1 _ =>
  if x1 ≤ j4_2 then (
  Sum.inr ((j4_1, ()))
  ) else (
  dv_b (j4_2 + 1) fun x2 =>
  dv_lp (f_X12_alike_16b) (V, a0, j4_2, j4_1, x2)
  )
noncomputable def f_X12_alike_4b (s : (dV × Int × Int × Int)) : Sum (dV × Int × Int × Int) (dP) := f_X12_alike_4c (s.1) (s.2.1) (s.2.2.1) (s.2.2.2)

theorem f_X12_alike_4e (V : dV) (a0 j4_1 j4_2 : Int) : f_X12_alike_4b (V, a0, j4_1, j4_2) = f_X12_alike_4c V a0 j4_1 j4_2 := rfl

noncomputable def f_X12_alike (V : dV) (a0 : Int) : dP :=
  dv_lp (f_X12_alike_4b) (V, a0, 0, 0)

noncomputable def f_X12_firstBare_10c (V : dV) (a0 p1 p2 j2_3 j10_4 : Int) : Sum (dV × Int × Int × Int × Int × Int) (Sum (dV × Int × Int × Int × Int) (dP)) :=
  if p1 ≤ j10_4 then (
  dv_b (j2_3 + 1) fun x1 =>
  Sum.inr (Sum.inl (V, a0, p1, p2, x1))
  ) else (
  dv_b (V a0 29 (j2_3)) fun x3 =>
  dv_b2 (f_X12_isIn V (x3) (j10_4)) fun x4 _ =>
  if x4 ≠ 0 then (
  dv_b (j10_4 + 1) fun x5 =>
  Sum.inl (V, a0, p1, p2, j2_3, x5)
  ) else (
  dv_b (12 * j2_3) fun x6 =>
  dv_b (x6 + j10_4) fun x7 =>
  Sum.inr (Sum.inr ((x7, ())))
  )
  )
noncomputable def f_X12_firstBare_10b (s : (dV × Int × Int × Int × Int × Int)) : Sum (dV × Int × Int × Int × Int × Int) (Sum (dV × Int × Int × Int × Int) (dP)) := f_X12_firstBare_10c (s.1) (s.2.1) (s.2.2.1) (s.2.2.2.1) (s.2.2.2.2.1) (s.2.2.2.2.2)

theorem f_X12_firstBare_10e (V : dV) (a0 p1 p2 j2_3 j10_4 : Int) : f_X12_firstBare_10b (V, a0, p1, p2, j2_3, j10_4) = f_X12_firstBare_10c V a0 p1 p2 j2_3 j10_4 := rfl

noncomputable def f_X12_firstBare_2c (V : dV) (a0 p1 p2 j2_3 : Int) : Sum (dV × Int × Int × Int × Int) (dP) :=
  if p2 ≤ j2_3 then (
  Sum.inr (((-1), ()))
  ) else (
  dv_lp (f_X12_firstBare_10b) (V, a0, p1, p2, j2_3, 0)
  )
noncomputable def f_X12_firstBare_2b (s : (dV × Int × Int × Int × Int)) : Sum (dV × Int × Int × Int × Int) (dP) := f_X12_firstBare_2c (s.1) (s.2.1) (s.2.2.1) (s.2.2.2.1) (s.2.2.2.2)

theorem f_X12_firstBare_2e (V : dV) (a0 p1 p2 j2_3 : Int) : f_X12_firstBare_2b (V, a0, p1, p2, j2_3) = f_X12_firstBare_2c V a0 p1 p2 j2_3 := rfl

noncomputable def f_X12_firstBare (V : dV) (a0 p1 p2 : Int) : dP :=
  dv_lp (f_X12_firstBare_2b) (V, a0, p1, p2, 0)

noncomputable def f_X12_isFree_26c (V : dV) (a0 p1 p2 p3 j26_6 j26_7 : Int) : Sum (dV × Int × Int × Int × Int × Int × Int) (dP) :=
  dv_b (p3 + p1) fun x2 =>
  if x2 ≤ j26_7 then (
  Sum.inr ((j26_6, ()))
  ) else (
  if j26_6 = 0 then (
  Sum.inr ((j26_6, ()))
  ) else (
  dv_b (V a0 29 (j26_7)) fun x4 =>
  dv_b (dv_shl (1) (p1)) fun x5 =>
  dv_b (dv_sub (x5) (1)) fun x6 =>
  dv_b (dv_shl (x6) (p2)) fun x7 =>
  dv_b (dv_and (x4) (x7)) fun x8 =>
  if x8 ≠ 0 then (
  dv_b (j26_7 + 1) fun x9 =>
  Sum.inl (V, a0, p1, p2, p3, 0, x9)
  ) else (
  dv_b (j26_7 + 1) fun x10 =>
  Sum.inl (V, a0, p1, p2, p3, 1, x10)
  )
  )
  )
noncomputable def f_X12_isFree_26b (s : (dV × Int × Int × Int × Int × Int × Int)) : Sum (dV × Int × Int × Int × Int × Int × Int) (dP) := f_X12_isFree_26c (s.1) (s.2.1) (s.2.2.1) (s.2.2.2.1) (s.2.2.2.2.1) (s.2.2.2.2.2.1) (s.2.2.2.2.2.2)

theorem f_X12_isFree_26e (V : dV) (a0 p1 p2 p3 j26_6 j26_7 : Int) : f_X12_isFree_26b (V, a0, p1, p2, p3, j26_6, j26_7) = f_X12_isFree_26c V a0 p1 p2 p3 j26_6 j26_7 := rfl

noncomputable def f_X12_isFree_21 (V : dV) (a0 p1 p2 p3 s21_0 : Int) : dP :=
  dv_lp (f_X12_isFree_26b) (V, a0, p1, p2, p3, s21_0, p3)

noncomputable def f_X12_isFree_20 (V : dV) (a0 p1 p2 p3 : Int) : dP :=
  f_X12_isFree_21 (V) (a0) (p1) (p2) (p3) (0)

noncomputable def f_X12_isFree (V : dV) (a0 p1 p2 p3 p4 p5 : Int) : dP :=
  dv_b (p2 + p1) fun x1 =>
  if p4 < x1 then (
  f_X12_isFree_20 (V) (a0) (p1) (p2) (p3)
  ) else (
  dv_b (p3 + p1) fun x11 =>
  if p5 < x11 then (
  f_X12_isFree_20 (V) (a0) (p1) (p2) (p3)
  ) else (
  f_X12_isFree_21 (V) (a0) (p1) (p2) (p3) (1)
  )
  )

noncomputable def f_X12_carpetBehind_104 (V : dV) (a0 p1 p2 p3 j11_5 s104_0 : Int) : Sum (dV × Int × Int × Int × Int × Int × Int) (dP) :=
  dv_b (j11_5 + 1) fun x13 =>
  Sum.inl (V, a0, p1, p2, p3, s104_0, x13)

noncomputable def f_X12_carpetBehind_85 (V : dV) (a0 p1 p2 p3 j11_4 j11_5 s85_0 : Int) : Sum (dV × Int × Int × Int × Int × Int × Int) (dP) :=
  if s85_0 = 0 then (
  f_X12_carpetBehind_104 (V) (a0) (p1) (p2) (p3) (j11_5) (j11_4)
  ) else (
  dv_b (V a0 35 (j11_5)) fun x14 =>
  f_X12_carpetBehind_104 (V) (a0) (p1) (p2) (p3) (j11_5) (x14)
  )

noncomputable def f_X12_carpetBehind_84 (V : dV) (a0 p1 p2 p3 j11_4 j11_5 : Int) : Sum (dV × Int × Int × Int × Int × Int × Int) (dP) :=
  f_X12_carpetBehind_85 (V) (a0) (p1) (p2) (p3) (j11_4) (j11_5) (0)

noncomputable def f_X12_carpetBehind_11c (V : dV) (a0 p1 p2 p3 j11_4 j11_5 : Int) : Sum (dV × Int × Int × Int × Int × Int × Int) (dP) :=
  if p1 ≤ j11_5 then (
  Sum.inr ((j11_4, ()))
  ) else (
  dv_b (V a0 35 (j11_5)) fun x4 =>
  dv_b (29 + x4) fun x5 =>
  dv_b (V a0 2 (x5)) fun x6 =>
  dv_b (V a0 36 (j11_5)) fun x8 =>
  dv_b (x8 % 12) fun x9 =>
  dv_b (dv_sub (p2) (x9)) fun x10 =>
  dv_b (x6 - 1) fun x11 =>
  dv_b2 (f_X12_lies V (x10) (0) (x11)) fun x12 _ =>
  if x12 = 0 then (
  f_X12_carpetBehind_84 (V) (a0) (p1) (p2) (p3) (j11_4) (j11_5)
  ) else (
  dv_b (V a0 36 (j11_5)) fun x15 =>
  dv_b (x15 / 12) fun x16 =>
  dv_b (dv_sub (p3) (x16)) fun x17 =>
  dv_b (x6 - 1) fun x18 =>
  dv_b2 (f_X12_lies V (x17) (0) (x18)) fun x19 _ =>
  if x19 = 0 then (
  f_X12_carpetBehind_84 (V) (a0) (p1) (p2) (p3) (j11_4) (j11_5)
  ) else (
  f_X12_carpetBehind_85 (V) (a0) (p1) (p2) (p3) (j11_4) (j11_5) (1)
  )
  )
  )
noncomputable def f_X12_carpetBehind_11b (s : (dV × Int × Int × Int × Int × Int × Int)) : Sum (dV × Int × Int × Int × Int × Int × Int) (dP) := f_X12_carpetBehind_11c (s.1) (s.2.1) (s.2.2.1) (s.2.2.2.1) (s.2.2.2.2.1) (s.2.2.2.2.2.1) (s.2.2.2.2.2.2)

theorem f_X12_carpetBehind_11e (V : dV) (a0 p1 p2 p3 j11_4 j11_5 : Int) : f_X12_carpetBehind_11b (V, a0, p1, p2, p3, j11_4, j11_5) = f_X12_carpetBehind_11c V a0 p1 p2 p3 j11_4 j11_5 := rfl

noncomputable def f_X12_carpetBehind (V : dV) (a0 p1 p2 p3 : Int) : dP :=
  dv_b2 (f_X12_at V (a0) (p2) (p3)) fun x1 _ =>
  dv_lp (f_X12_carpetBehind_11b) (V, a0, p1, p2, p3, x1, 0)

noncomputable def f_X12_isSeenSo_87 (V : dV) (a0 p1 j4_3 s87_0 : Int) : Sum (dV × Int × Int × Int × Int) (dP) :=
  dv_b (j4_3 + 1) fun x11 =>
  Sum.inl (V, a0, p1, s87_0, x11)

noncomputable def f_X12_isSeenSo_86 (V : dV) (a0 p1 j4_3 : Int) : Sum (dV × Int × Int × Int × Int) (dP) :=
  f_X12_isSeenSo_87 (V) (a0) (p1) (j4_3) (0)

noncomputable def f_X12_isSeenSo_4c (V : dV) (a0 p1 j4_2 j4_3 : Int) : Sum (dV × Int × Int × Int × Int) (dP) :=
  dv_b (V a0 2 (70)) fun x2 =>
  if x2 ≤ j4_3 then (
  Sum.inr ((j4_2, ()))
  ) else (
  if j4_2 = 0 then (
  Sum.inr ((j4_2, ()))
  ) else (
  dv_b (3 * j4_3) fun x3 =>
  dv_b (47 + x3) fun x4 =>
  dv_b (V a0 2 (x4)) fun x5 =>
  dv_b (3 * j4_3) fun x6 =>
  dv_b (47 + x6) fun x7 =>
  dv_b (x7 + 1) fun x8 =>
  dv_b (V a0 2 (x8)) fun x9 =>
  dv_b2 (f_X12_carpetBehind V (a0) (p1) (x5) (x9)) fun x10 _ =>
  if x10 = (-1) then (
  f_X12_isSeenSo_86 (V) (a0) (p1) (j4_3)
  ) else (
  dv_b (29 + x10) fun x12 =>
  dv_b (V a0 2 (x12)) fun x13 =>
  dv_b (3 * j4_3) fun x14 =>
  dv_b (47 + x14) fun x15 =>
  dv_b (x15 + 2) fun x16 =>
  dv_b (V a0 2 (x16)) fun x17 =>
  if x13 ≠ x17 then (
  f_X12_isSeenSo_86 (V) (a0) (p1) (j4_3)
  ) else (
  f_X12_isSeenSo_87 (V) (a0) (p1) (j4_3) (1)
  )
  )
  )
  )
noncomputable def f_X12_isSeenSo_4b (s : (dV × Int × Int × Int × Int)) : Sum (dV × Int × Int × Int × Int) (dP) := f_X12_isSeenSo_4c (s.1) (s.2.1) (s.2.2.1) (s.2.2.2.1) (s.2.2.2.2)

theorem f_X12_isSeenSo_4e (V : dV) (a0 p1 j4_2 j4_3 : Int) : f_X12_isSeenSo_4b (V, a0, p1, j4_2, j4_3) = f_X12_isSeenSo_4c V a0 p1 j4_2 j4_3 := rfl

noncomputable def f_X12_isSeenSo (V : dV) (a0 p1 : Int) : dP :=
  dv_lp (f_X12_isSeenSo_4b) (V, a0, p1, 1, 0)

noncomputable def f_X12_count (V : dV) (a0 p1 : Int) : dP :=
  if p1 = 0 then (
  dv_b2 (f_X12_many V (a0)) fun x1 _ =>
  (x1, ())
  ) else (
  if p1 = 1 then (
  dv_b2 (f_X12_laidMany V (a0)) fun x2 _ =>
  (x2, ())
  ) else (
  if p1 = 2 then (
  dv_b2 (f_X12_ragMany V (a0)) fun x3 _ =>
  (x3, ())
  ) else (
  if p1 = 3 then (
  dv_b (V a0 2 (27)) fun x5 =>
  (x5, ())
  ) else (
  if p1 = 4 then (
  dv_b (V a0 2 (70)) fun x7 =>
  (x7, ())
  ) else (
  if p1 = 5 then (
  dv_b (V a0 2 (71)) fun x9 =>
  (x9, ())
  ) else (
  if p1 = 6 then (
  dv_b (V a0 33 0) fun zz1 =>
  (zz1, ())
  ) else (
  if p1 = 7 then (
  dv_b (V a0 13 0) fun zz2 =>
  (zz2, ())
  ) else (
  if p1 = 8 then (
  dv_b (p1 - 7) fun x13 =>
  dv_b (V a0 1 (x13)) fun x14 =>
  (x14, ())
  ) else (
  if p1 = 9 then (
  dv_b (p1 - 7) fun x16 =>
  dv_b (V a0 1 (x16)) fun x17 =>
  (x17, ())
  ) else (
  if p1 = 10 then (
  dv_b (p1 - 7) fun x19 =>
  dv_b (V a0 1 (x19)) fun x20 =>
  (x20, ())
  ) else (
  if p1 = 11 then (
  dv_b (V a0 1 (5)) fun x22 =>
  (x22, ())
  ) else (
  if p1 = 12 then (
  dv_b (V a0 1 (6)) fun x24 =>
  (x24, ())
  ) else (
  if p1 = 13 then (
  dv_b (V a0 2 (72)) fun x26 =>
  (x26, ())
  ) else (
  if p1 = 14 then (
  dv_b (p1 - 14) fun x28 =>
  dv_b2 (f_X12_termAt V (x28)) fun x29 _ =>
  dv_b (V a0 2 (x29)) fun x30 =>
  (x30, ())
  ) else (
  if p1 = 15 then (
  dv_b (p1 - 14) fun x32 =>
  dv_b2 (f_X12_termAt V (x32)) fun x33 _ =>
  dv_b (V a0 2 (x33)) fun x34 =>
  (x34, ())
  ) else (
  if p1 = 16 then (
  dv_b (p1 - 14) fun x36 =>
  dv_b2 (f_X12_termAt V (x36)) fun x37 _ =>
  dv_b (V a0 2 (x37)) fun x38 =>
  (x38, ())
  ) else (
  if p1 = 17 then (
  dv_b (V a0 2 (67)) fun x40 =>
  (x40, ())
  ) else (
  if p1 = 18 then (
  dv_b (V a0 2 (68)) fun x42 =>
  (x42, ())
  ) else (
  ((-1), ())
  )))))))))))))))))))

noncomputable def f_X12_codeAt (V : dV) (a0 p1 : Int) : dP :=
  dv_b (V a0 23 0) fun zz1 =>
  if zz1 ≤ p1 then (
  (0, ())
  ) else (
  dv_b (80 + p1) fun x4 =>
  dv_b (V a0 2 (x4)) fun x5 =>
  (x5, ())
  )

noncomputable def f_X12_passes0 (V : dV) (a0 p1 : Int) : dR :=
  dv_b (V a0 22 0) fun zz1 =>
  dv_b2 (f_X12_codeAt V (a0) (zz1)) fun x3 _ =>
  if x3 ≠ p1 then (
  (V, 0)
  ) else (
  dv_b (V a0 22 0) fun zz2 =>
  dv_b (zz2 + 1) fun x5 =>
  dv_b (dv_u V a0 22 0 (x5)) fun V29 =>
  (V29, 1)
  )

noncomputable def f_X12_bounded_25 (V : dV) (a0 p1 : Int) : dR :=
  dv_b (V a0 24 0) fun zz1 =>
  if zz1 = 0 then (
  (V, p1)
  ) else (
  (V, 0)
  )

noncomputable def f_X12_bounded_20 (V : dV) (a0 p1 : Int) : dR :=
  dv_b (dv_u V a0 24 0 (1)) fun V22 =>
  f_X12_bounded_25 (V22) (a0) (p1)

noncomputable def f_X12_bounded (V : dV) (a0 p1 p2 : Int) : dR :=
  if p2 = 0 then (
  f_X12_bounded_25 (V) (a0) (p1)
  ) else (
  dv_b (dv_lcmp (p1) (1000000000)) fun x2 =>
  if 0 < x2 then (
  f_X12_bounded_20 (V) (a0) (p1)
  ) else (
  dv_b (dv_lcmp (p1) ((-1000000000))) fun x4 =>
  if 0 ≤ x4 then (
  f_X12_bounded_25 (V) (a0) (p1)
  ) else (
  f_X12_bounded_20 (V) (a0) (p1)
  )
  )
  )

noncomputable def f_X12_orderValue (V : dV) (a0 p1 p2 : Int) : dP :=
  if p1 = 14 then (
  dv_b2 (f_X12_isCarpet V (a0) (p2)) fun x1 _ =>
  if x1 = 0 then (
  ((-1), ())
  ) else (
  dv_b (0 + p2) fun x3 =>
  dv_b (V a0 2 (x3)) fun x4 =>
  (x4, ())
  )
  ) else (
  if p1 = 15 then (
  dv_b (V a0 2 (28)) fun x6 =>
  (x6, ())
  ) else (
  if p1 = 16 then (
  dv_b (V a0 27 0) fun zz1 =>
  (zz1, ())
  ) else (
  if p1 = 17 then (
  dv_b (V a0 28 0) fun zz2 =>
  (zz2, ())
  ) else (
  if p1 = 18 then (
  dv_b2 (f_X12_bareMany V (a0)) fun x9 _ =>
  (x9, ())
  ) else (
  if p1 = 19 then (
  dv_b (V a0 2 (27)) fun x11 =>
  (x11, ())
  ) else (
  if p1 = 20 then (
  dv_b2 (f_X12_isCarpet V (a0) (p2)) fun x12 _ =>
  if x12 ≠ 0 then (
  dv_b2 (f_X12_isLaid V (a0) (p2)) fun x13 _ =>
  if x13 = 0 then (
  (0, ())
  ) else (
  (1, ())
  )
  ) else (
  ((-1), ())
  )
  ) else (
  dv_b (V a0 2 (27)) fun x15 =>
  (x15, ())
  )))))))

noncomputable def f_X12_partOf_94 (d : Nat) (rc : dV → Int → Int → dR) (V : dV) (x5 a0 p1 j94_3 : Int) : dR :=
  if p1 = 0 then (
  (V, 0)
  ) else (
  dv_b (V a0 24 0) fun zz4 =>
  if zz4 = 0 then (
  if x5 ≠ 50 then (
  dv_b (V a0 25 0) fun zz5 =>
  if zz5 = 0 then (
  dv_b (x5 - 8) fun x17 =>
  dv_b (V a0 26 (x17)) fun x18 =>
  dv_b (x18) fun y19 =>
  (V, y19)
  ) else (
  dv_b2 (f_X12_orderValue V (a0) (x5) (j94_3)) fun x20 _ =>
  dv_b (x20) fun y21 =>
  (V, y21)
  )
  ) else (
  dv_b (V a0 22 0) fun zz6 =>
  dv_b (2880 + zz6) fun x25 =>
  dv_b (x25 - 1) fun x26 =>
  dv_b (V a0 2 (x26)) fun x27 =>
  dv_b (x27) fun y28 =>
  (V, y28)
  )
  ) else (
  (V, 0)
  )
  )

noncomputable def f_X12_partOf_70 (d : Nat) (rc : dV → Int → Int → dR) (V : dV) (x5 a0 p1 : Int) : dR :=
  dv_b (V a0 22 0) fun zz7 =>
  dv_b (2880 + zz7) fun x31 =>
  dv_b (V a0 2 (x31)) fun x32 =>
  dv_b (V a0 22 0) fun zz8 =>
  dv_b (zz8 + 1) fun x34 =>
  dv_b (dv_u V a0 22 0 (x34)) fun V91 =>
  f_X12_partOf_94 d rc (V91) (x5) (a0) (p1) (x32)

noncomputable def f_X12_partOf_B (d : Nat) (rc : dV → Int → Int → dR) (V : dV) (a0 p1 : Int) : dR :=
  dv_b2 (f_X12_sign V (91)) fun x1 _ =>
  dv_b2 (f_X12_passes0 V (a0) (x1)) fun V6 x2 =>
  if x2 = 0 then (
  dv_b (V6 a0 22 0) fun zz1 =>
  dv_b2 (f_X12_codeAt V6 (a0) (zz1)) fun x5 _ =>
  dv_b (V6 a0 22 0) fun zz2 =>
  dv_b (zz2 + 1) fun x7 =>
  dv_b (dv_u V6 a0 22 0 (x7)) fun V48 =>
  dv_b (V48 a0 25 0) fun zz3 =>
  if zz3 = 0 then (
  f_X12_partOf_94 d rc (V48) (x5) (a0) (p1) (0)
  ) else (
  if x5 = 14 then (
  f_X12_partOf_70 d rc (V48) (x5) (a0) (p1)
  ) else (
  if x5 ≠ 20 then (
  f_X12_partOf_94 d rc (V48) (x5) (a0) (p1) (0)
  ) else (
  f_X12_partOf_70 d rc (V48) (x5) (a0) (p1)
  )
  )
  )
  ) else (
  dv_b2 (rc V6 (a0) (p1)) fun V14 y38 =>
  dv_b (V14 a0 22 0) fun zz9 =>
  dv_b (zz9 + 1) fun x41 =>
  dv_b (dv_u V14 a0 22 0 (x41)) fun V25 =>
  (V25, y38)
  )

noncomputable def f_X12_termOf_160 (d : Nat) (rc : dV → Int → Int → dR) (V : dV) (a0 p1 s160_1 : Int) : Sum (dV × Int × Int × Int) (dR) :=
  dv_b2 (f_X12_bounded V (a0) (s160_1) (p1)) fun V161 y18 =>
  Sum.inl (V161, a0, p1, y18)

noncomputable def f_X12_termOf_121 (d : Nat) (rc : dV → Int → Int → dR) (V : dV) (x9 a0 p1 j6_2 j121_5 : Int) : Sum (dV × Int × Int × Int) (dR) :=
  dv_b2 (f_X12_sign V (42)) fun x17 _ =>
  if x9 ≠ x17 then (
  dv_b2 (f_X12_sign V (47)) fun x19 _ =>
  if x9 ≠ x19 then (
  dv_b (dv_lrem (j6_2) (j121_5)) fun y20 =>
  f_X12_termOf_160 d rc (V) (a0) (p1) (y20)
  ) else (
  dv_b (dv_ldiv (j6_2) (j121_5)) fun y21 =>
  f_X12_termOf_160 d rc (V) (a0) (p1) (y21)
  )
  ) else (
  dv_b (dv_lmul (j6_2) (j121_5)) fun y22 =>
  f_X12_termOf_160 d rc (V) (a0) (p1) (y22)
  )

noncomputable def f_X12_termOf_115 (d : Nat) (rc : dV → Int → Int → dR) (V : dV) (x9 a0 p1 j6_2 s115_1 : Int) : Sum (dV × Int × Int × Int) (dR) :=
  dv_b (dv_u V a0 24 0 (s115_1)) fun V115 =>
  f_X12_termOf_121 d rc (V115) (x9) (a0) (p1) (j6_2) (1)

noncomputable def f_X12_termOf_110 (d : Nat) (rc : dV → Int → Int → dR) (V : dV) (x9 a0 p1 j6_2 : Int) : Sum (dV × Int × Int × Int) (dR) :=
  f_X12_termOf_115 d rc (V) (x9) (a0) (p1) (j6_2) (1)

noncomputable def f_X12_termOf_54 (d : Nat) (rc : dV → Int → Int → dR) (V : dV) (a0 p1 j6_2 : Int) : Sum (dV × Int × Int × Int) (dR) :=
  dv_b (V a0 22 0) fun zz2 =>
  dv_b2 (f_X12_codeAt V (a0) (zz2)) fun x9 _ =>
  dv_b (V a0 22 0) fun zz3 =>
  dv_b (zz3 + 1) fun x11 =>
  dv_b (dv_u V a0 22 0 (x11)) fun V71 =>
  dv_b2 (rc V71 (a0) (p1)) fun V76 y13 =>
  dv_b2 (f_X12_sign V76 (42)) fun x14 _ =>
  if x9 = x14 then (
  f_X12_termOf_121 d rc (V76) (x9) (a0) (p1) (j6_2) (y13)
  ) else (
  dv_b (dv_lcmp (y13) (0)) fun x23 =>
  if x23 ≠ 0 then (
  f_X12_termOf_121 d rc (V76) (x9) (a0) (p1) (j6_2) (y13)
  ) else (
  dv_b (V76 a0 24 0) fun zz4 =>
  if zz4 ≠ 0 then (
  f_X12_termOf_110 d rc (V76) (x9) (a0) (p1) (j6_2)
  ) else (
  if p1 = 0 then (
  f_X12_termOf_115 d rc (V76) (x9) (a0) (p1) (j6_2) (0)
  ) else (
  f_X12_termOf_110 d rc (V76) (x9) (a0) (p1) (j6_2)
  )
  )
  )
  )

noncomputable def f_X12_termOf_6c (d : Nat) (rc : dV → Int → Int → dR) (V : dV) (a0 p1 j6_2 : Int) : Sum (dV × Int × Int × Int) (dR) :=
  dv_b (V a0 22 0) fun zz1 =>
  dv_b2 (f_X12_codeAt V (a0) (zz1)) fun x6 _ =>
  dv_b2 (f_X12_sign V (42)) fun x7 _ =>
  if x6 = x7 then (
  f_X12_termOf_54 d rc (V) (a0) (p1) (j6_2)
  ) else (
  dv_b (V a0 22 0) fun zz5 =>
  dv_b2 (f_X12_codeAt V (a0) (zz5)) fun x27 _ =>
  dv_b2 (f_X12_sign V (47)) fun x28 _ =>
  if x27 = x28 then (
  f_X12_termOf_54 d rc (V) (a0) (p1) (j6_2)
  ) else (
  dv_b (V a0 22 0) fun zz6 =>
  dv_b2 (f_X12_codeAt V (a0) (zz6)) fun x30 _ =>
  dv_b2 (f_X12_sign V (37)) fun x31 _ =>
  if x30 ≠ x31 then (
  Sum.inr ((V, j6_2))
  ) else (
  f_X12_termOf_54 d rc (V) (a0) (p1) (j6_2)
  )
  )
  )
noncomputable def f_X12_termOf_6b (d : Nat) (rc : dV → Int → Int → dR) (s : (dV × Int × Int × Int)) : Sum (dV × Int × Int × Int) (dR) := f_X12_termOf_6c d rc (s.1) (s.2.1) (s.2.2.1) (s.2.2.2)

theorem f_X12_termOf_6e (d : Nat) (rc : dV → Int → Int → dR) (V : dV) (a0 p1 j6_2 : Int) : f_X12_termOf_6b d rc (V, a0, p1, j6_2) = f_X12_termOf_6c d rc V a0 p1 j6_2 := rfl

noncomputable def f_X12_termOf_B (d : Nat) (rc : dV → Int → Int → dR) (V : dV) (a0 p1 : Int) : dR :=
  dv_b2 (rc V (a0) (p1)) fun V2 y1 =>
  dv_lp (f_X12_termOf_6b d rc) (V2, a0, p1, y1)

noncomputable def f_X12_sumOf_95 (d : Nat) (rc : dV → Int → Int → dR) (V : dV) (a0 p1 s95_1 : Int) : Sum (dV × Int × Int × Int) (dR) :=
  dv_b2 (f_X12_bounded V (a0) (s95_1) (p1)) fun V96 y15 =>
  Sum.inl (V96, a0, p1, y15)

noncomputable def f_X12_sumOf_59 (d : Nat) (rc : dV → Int → Int → dR) (V : dV) (a0 p1 j6_2 s59_0 : Int) : Sum (dV × Int × Int × Int) (dR) :=
  dv_b (V a0 22 0) fun zz3 =>
  dv_b (zz3 + 1) fun x12 =>
  dv_b (dv_u V a0 22 0 (x12)) fun V68 =>
  dv_b2 (rc V68 (a0) (p1)) fun V73 y14 =>
  if s59_0 = 0 then (
  dv_b (dv_lsub (j6_2) (y14)) fun y16 =>
  f_X12_sumOf_95 d rc (V73) (a0) (p1) (y16)
  ) else (
  dv_b (dv_ladd (j6_2) (y14)) fun y17 =>
  f_X12_sumOf_95 d rc (V73) (a0) (p1) (y17)
  )

noncomputable def f_X12_sumOf_38 (d : Nat) (rc : dV → Int → Int → dR) (V : dV) (a0 p1 j6_2 : Int) : Sum (dV × Int × Int × Int) (dR) :=
  dv_b (V a0 22 0) fun zz2 =>
  dv_b2 (f_X12_codeAt V (a0) (zz2)) fun x9 _ =>
  dv_b2 (f_X12_sign V (43)) fun x10 _ =>
  if x9 ≠ x10 then (
  f_X12_sumOf_59 d rc (V) (a0) (p1) (j6_2) (0)
  ) else (
  f_X12_sumOf_59 d rc (V) (a0) (p1) (j6_2) (1)
  )

noncomputable def f_X12_sumOf_6c (d : Nat) (rc : dV → Int → Int → dR) (V : dV) (a0 p1 j6_2 : Int) : Sum (dV × Int × Int × Int) (dR) :=
  dv_b (V a0 22 0) fun zz1 =>
  dv_b2 (f_X12_codeAt V (a0) (zz1)) fun x6 _ =>
  dv_b2 (f_X12_sign V (43)) fun x7 _ =>
  if x6 = x7 then (
  f_X12_sumOf_38 d rc (V) (a0) (p1) (j6_2)
  ) else (
  dv_b (V a0 22 0) fun zz4 =>
  dv_b2 (f_X12_codeAt V (a0) (zz4)) fun x19 _ =>
  dv_b2 (f_X12_sign V (45)) fun x20 _ =>
  if x19 ≠ x20 then (
  Sum.inr ((V, j6_2))
  ) else (
  f_X12_sumOf_38 d rc (V) (a0) (p1) (j6_2)
  )
  )
noncomputable def f_X12_sumOf_6b (d : Nat) (rc : dV → Int → Int → dR) (s : (dV × Int × Int × Int)) : Sum (dV × Int × Int × Int) (dR) := f_X12_sumOf_6c d rc (s.1) (s.2.1) (s.2.2.1) (s.2.2.2)

theorem f_X12_sumOf_6e (d : Nat) (rc : dV → Int → Int → dR) (V : dV) (a0 p1 j6_2 : Int) : f_X12_sumOf_6b d rc (V, a0, p1, j6_2) = f_X12_sumOf_6c d rc V a0 p1 j6_2 := rfl

noncomputable def f_X12_sumOf_B (d : Nat) (rc : dV → Int → Int → dR) (V : dV) (a0 p1 : Int) : dR :=
  dv_b2 (rc V (a0) (p1)) fun V2 y1 =>
  dv_lp (f_X12_sumOf_6b d rc) (V2, a0, p1, y1)

noncomputable def f_X12_sumOf : Nat → dV → Int → Int → dR
  | 0 => (f_X12_sumOf_B 0 (f_X12_termOf_B 0 (f_X12_partOf_B 0 (fun _ _ _ => dv_z))))
  | d + 1 => (f_X12_sumOf_B (d + 1) (f_X12_termOf_B (d + 1) (f_X12_partOf_B (d + 1) (f_X12_sumOf d))))

noncomputable def f_X12_partOf (d : Nat) : dV → Int → Int → dR := f_X12_partOf_B d (dv_pre (fun _ _ _ => dv_z) f_X12_sumOf d)

theorem f_X12_partOf_d (d : Nat) (V : dV) (a0 p1 : Int) : f_X12_partOf d V a0 p1 = f_X12_partOf_B d (dv_pre (fun _ _ _ => dv_z) f_X12_sumOf d) V a0 p1 := rfl

noncomputable def f_X12_termOf (d : Nat) : dV → Int → Int → dR := f_X12_termOf_B d (f_X12_partOf d)

theorem f_X12_termOf_d (d : Nat) (V : dV) (a0 p1 : Int) : f_X12_termOf d V a0 p1 = f_X12_termOf_B d (f_X12_partOf d) V a0 p1 := rfl

theorem f_X12_sumOf_d (d : Nat) (V : dV) (a0 p1 : Int) : f_X12_sumOf d V a0 p1 = f_X12_sumOf_B d (f_X12_termOf d) V a0 p1 := by cases d <;> rfl

noncomputable def f_X12_positiveOf_B (d : Nat) (rc : dV → Int → Int → dR) (V : dV) (a0 p1 : Int) : dR :=
  dv_b2 (f_X12_sign V (40)) fun x1 _ =>
  dv_b2 (f_X12_passes0 V (a0) (x1)) fun V6 x2 =>
  if x2 = 0 then (
  dv_b2 (f_X12_sumOf d V6 (a0) (p1)) fun V32 y3 =>
  dv_b (V32 a0 22 0) fun zz1 =>
  dv_b2 (f_X12_codeAt V32 (a0) (zz1)) fun x6 _ =>
  dv_b (V32 a0 22 0) fun zz2 =>
  dv_b (zz2 + 1) fun x8 =>
  dv_b (dv_u V32 a0 22 0 (x8)) fun V53 =>
  dv_b2 (f_X12_sumOf d V53 (a0) (p1)) fun V58 y9 =>
  if p1 = 0 then (
  (V58, 0)
  ) else (
  dv_b (V58 a0 24 0) fun zz3 =>
  if zz3 ≠ 0 then (
  (V58, 0)
  ) else (
  dv_b2 (f_X12_sign V58 (60)) fun x11 _ =>
  if x6 ≠ x11 then (
  dv_b2 (f_X12_sign V58 (62)) fun x12 _ =>
  if x6 ≠ x12 then (
  dv_b (dv_lcmp (y3) (y9)) fun x13 =>
  if x13 ≠ 0 then (
  (V58, 0)
  ) else (
  (V58, 1)
  )
  ) else (
  dv_b (dv_lcmp (y3) (y9)) fun x14 =>
  if x14 ≤ 0 then (
  (V58, 0)
  ) else (
  (V58, 1)
  )
  )
  ) else (
  dv_b (dv_lcmp (y3) (y9)) fun x15 =>
  if 0 ≤ x15 then (
  (V58, 0)
  ) else (
  (V58, 1)
  )
  )
  )
  )
  ) else (
  dv_b2 (rc V6 (a0) (p1)) fun V14 x16 =>
  dv_b (V14 a0 22 0) fun zz4 =>
  dv_b (zz4 + 1) fun x19 =>
  dv_b (dv_u V14 a0 22 0 (x19)) fun V25 =>
  (V25, x16)
  )

noncomputable def f_X12_plainOf_20 (d : Nat) (rc : dV → Int → Int → dR) (V : dV) (a0 p1 s20_0 : Int) : Sum (dV × Int × Int × Int) (dR) :=
  Sum.inl (V, a0, p1, s20_0)

noncomputable def f_X12_plainOf_2c (d : Nat) (rc : dV → Int → Int → dR) (V : dV) (a0 p1 j2_2 : Int) : Sum (dV × Int × Int × Int) (dR) :=
  dv_b2 (f_X12_passes0 V (a0) (7)) fun V5 x3 =>
  if x3 = 0 then (
  dv_b2 (rc V5 (a0) (p1)) fun V26 x4 =>
  if x4 = j2_2 then (
  Sum.inr ((V26, 0))
  ) else (
  Sum.inr ((V26, 1))
  )
  ) else (
  if j2_2 ≠ 0 then (
  f_X12_plainOf_20 d rc (V5) (a0) (p1) (0)
  ) else (
  f_X12_plainOf_20 d rc (V5) (a0) (p1) (1)
  )
  )
noncomputable def f_X12_plainOf_2b (d : Nat) (rc : dV → Int → Int → dR) (s : (dV × Int × Int × Int)) : Sum (dV × Int × Int × Int) (dR) := f_X12_plainOf_2c d rc (s.1) (s.2.1) (s.2.2.1) (s.2.2.2)

theorem f_X12_plainOf_2e (d : Nat) (rc : dV → Int → Int → dR) (V : dV) (a0 p1 j2_2 : Int) : f_X12_plainOf_2b d rc (V, a0, p1, j2_2) = f_X12_plainOf_2c d rc V a0 p1 j2_2 := rfl

noncomputable def f_X12_plainOf_B (d : Nat) (rc : dV → Int → Int → dR) (V : dV) (a0 p1 : Int) : dR :=
  dv_lp (f_X12_plainOf_2b d rc) (V, a0, p1, 0)

noncomputable def f_X12_bothOf_46 (d : Nat) (rc : dV → Int → Int → dR) (V : dV) (a0 p1 s46_0 : Int) : Sum (dV × Int × Int × Int) (dR) :=
  Sum.inl (V, a0, p1, s46_0)

noncomputable def f_X12_bothOf_45 (d : Nat) (rc : dV → Int → Int → dR) (V : dV) (a0 p1 : Int) : Sum (dV × Int × Int × Int) (dR) :=
  f_X12_bothOf_46 d rc (V) (a0) (p1) (0)

noncomputable def f_X12_bothOf_29 (d : Nat) (rc : dV → Int → Int → dR) (V : dV) (a0 p1 j6_2 s29_1 : Int) : Sum (dV × Int × Int × Int) (dR) :=
  dv_b2 (rc V (a0) (s29_1)) fun V29 x5 =>
  if j6_2 = 0 then (
  f_X12_bothOf_45 d rc (V29) (a0) (p1)
  ) else (
  if x5 = 0 then (
  f_X12_bothOf_45 d rc (V29) (a0) (p1)
  ) else (
  f_X12_bothOf_46 d rc (V29) (a0) (p1) (1)
  )
  )

noncomputable def f_X12_bothOf_28 (d : Nat) (rc : dV → Int → Int → dR) (V : dV) (a0 p1 j6_2 : Int) : Sum (dV × Int × Int × Int) (dR) :=
  f_X12_bothOf_29 d rc (V) (a0) (p1) (j6_2) (0)

noncomputable def f_X12_bothOf_6c (d : Nat) (rc : dV → Int → Int → dR) (V : dV) (a0 p1 j6_2 : Int) : Sum (dV × Int × Int × Int) (dR) :=
  dv_b2 (f_X12_passes0 V (a0) (6)) fun V9 x4 =>
  if x4 = 0 then (
  Sum.inr ((V9, j6_2))
  ) else (
  if p1 = 0 then (
  f_X12_bothOf_28 d rc (V9) (a0) (p1) (j6_2)
  ) else (
  if j6_2 = 0 then (
  f_X12_bothOf_28 d rc (V9) (a0) (p1) (j6_2)
  ) else (
  f_X12_bothOf_29 d rc (V9) (a0) (p1) (j6_2) (1)
  )
  )
  )
noncomputable def f_X12_bothOf_6b (d : Nat) (rc : dV → Int → Int → dR) (s : (dV × Int × Int × Int)) : Sum (dV × Int × Int × Int) (dR) := f_X12_bothOf_6c d rc (s.1) (s.2.1) (s.2.2.1) (s.2.2.2)

theorem f_X12_bothOf_6e (d : Nat) (rc : dV → Int → Int → dR) (V : dV) (a0 p1 j6_2 : Int) : f_X12_bothOf_6b d rc (V, a0, p1, j6_2) = f_X12_bothOf_6c d rc V a0 p1 j6_2 := rfl

noncomputable def f_X12_bothOf_B (d : Nat) (rc : dV → Int → Int → dR) (V : dV) (a0 p1 : Int) : dR :=
  dv_b2 (rc V (a0) (p1)) fun V2 x1 =>
  dv_lp (f_X12_bothOf_6b d rc) (V2, a0, p1, x1)

noncomputable def f_X12_testOf_45 (d : Nat) (rc : dV → Int → Int → dR) (V : dV) (a0 p1 s45_0 : Int) : Sum (dV × Int × Int × Int) (dR) :=
  Sum.inl (V, a0, p1, s45_0)

noncomputable def f_X12_testOf_40 (d : Nat) (rc : dV → Int → Int → dR) (V : dV) (a0 p1 : Int) : Sum (dV × Int × Int × Int) (dR) :=
  f_X12_testOf_45 d rc (V) (a0) (p1) (1)

noncomputable def f_X12_testOf_28 (d : Nat) (rc : dV → Int → Int → dR) (V : dV) (a0 p1 j6_2 s28_1 : Int) : Sum (dV × Int × Int × Int) (dR) :=
  dv_b2 (rc V (a0) (s28_1)) fun V28 x5 =>
  if j6_2 ≠ 0 then (
  f_X12_testOf_40 d rc (V28) (a0) (p1)
  ) else (
  if x5 = 0 then (
  f_X12_testOf_45 d rc (V28) (a0) (p1) (0)
  ) else (
  f_X12_testOf_40 d rc (V28) (a0) (p1)
  )
  )

noncomputable def f_X12_testOf_27 (d : Nat) (rc : dV → Int → Int → dR) (V : dV) (a0 p1 j6_2 : Int) : Sum (dV × Int × Int × Int) (dR) :=
  f_X12_testOf_28 d rc (V) (a0) (p1) (j6_2) (0)

noncomputable def f_X12_testOf_6c (d : Nat) (rc : dV → Int → Int → dR) (V : dV) (a0 p1 j6_2 : Int) : Sum (dV × Int × Int × Int) (dR) :=
  dv_b2 (f_X12_passes0 V (a0) (5)) fun V8 x4 =>
  if x4 = 0 then (
  Sum.inr ((V8, j6_2))
  ) else (
  if p1 = 0 then (
  f_X12_testOf_27 d rc (V8) (a0) (p1) (j6_2)
  ) else (
  if j6_2 ≠ 0 then (
  f_X12_testOf_27 d rc (V8) (a0) (p1) (j6_2)
  ) else (
  f_X12_testOf_28 d rc (V8) (a0) (p1) (j6_2) (1)
  )
  )
  )
noncomputable def f_X12_testOf_6b (d : Nat) (rc : dV → Int → Int → dR) (s : (dV × Int × Int × Int)) : Sum (dV × Int × Int × Int) (dR) := f_X12_testOf_6c d rc (s.1) (s.2.1) (s.2.2.1) (s.2.2.2)

theorem f_X12_testOf_6e (d : Nat) (rc : dV → Int → Int → dR) (V : dV) (a0 p1 j6_2 : Int) : f_X12_testOf_6b d rc (V, a0, p1, j6_2) = f_X12_testOf_6c d rc V a0 p1 j6_2 := rfl

noncomputable def f_X12_testOf_B (d : Nat) (rc : dV → Int → Int → dR) (V : dV) (a0 p1 : Int) : dR :=
  dv_b2 (rc V (a0) (p1)) fun V2 x1 =>
  dv_lp (f_X12_testOf_6b d rc) (V2, a0, p1, x1)

noncomputable def f_X12_testOf : Nat → dV → Int → Int → dR
  | 0 => (f_X12_testOf_B 0 (f_X12_bothOf_B 0 (f_X12_plainOf_B 0 (f_X12_positiveOf_B 0 (fun _ _ _ => dv_z)))))
  | d + 1 => (f_X12_testOf_B (d + 1) (f_X12_bothOf_B (d + 1) (f_X12_plainOf_B (d + 1) (f_X12_positiveOf_B (d + 1) (f_X12_testOf d)))))

noncomputable def f_X12_positiveOf (d : Nat) : dV → Int → Int → dR := f_X12_positiveOf_B d (dv_pre (fun _ _ _ => dv_z) f_X12_testOf d)

theorem f_X12_positiveOf_d (d : Nat) (V : dV) (a0 p1 : Int) : f_X12_positiveOf d V a0 p1 = f_X12_positiveOf_B d (dv_pre (fun _ _ _ => dv_z) f_X12_testOf d) V a0 p1 := rfl

noncomputable def f_X12_plainOf (d : Nat) : dV → Int → Int → dR := f_X12_plainOf_B d (f_X12_positiveOf d)

theorem f_X12_plainOf_d (d : Nat) (V : dV) (a0 p1 : Int) : f_X12_plainOf d V a0 p1 = f_X12_plainOf_B d (f_X12_positiveOf d) V a0 p1 := rfl

noncomputable def f_X12_bothOf (d : Nat) : dV → Int → Int → dR := f_X12_bothOf_B d (f_X12_plainOf d)

theorem f_X12_bothOf_d (d : Nat) (V : dV) (a0 p1 : Int) : f_X12_bothOf d V a0 p1 = f_X12_bothOf_B d (f_X12_plainOf d) V a0 p1 := rfl

theorem f_X12_testOf_d (d : Nat) (V : dV) (a0 p1 : Int) : f_X12_testOf d V a0 p1 = f_X12_testOf_B d (f_X12_bothOf d) V a0 p1 := by cases d <;> rfl

noncomputable def f_X12_setsAsked (V : dV) (a0 p1 p2 p3 : Int) : dR :=
  dv_b (dv_u V a0 26 (0) (p1)) fun V6 =>
  dv_b (29 + p1) fun x4 =>
  dv_b (V6 a0 2 (x4)) fun x5 =>
  dv_b (dv_u V6 a0 26 (1) (x5)) fun V21 =>
  dv_b (38 + p1) fun x8 =>
  dv_b (V21 a0 2 (x8)) fun x9 =>
  dv_b (dv_u V21 a0 26 (2) (x9)) fun V36 =>
  dv_b (dv_u V36 a0 26 (3) (p2)) fun V43 =>
  dv_b (dv_u V43 a0 26 (4) (p3)) fun V50 =>
  dv_b (V50 a0 2 (66)) fun x16 =>
  dv_b (dv_u V50 a0 26 (5) (x16)) fun V63 =>
  dv_b (0 + p1) fun x19 =>
  dv_b (V63 a0 2 (x19)) fun x20 =>
  dv_b (dv_u V63 a0 26 (6) (x20)) fun V78 =>
  dv_b (V78 a0 2 (28)) fun x23 =>
  dv_b (dv_u V78 a0 26 (7) (x23)) fun V92 =>
  (V92, 0)

noncomputable def f_X12_tells_211 (V : dV) (a0 p1 p5 j211_7 : Int) : Sum (dV × Int × Int × Int × Int) (dR) :=
  dv_b (V a0 22 0) fun zz7 =>
  dv_b (zz7 + 1) fun x40 =>
  dv_b (dv_u V a0 22 0 (x40)) fun V218 =>
  Sum.inl (V218, a0, p1, p5, j211_7)

noncomputable def f_X12_tells_156 (V : dV) (zz6 s122_0 x23 a0 p1 p5 j71_7 s156_0 : Int) : Sum (dV × Int × Int × Int × Int) (dR) :=
  if x23 ≠ p1 then (
  f_X12_tells_211 (V) (a0) (p1) (p5) (j71_7)
  ) else (
  if s156_0 = 0 then (
  f_X12_tells_211 (V) (a0) (p1) (p5) (j71_7)
  ) else (
  dv_b (V a0 24 0) fun zz8 =>
  if zz8 ≠ 0 then (
  f_X12_tells_211 (V) (a0) (p1) (p5) (j71_7)
  ) else (
  if zz6 ≠ 0 then (
  f_X12_tells_211 (V) (a0) (p1) (p5) (j71_7)
  ) else (
  dv_b (dv_lcmp (s122_0) (0)) fun x44 =>
  if 0 ≤ x44 then (
  dv_b (p5) fun y45 =>
  dv_b (dv_lcmp (s122_0) (y45)) fun x46 =>
  if x46 ≤ 0 then (
  f_X12_tells_211 (V) (a0) (p1) (p5) (s122_0)
  ) else (
  dv_b (p5) fun y47 =>
  f_X12_tells_211 (V) (a0) (p1) (p5) (y47)
  )
  ) else (
  f_X12_tells_211 (V) (a0) (p1) (p5) (0)
  )
  )
  )
  )
  )

noncomputable def f_X12_tells_151 (V : dV) (zz6 s122_0 x23 a0 p1 p5 j71_7 : Int) : Sum (dV × Int × Int × Int × Int) (dR) :=
  f_X12_tells_156 (V) (zz6) (s122_0) (x23) (a0) (p1) (p5) (j71_7) (1)

noncomputable def f_X12_tells_122 (V : dV) (x23 a0 p1 p5 j71_7 s122_0 : Int) : Sum (dV × Int × Int × Int × Int) (dR) :=
  dv_b (V a0 24 0) fun zz6 =>
  dv_b (dv_u V a0 24 0 (0)) fun V132 =>
  dv_b2 (f_X12_passes0 V132 (a0) (4)) fun V137 x35 =>
  if x35 = 0 then (
  f_X12_tells_151 (V137) (zz6) (s122_0) (x23) (a0) (p1) (p5) (j71_7)
  ) else (
  dv_b2 (f_X12_testOf 8 V137 (a0) (1)) fun V145 x48 =>
  if x48 = 0 then (
  f_X12_tells_156 (V145) (zz6) (s122_0) (x23) (a0) (p1) (p5) (j71_7) (0)
  ) else (
  f_X12_tells_151 (V145) (zz6) (s122_0) (x23) (a0) (p1) (p5) (j71_7)
  )
  )

noncomputable def f_X12_tells_71c (V : dV) (a0 p1 p5 j71_7 : Int) : Sum (dV × Int × Int × Int × Int) (dR) :=
  dv_b (V a0 22 0) fun zz2 =>
  dv_b (V a0 23 0) fun zz3 =>
  if zz3 ≤ zz2 then (
  dv_b (dv_l2i (j71_7)) fun x21 =>
  Sum.inr ((V, x21))
  ) else (
  dv_b (V a0 22 0) fun zz4 =>
  dv_b2 (f_X12_codeAt V (a0) (zz4)) fun x23 _ =>
  dv_b (dv_u V a0 24 0 (0)) fun V94 =>
  dv_b (V94 a0 22 0) fun zz5 =>
  dv_b (zz5 + 1) fun x28 =>
  dv_b (dv_u V94 a0 22 0 (x28)) fun V104 =>
  if x23 ≠ 3 then (
  dv_b2 (f_X12_sumOf 8 V104 (a0) (1)) fun V119 y50 =>
  f_X12_tells_122 (V119) (x23) (a0) (p1) (p5) (j71_7) (y50)
  ) else (
  f_X12_tells_122 (V104) (x23) (a0) (p1) (p5) (j71_7) (1)
  )
  )
noncomputable def f_X12_tells_71b (s : (dV × Int × Int × Int × Int)) : Sum (dV × Int × Int × Int × Int) (dR) := f_X12_tells_71c (s.1) (s.2.1) (s.2.2.1) (s.2.2.2.1) (s.2.2.2.2)

theorem f_X12_tells_71e (V : dV) (a0 p1 p5 j71_7 : Int) : f_X12_tells_71b (V, a0, p1, p5, j71_7) = f_X12_tells_71c V a0 p1 p5 j71_7 := rfl

noncomputable def f_X12_tells (V : dV) (a0 p1 p2 p3 p4 p5 p6 : Int) : dR :=
  dv_b (V a0 2 (72)) fun x2 =>
  if x2 ≠ (-1) then (
  dv_b2 (f_X12_setsAsked V (a0) (p2) (p3) (p4)) fun V19 _ =>
  dv_b (dv_u V19 a0 25 0 (0)) fun V24 =>
  dv_b (p6) fun y5 =>
  dv_b (V24 a0 2 (72)) fun x6 =>
  dv_b (400 * x6) fun x7 =>
  dv_b (dv_u V24 a0 22 0 (x7)) fun V44 =>
  dv_b (V44 a0 22 0) fun zz1 =>
  dv_b (V44 a0 2 (72)) fun x11 =>
  dv_b (73 + x11) fun x12 =>
  dv_b (V44 a0 2 (x12)) fun x13 =>
  dv_b (zz1 + x13) fun x14 =>
  dv_b (dv_u V44 a0 23 0 (x14)) fun V68 =>
  dv_lp (f_X12_tells_71b) (V68, a0, p1, p5, y5)
  ) else (
  (V, p6)
  )

noncomputable def f_X12_costsAt (V : dV) (a0 p1 p2 p3 : Int) : dR :=
  dv_b (29 + p1) fun x2 =>
  dv_b (V a0 2 (x2)) fun x3 =>
  dv_b2 (f_X12_tells V (a0) (1) (p1) (p2) (p3) (99) (x3)) fun V16 x4 =>
  (V16, x4)

noncomputable def f_X12_isBarred (V : dV) (a0 p1 p2 p3 : Int) : dR :=
  dv_b2 (f_X12_tells V (a0) (3) (p1) (p2) (p3) (1) (0)) fun V7 x1 =>
  if x1 ≠ 1 then (
  (V7, 0)
  ) else (
  (V7, 1)
  )

noncomputable def f_X12_wearsNow (V : dV) (a0 p1 : Int) : dR :=
  dv_b (9 + p1) fun x2 =>
  dv_b (V a0 2 (x2)) fun x3 =>
  dv_b (18 + p1) fun x4 =>
  dv_b (V a0 2 (x4)) fun x5 =>
  dv_b2 (f_X12_tells V (a0) (2) (p1) (x3) (x5) (9) (1)) fun V24 x6 =>
  (V24, x6)

noncomputable def f_X12_faults (V : dV) (a0 : Int) : dR :=
  dv_b2 (f_X12_fine V (a0)) fun x1 _ =>
  if x1 = 0 then (
  (V, 0)
  ) else (
  dv_b (V a0 19 0) fun zz1 =>
  dv_b (V a0 17 (zz1)) fun x4 =>
  dv_b (dv_u V a0 21 0 (x4)) fun V17 =>
  (V17, 0)
  )

noncomputable def f_X12_takes0 (V : dV) (a0 p1 : Int) : dR :=
  dv_b2 (f_X12_fine V (a0)) fun x1 _ =>
  if x1 = 0 then (
  (V, 0)
  ) else (
  dv_b (V a0 19 0) fun zz1 =>
  dv_b (V a0 15 (zz1)) fun x5 =>
  if x5 ≠ p1 then (
  (V, 0)
  ) else (
  dv_b (V a0 19 0) fun zz2 =>
  dv_b (zz2 + 1) fun x7 =>
  dv_b (dv_u V a0 19 0 (x7)) fun V37 =>
  (V37, 1)
  )
  )

noncomputable def f_X12_must (V : dV) (a0 p1 : Int) : dR :=
  dv_b2 (f_X12_takes0 V (a0) (p1)) fun V2 x1 =>
  if x1 ≠ 0 then (
  (V2, 0)
  ) else (
  dv_b2 (f_X12_faults V2 (a0)) fun V9 _ =>
  (V9, 0)
  )

noncomputable def f_X12_leaf (V : dV) (a0 : Int) : dR :=
  dv_b (V a0 20 0) fun zz1 =>
  if zz1 ≠ 50 then (
  dv_b (V a0 20 0) fun zz2 =>
  dv_b (dv_add (zz2) (1)) fun x2 =>
  dv_b (dv_u V a0 20 0 (x2)) fun V20 =>
  dv_b2 (f_X12_fine V20 (a0)) fun x3 _ =>
  if x3 = 0 then (
  (V20, 0)
  ) else (
  dv_b (V20 a0 19 0) fun zz3 =>
  dv_b (zz3 + 1) fun x6 =>
  dv_b (dv_u V20 a0 19 0 (x6)) fun V37 =>
  (V37, 0)
  )
  ) else (
  dv_b2 (f_X12_faults V (a0)) fun V10 _ =>
  dv_b (V10 a0 20 0) fun zz4 =>
  dv_b (zz4 + 1) fun x8 =>
  dv_b (dv_u V10 a0 20 0 (x8)) fun V20 =>
  dv_b2 (f_X12_fine V20 (a0)) fun x9 _ =>
  if x9 = 0 then (
  (V20, 0)
  ) else (
  dv_b (V20 a0 19 0) fun zz5 =>
  dv_b (zz5 + 1) fun x12 =>
  dv_b (dv_u V20 a0 19 0 (x12)) fun V37 =>
  (V37, 0)
  )
  )

noncomputable def f_X12_mustNumber (V : dV) (a0 p1 p2 : Int) : dR :=
  dv_b2 (f_X12_fine V (a0)) fun x1 _ =>
  if x1 = 0 then (
  dv_b2 (f_X12_fine V (a0)) fun x2 _ =>
  if x2 = 0 then (
  (V, 0)
  ) else (
  dv_b (V a0 19 0) fun zz1 =>
  dv_b (zz1 + 1) fun x5 =>
  dv_b (dv_u V a0 19 0 (x5)) fun V56 =>
  (V56, 0)
  )
  ) else (
  dv_b (V a0 19 0) fun zz2 =>
  dv_b (V a0 15 (zz2)) fun x9 =>
  if x9 ≠ 50 then (
  dv_b2 (f_X12_faults V (a0)) fun V39 _ =>
  dv_b2 (f_X12_fine V39 (a0)) fun x11 _ =>
  if x11 = 0 then (
  (V39, 0)
  ) else (
  dv_b (V39 a0 19 0) fun zz3 =>
  dv_b (zz3 + 1) fun x13 =>
  dv_b (dv_u V39 a0 19 0 (x13)) fun V56 =>
  (V56, 0)
  )
  ) else (
  dv_b (V a0 19 0) fun zz4 =>
  dv_b (V a0 16 (zz4)) fun x16 =>
  dv_b2 (f_X12_lies V (x16) (p1) (p2)) fun x17 _ =>
  if x17 ≠ 0 then (
  dv_b2 (f_X12_fine V (a0)) fun x18 _ =>
  if x18 = 0 then (
  (V, 0)
  ) else (
  dv_b (V a0 19 0) fun zz5 =>
  dv_b (zz5 + 1) fun x20 =>
  dv_b (dv_u V a0 19 0 (x20)) fun V56 =>
  (V56, 0)
  )
  ) else (
  dv_b2 (f_X12_faults V (a0)) fun V39 _ =>
  dv_b2 (f_X12_fine V39 (a0)) fun x22 _ =>
  if x22 = 0 then (
  (V39, 0)
  ) else (
  dv_b (V39 a0 19 0) fun zz6 =>
  dv_b (zz6 + 1) fun x24 =>
  dv_b (dv_u V39 a0 19 0 (x24)) fun V56 =>
  (V56, 0)
  )
  )
  )
  )

noncomputable def f_X12_readPart_134 (d : Nat) (rc : dV → Int → Int → dR) (V : dV) (a0 : Int) : dR :=
  dv_b2 (f_X12_mustNumber V (a0) (0) (8)) fun V138 _ =>
  (V138, 0)

noncomputable def f_X12_readPart_111 (d : Nat) (rc : dV → Int → Int → dR) (V : dV) (x5 a0 : Int) : dR :=
  dv_b2 (f_X12_leaf V (a0)) fun V112 _ =>
  dv_b (V112 a0 10 0) fun zz2 =>
  if zz2 = 0 then (
  (V112, 0)
  ) else (
  if x5 = 14 then (
  f_X12_readPart_134 d rc (V112) (a0)
  ) else (
  if x5 ≠ 20 then (
  (V112, 0)
  ) else (
  f_X12_readPart_134 d rc (V112) (a0)
  )
  )
  )

noncomputable def f_X12_readPart_144 (d : Nat) (rc : dV → Int → Int → dR) (V : dV) (a0 : Int) : dR :=
  dv_b2 (f_X12_faults V (a0)) fun V145 _ =>
  (V145, 0)

noncomputable def f_X12_readPart_95 (d : Nat) (rc : dV → Int → Int → dR) (V : dV) (x5 a0 : Int) : dR :=
  dv_b (V a0 8 0) fun zz3 =>
  if x5 < zz3 then (
  f_X12_readPart_144 d rc (V) (a0)
  ) else (
  dv_b (V a0 9 0) fun zz4 =>
  if zz4 < x5 then (
  f_X12_readPart_144 d rc (V) (a0)
  ) else (
  f_X12_readPart_111 d rc (V) (x5) (a0)
  )
  )

noncomputable def f_X12_readPart_37 (d : Nat) (rc : dV → Int → Int → dR) (V : dV) (a0 p1 : Int) : dR :=
  dv_b2 (f_X12_fine V (a0)) fun x21 _ =>
  if x21 ≠ 0 then (
  dv_b (V a0 19 0) fun zz6 =>
  dv_b (zz6 + 1) fun x23 =>
  dv_b (dv_u V a0 19 0 (x23)) fun V52 =>
  dv_b (p1 + 1) fun x24 =>
  dv_b2 (rc V52 (a0) (x24)) fun V59 _ =>
  dv_b2 (f_X12_sign V59 (93)) fun x25 _ =>
  dv_b2 (f_X12_must V59 (a0) (x25)) fun V68 _ =>
  (V68, 0)
  ) else (
  (V, 0)
  )

noncomputable def f_X12_readPart_B (d : Nat) (rc : dV → Int → Int → dR) (V : dV) (a0 p1 : Int) : dR :=
  dv_b2 (f_X12_fine V (a0)) fun x1 _ =>
  if x1 ≠ 0 then (
  dv_b (V a0 19 0) fun zz1 =>
  dv_b (V a0 15 (zz1)) fun x5 =>
  dv_b2 (f_X12_sign V (91)) fun x6 _ =>
  if x5 ≠ x6 then (
  if x5 ≠ 50 then (
  f_X12_readPart_95 d rc (V) (x5) (a0)
  ) else (
  dv_b (V a0 19 0) fun zz5 =>
  dv_b (V a0 16 (zz5)) fun x16 =>
  if x16 ≤ 1000 then (
  f_X12_readPart_111 d rc (V) (x5) (a0)
  ) else (
  f_X12_readPart_95 d rc (V) (x5) (a0)
  )
  )
  ) else (
  if p1 ≠ 8 then (
  f_X12_readPart_37 d rc (V) (a0) (p1)
  ) else (
  dv_b2 (f_X12_faults V (a0)) fun V34 _ =>
  f_X12_readPart_37 d rc (V34) (a0) (p1)
  )
  )
  ) else (
  (V, 0)
  )

noncomputable def f_X12_readTerm_5c (d : Nat) (rc : dV → Int → Int → dR) (V : dV) (a0 p1 : Int) : Sum (dV × Int × Int) (dR) :=
  dv_b2 (f_X12_sign V (42)) fun x2 _ =>
  dv_b2 (f_X12_takes0 V (a0) (x2)) fun V11 x3 =>
  if x3 ≠ 0 then (
  dv_b2 (rc V11 (a0) (p1)) fun V43 _ =>
  Sum.inl (V43, a0, p1)
  ) else (
  dv_b2 (f_X12_sign V11 (47)) fun x4 _ =>
  dv_b2 (f_X12_takes0 V11 (a0) (x4)) fun V23 x5 =>
  if x5 ≠ 0 then (
  dv_b2 (rc V23 (a0) (p1)) fun V43 _ =>
  Sum.inl (V43, a0, p1)
  ) else (
  dv_b2 (f_X12_sign V23 (37)) fun x6 _ =>
  dv_b2 (f_X12_takes0 V23 (a0) (x6)) fun V35 x7 =>
  if x7 = 0 then (
  Sum.inr ((V35, 0))
  ) else (
  dv_b2 (rc V35 (a0) (p1)) fun V43 _ =>
  Sum.inl (V43, a0, p1)
  )
  )
  )
noncomputable def f_X12_readTerm_5b (d : Nat) (rc : dV → Int → Int → dR) (s : (dV × Int × Int)) : Sum (dV × Int × Int) (dR) := f_X12_readTerm_5c d rc (s.1) (s.2.1) (s.2.2)

theorem f_X12_readTerm_5e (d : Nat) (rc : dV → Int → Int → dR) (V : dV) (a0 p1 : Int) : f_X12_readTerm_5b d rc (V, a0, p1) = f_X12_readTerm_5c d rc V a0 p1 := rfl

noncomputable def f_X12_readTerm_B (d : Nat) (rc : dV → Int → Int → dR) (V : dV) (a0 p1 : Int) : dR :=
  dv_b2 (rc V (a0) (p1)) fun V2 _ =>
  dv_lp (f_X12_readTerm_5b d rc) (V2, a0, p1)

noncomputable def f_X12_readSum_5c (d : Nat) (rc : dV → Int → Int → dR) (V : dV) (a0 p1 : Int) : Sum (dV × Int × Int) (dR) :=
  dv_b2 (f_X12_sign V (43)) fun x2 _ =>
  dv_b2 (f_X12_takes0 V (a0) (x2)) fun V11 x3 =>
  if x3 ≠ 0 then (
  dv_b2 (rc V11 (a0) (p1)) fun V31 _ =>
  Sum.inl (V31, a0, p1)
  ) else (
  dv_b2 (f_X12_sign V11 (45)) fun x4 _ =>
  dv_b2 (f_X12_takes0 V11 (a0) (x4)) fun V23 x5 =>
  if x5 = 0 then (
  Sum.inr ((V23, 0))
  ) else (
  dv_b2 (rc V23 (a0) (p1)) fun V31 _ =>
  Sum.inl (V31, a0, p1)
  )
  )
noncomputable def f_X12_readSum_5b (d : Nat) (rc : dV → Int → Int → dR) (s : (dV × Int × Int)) : Sum (dV × Int × Int) (dR) := f_X12_readSum_5c d rc (s.1) (s.2.1) (s.2.2)

theorem f_X12_readSum_5e (d : Nat) (rc : dV → Int → Int → dR) (V : dV) (a0 p1 : Int) : f_X12_readSum_5b d rc (V, a0, p1) = f_X12_readSum_5c d rc V a0 p1 := rfl

noncomputable def f_X12_readSum_B (d : Nat) (rc : dV → Int → Int → dR) (V : dV) (a0 p1 : Int) : dR :=
  dv_b2 (rc V (a0) (p1)) fun V2 _ =>
  dv_lp (f_X12_readSum_5b d rc) (V2, a0, p1)

noncomputable def f_X12_readSum : Nat → dV → Int → Int → dR
  | 0 => (f_X12_readSum_B 0 (f_X12_readTerm_B 0 (f_X12_readPart_B 0 (fun _ _ _ => dv_z))))
  | d + 1 => (f_X12_readSum_B (d + 1) (f_X12_readTerm_B (d + 1) (f_X12_readPart_B (d + 1) (f_X12_readSum d))))

noncomputable def f_X12_readPart (d : Nat) : dV → Int → Int → dR := f_X12_readPart_B d (dv_pre (fun _ _ _ => dv_z) f_X12_readSum d)

theorem f_X12_readPart_d (d : Nat) (V : dV) (a0 p1 : Int) : f_X12_readPart d V a0 p1 = f_X12_readPart_B d (dv_pre (fun _ _ _ => dv_z) f_X12_readSum d) V a0 p1 := rfl

noncomputable def f_X12_readTerm (d : Nat) : dV → Int → Int → dR := f_X12_readTerm_B d (f_X12_readPart d)

theorem f_X12_readTerm_d (d : Nat) (V : dV) (a0 p1 : Int) : f_X12_readTerm d V a0 p1 = f_X12_readTerm_B d (f_X12_readPart d) V a0 p1 := rfl

theorem f_X12_readSum_d (d : Nat) (V : dV) (a0 p1 : Int) : f_X12_readSum d V a0 p1 = f_X12_readSum_B d (f_X12_readTerm d) V a0 p1 := by cases d <;> rfl

noncomputable def f_X12_readPlain_53 (d : Nat) (rc : dV → Int → Int → dR) (V : dV) (a0 p1 : Int) : Sum (dV × Int × Int × Int) (dR) :=
  dv_b2 (f_X12_fine V (a0)) fun x14 _ =>
  if x14 ≠ 0 then (
  dv_b (V a0 19 0) fun zz2 =>
  dv_b (zz2 + 1) fun x16 =>
  dv_b (dv_u V a0 19 0 (x16)) fun V68 =>
  dv_b (p1 + 1) fun x17 =>
  dv_b2 (rc V68 (a0) (x17)) fun V75 _ =>
  dv_b2 (f_X12_sign V75 (41)) fun x18 _ =>
  dv_b2 (f_X12_must V75 (a0) (x18)) fun V84 _ =>
  Sum.inr ((V84, 0))
  ) else (
  Sum.inr ((V, 0))
  )

noncomputable def f_X12_readPlain_2c (d : Nat) (rc : dV → Int → Int → dR) (V : dV) (a0 p1 j2_2 : Int) : Sum (dV × Int × Int × Int) (dR) :=
  if j2_2 = 0 then (
  dv_b2 (f_X12_fine V (a0)) fun x2 _ =>
  if x2 ≠ 0 then (
  dv_b (V a0 19 0) fun zz1 =>
  dv_b (V a0 15 (zz1)) fun x6 =>
  dv_b2 (f_X12_sign V (40)) fun x7 _ =>
  if x6 ≠ x7 then (
  dv_b2 (f_X12_readSum d V (a0) (p1)) fun V92 _ =>
  dv_b2 (f_X12_sign V92 (60)) fun x8 _ =>
  dv_b2 (f_X12_takes0 V92 (a0) (x8)) fun V101 x9 =>
  if x9 ≠ 0 then (
  dv_b2 (f_X12_readSum d V101 (a0) (p1)) fun V130 _ =>
  Sum.inr ((V130, 0))
  ) else (
  dv_b2 (f_X12_sign V101 (62)) fun x10 _ =>
  dv_b2 (f_X12_takes0 V101 (a0) (x10)) fun V113 x11 =>
  if x11 ≠ 0 then (
  dv_b2 (f_X12_readSum d V113 (a0) (p1)) fun V130 _ =>
  Sum.inr ((V130, 0))
  ) else (
  dv_b2 (f_X12_sign V113 (61)) fun x12 _ =>
  dv_b2 (f_X12_must V113 (a0) (x12)) fun V125 _ =>
  dv_b2 (f_X12_readSum d V125 (a0) (p1)) fun V130 _ =>
  Sum.inr ((V130, 0))
  )
  )
  ) else (
  if p1 ≠ 8 then (
  f_X12_readPlain_53 d rc (V) (a0) (p1)
  ) else (
  dv_b2 (f_X12_faults V (a0)) fun V50 _ =>
  f_X12_readPlain_53 d rc (V50) (a0) (p1)
  )
  )
  ) else (
  Sum.inr ((V, 0))
  )
  ) else (
  dv_b2 (f_X12_takes0 V (a0) (7)) fun V9 x20 =>
  Sum.inl (V9, a0, p1, x20)
  )
noncomputable def f_X12_readPlain_2b (d : Nat) (rc : dV → Int → Int → dR) (s : (dV × Int × Int × Int)) : Sum (dV × Int × Int × Int) (dR) := f_X12_readPlain_2c d rc (s.1) (s.2.1) (s.2.2.1) (s.2.2.2)

theorem f_X12_readPlain_2e (d : Nat) (rc : dV → Int → Int → dR) (V : dV) (a0 p1 j2_2 : Int) : f_X12_readPlain_2b d rc (V, a0, p1, j2_2) = f_X12_readPlain_2c d rc V a0 p1 j2_2 := rfl

noncomputable def f_X12_readPlain_B (d : Nat) (rc : dV → Int → Int → dR) (V : dV) (a0 p1 : Int) : dR :=
  dv_lp (f_X12_readPlain_2b d rc) (V, a0, p1, 1)

noncomputable def f_X12_readBoth_5c (d : Nat) (rc : dV → Int → Int → dR) (V : dV) (a0 p1 : Int) : Sum (dV × Int × Int) (dR) :=
  dv_b2 (f_X12_takes0 V (a0) (6)) fun V8 x2 =>
  if x2 = 0 then (
  Sum.inr ((V8, 0))
  ) else (
  dv_b2 (rc V8 (a0) (p1)) fun V16 _ =>
  Sum.inl (V16, a0, p1)
  )
noncomputable def f_X12_readBoth_5b (d : Nat) (rc : dV → Int → Int → dR) (s : (dV × Int × Int)) : Sum (dV × Int × Int) (dR) := f_X12_readBoth_5c d rc (s.1) (s.2.1) (s.2.2)

theorem f_X12_readBoth_5e (d : Nat) (rc : dV → Int → Int → dR) (V : dV) (a0 p1 : Int) : f_X12_readBoth_5b d rc (V, a0, p1) = f_X12_readBoth_5c d rc V a0 p1 := rfl

noncomputable def f_X12_readBoth_B (d : Nat) (rc : dV → Int → Int → dR) (V : dV) (a0 p1 : Int) : dR :=
  dv_b2 (rc V (a0) (p1)) fun V2 _ =>
  dv_lp (f_X12_readBoth_5b d rc) (V2, a0, p1)

noncomputable def f_X12_readTest_5c (d : Nat) (rc : dV → Int → Int → dR) (V : dV) (a0 p1 : Int) : Sum (dV × Int × Int) (dR) :=
  dv_b2 (f_X12_takes0 V (a0) (5)) fun V7 x2 =>
  if x2 = 0 then (
  Sum.inr ((V7, 0))
  ) else (
  dv_b2 (rc V7 (a0) (p1)) fun V15 _ =>
  Sum.inl (V15, a0, p1)
  )
noncomputable def f_X12_readTest_5b (d : Nat) (rc : dV → Int → Int → dR) (s : (dV × Int × Int)) : Sum (dV × Int × Int) (dR) := f_X12_readTest_5c d rc (s.1) (s.2.1) (s.2.2)

theorem f_X12_readTest_5e (d : Nat) (rc : dV → Int → Int → dR) (V : dV) (a0 p1 : Int) : f_X12_readTest_5b d rc (V, a0, p1) = f_X12_readTest_5c d rc V a0 p1 := rfl

noncomputable def f_X12_readTest_B (d : Nat) (rc : dV → Int → Int → dR) (V : dV) (a0 p1 : Int) : dR :=
  dv_b2 (rc V (a0) (p1)) fun V2 _ =>
  dv_lp (f_X12_readTest_5b d rc) (V2, a0, p1)

noncomputable def f_X12_readTest : Nat → dV → Int → Int → dR
  | 0 => (f_X12_readTest_B 0 (f_X12_readBoth_B 0 (f_X12_readPlain_B 0 (fun _ _ _ => dv_z))))
  | d + 1 => (f_X12_readTest_B (d + 1) (f_X12_readBoth_B (d + 1) (f_X12_readPlain_B (d + 1) (f_X12_readTest d))))

noncomputable def f_X12_readPlain (d : Nat) : dV → Int → Int → dR := f_X12_readPlain_B d (dv_pre (fun _ _ _ => dv_z) f_X12_readTest d)

theorem f_X12_readPlain_d (d : Nat) (V : dV) (a0 p1 : Int) : f_X12_readPlain d V a0 p1 = f_X12_readPlain_B d (dv_pre (fun _ _ _ => dv_z) f_X12_readTest d) V a0 p1 := rfl

noncomputable def f_X12_readBoth (d : Nat) : dV → Int → Int → dR := f_X12_readBoth_B d (f_X12_readPlain d)

theorem f_X12_readBoth_d (d : Nat) (V : dV) (a0 p1 : Int) : f_X12_readBoth d V a0 p1 = f_X12_readBoth_B d (f_X12_readPlain d) V a0 p1 := rfl

theorem f_X12_readTest_d (d : Nat) (V : dV) (a0 p1 : Int) : f_X12_readTest d V a0 p1 = f_X12_readTest_B d (f_X12_readBoth d) V a0 p1 := by cases d <;> rfl

noncomputable def f_X12_readClause_29 (V : dV) (a0 : Int) : dR :=
  dv_b2 (f_X12_takes0 V (a0) (4)) fun V31 x3 =>
  if x3 = 0 then (
  (V31, 0)
  ) else (
  dv_b2 (f_X12_readTest 8 V31 (a0) (0)) fun V39 _ =>
  (V39, 0)
  )

noncomputable def f_X12_readClause_16 (V : dV) (a0 : Int) : dR :=
  dv_b2 (f_X12_readSum 8 V (a0) (0)) fun V18 _ =>
  f_X12_readClause_29 (V18) (a0)

noncomputable def f_X12_readClause (V : dV) (a0 : Int) : dR :=
  dv_b2 (f_X12_takes0 V (a0) (1)) fun V2 x1 =>
  if x1 ≠ 0 then (
  f_X12_readClause_16 (V2) (a0)
  ) else (
  dv_b2 (f_X12_takes0 V2 (a0) (2)) fun V10 x5 =>
  if x5 = 0 then (
  dv_b2 (f_X12_must V10 (a0) (3)) fun V26 _ =>
  f_X12_readClause_29 (V26) (a0)
  ) else (
  f_X12_readClause_16 (V10) (a0)
  )
  )

noncomputable def f_X12_readMore (V : dV) (a0 p1 : Int) : dR :=
  dv_b2 (f_X12_must V (a0) (p1)) fun V2 _ =>
  dv_b2 (f_X12_readSum 8 V2 (a0) (0)) fun V7 _ =>
  (V7, 0)

noncomputable def f_X12_readOrder_77 (V : dV) (a0 : Int) : dR :=
  dv_b2 (f_X12_takes0 V (a0) (4)) fun V79 x5 =>
  if x5 = 0 then (
  (V79, 0)
  ) else (
  dv_b2 (f_X12_readTest 8 V79 (a0) (0)) fun V87 _ =>
  (V87, 0)
  )

noncomputable def f_X12_readOrder_61 (V : dV) (a0 : Int) : dR :=
  dv_b2 (f_X12_takes0 V (a0) (27)) fun V64 x3 =>
  if x3 = 0 then (
  f_X12_readOrder_77 (V64) (a0)
  ) else (
  dv_b2 (f_X12_mustNumber V64 (a0) (1) (20)) fun V74 _ =>
  f_X12_readOrder_77 (V74) (a0)
  )

noncomputable def f_X12_readOrder (V : dV) (a0 : Int) : dR :=
  dv_b2 (f_X12_takes0 V (a0) (21)) fun V3 x1 =>
  if x1 = 0 then (
  dv_b2 (f_X12_takes0 V3 (a0) (24)) fun V32 x6 =>
  if x6 = 0 then (
  dv_b2 (f_X12_takes0 V32 (a0) (25)) fun V49 x7 =>
  if x7 ≠ 0 then (
  f_X12_readOrder_61 (V49) (a0)
  ) else (
  dv_b2 (f_X12_must V49 (a0) (26)) fun V58 _ =>
  f_X12_readOrder_61 (V58) (a0)
  )
  ) else (
  dv_b2 (f_X12_readSum 8 V32 (a0) (0)) fun V40 _ =>
  f_X12_readOrder_61 (V40) (a0)
  )
  ) else (
  dv_b2 (f_X12_readSum 8 V3 (a0) (0)) fun V11 _ =>
  dv_b2 (f_X12_readMore V11 (a0) (22)) fun V17 _ =>
  dv_b2 (f_X12_readMore V17 (a0) (23)) fun V23 _ =>
  f_X12_readOrder_61 (V23) (a0)
  )

noncomputable def f_X12_readOne (V : dV) (a0 : Int) : dR :=
  dv_b (V a0 10 0) fun zz1 =>
  if zz1 = 0 then (
  dv_b2 (f_X12_readClause V (a0)) fun V15 _ =>
  (V15, 0)
  ) else (
  dv_b2 (f_X12_readOrder V (a0)) fun V8 _ =>
  (V8, 0)
  )

noncomputable def f_X12_wordOf_104 (V : dV) (a0 p1 p2 j5_3 j5_4 j18_5 j57_6 : Int) : Sum (dV × Int × Int × Int × Int × Int × Int × Int × Int) (Sum (dV × Int × Int × Int × Int × Int × Int) (Sum (dV × Int × Int × Int × Int × Int) (dP))) :=
  if j57_6 = 0 then (
  dv_b (j18_5 + 1) fun x6 =>
  dv_b (j5_4 + x6) fun x7 =>
  dv_b (dv_add (j5_3) (1)) fun x8 =>
  Sum.inr (Sum.inr (Sum.inl (V, a0, p1, p2, x8, x7)))
  ) else (
  Sum.inr (Sum.inr (Sum.inr ((j5_3, ()))))
  )

noncomputable def f_X12_wordOf_57c (V : dV) (a0 p1 p2 j5_3 j5_4 j18_5 j57_6 j57_7 : Int) : Sum (dV × Int × Int × Int × Int × Int × Int × Int × Int) (Sum (dV × Int × Int × Int × Int × Int × Int) (Sum (dV × Int × Int × Int × Int × Int) (dP))) :=
  if j18_5 ≤ j57_7 then (
  f_X12_wordOf_104 (V) (a0) (p1) (p2) (j5_3) (j5_4) (j18_5) (j57_6)
  ) else (
  if j57_6 = 0 then (
  f_X12_wordOf_104 (V) (a0) (p1) (p2) (j5_3) (j5_4) (j18_5) (j57_6)
  ) else (
  dv_b (j5_4 + j57_7) fun x9 =>
  dv_b (V a0 7 (x9)) fun x10 =>
  dv_b (p1 + j57_7) fun x12 =>
  dv_b (V a0 11 (x12)) fun x13 =>
  if x10 ≠ x13 then (
  dv_b (j57_7 + 1) fun x14 =>
  Sum.inl (V, a0, p1, p2, j5_3, j5_4, j18_5, 0, x14)
  ) else (
  dv_b (j57_7 + 1) fun x15 =>
  Sum.inl (V, a0, p1, p2, j5_3, j5_4, j18_5, 1, x15)
  )
  )
  )
noncomputable def f_X12_wordOf_57b (s : (dV × Int × Int × Int × Int × Int × Int × Int × Int)) : Sum (dV × Int × Int × Int × Int × Int × Int × Int × Int) (Sum (dV × Int × Int × Int × Int × Int × Int) (Sum (dV × Int × Int × Int × Int × Int) (dP))) := f_X12_wordOf_57c (s.1) (s.2.1) (s.2.2.1) (s.2.2.2.1) (s.2.2.2.2.1) (s.2.2.2.2.2.1) (s.2.2.2.2.2.2.1) (s.2.2.2.2.2.2.2.1) (s.2.2.2.2.2.2.2.2)

theorem f_X12_wordOf_57e (V : dV) (a0 p1 p2 j5_3 j5_4 j18_5 j57_6 j57_7 : Int) : f_X12_wordOf_57b (V, a0, p1, p2, j5_3, j5_4, j18_5, j57_6, j57_7) = f_X12_wordOf_57c V a0 p1 p2 j5_3 j5_4 j18_5 j57_6 j57_7 := rfl

noncomputable def f_X12_wordOf_104x2 (V : dV) (a0 p1 p2 j5_3 j5_4 j18_5 j57_6 : Int) : Sum (dV × Int × Int × Int × Int × Int × Int × Int × Int) (Sum (dV × Int × Int × Int × Int × Int × Int) (Sum (dV × Int × Int × Int × Int × Int) (dP))) :=
  if j57_6 = 0 then (
  dv_b (j18_5 + 1) fun x16 =>
  dv_b (j5_4 + x16) fun x17 =>
  dv_b (dv_add (j5_3) (1)) fun x18 =>
  Sum.inr (Sum.inr (Sum.inl (V, a0, p1, p2, x18, x17)))
  ) else (
  Sum.inr (Sum.inr (Sum.inr ((j5_3, ()))))
  )

noncomputable def f_X12_wordOf_57x2c (V : dV) (a0 p1 p2 j5_3 j5_4 j18_5 j57_6 j57_7 : Int) : Sum (dV × Int × Int × Int × Int × Int × Int × Int × Int) (Sum (dV × Int × Int × Int × Int × Int × Int) (Sum (dV × Int × Int × Int × Int × Int) (dP))) :=
  if j18_5 ≤ j57_7 then (
  f_X12_wordOf_104x2 (V) (a0) (p1) (p2) (j5_3) (j5_4) (j18_5) (j57_6)
  ) else (
  if j57_6 = 0 then (
  f_X12_wordOf_104x2 (V) (a0) (p1) (p2) (j5_3) (j5_4) (j18_5) (j57_6)
  ) else (
  dv_b (j5_4 + j57_7) fun x19 =>
  dv_b (V a0 7 (x19)) fun x20 =>
  dv_b (p1 + j57_7) fun x22 =>
  dv_b (V a0 11 (x22)) fun x23 =>
  if x20 ≠ x23 then (
  dv_b (j57_7 + 1) fun x24 =>
  Sum.inl (V, a0, p1, p2, j5_3, j5_4, j18_5, 0, x24)
  ) else (
  dv_b (j57_7 + 1) fun x25 =>
  Sum.inl (V, a0, p1, p2, j5_3, j5_4, j18_5, 1, x25)
  )
  )
  )
noncomputable def f_X12_wordOf_57x2b (s : (dV × Int × Int × Int × Int × Int × Int × Int × Int)) : Sum (dV × Int × Int × Int × Int × Int × Int × Int × Int) (Sum (dV × Int × Int × Int × Int × Int × Int) (Sum (dV × Int × Int × Int × Int × Int) (dP))) := f_X12_wordOf_57x2c (s.1) (s.2.1) (s.2.2.1) (s.2.2.2.1) (s.2.2.2.2.1) (s.2.2.2.2.2.1) (s.2.2.2.2.2.2.1) (s.2.2.2.2.2.2.2.1) (s.2.2.2.2.2.2.2.2)

theorem f_X12_wordOf_57x2e (V : dV) (a0 p1 p2 j5_3 j5_4 j18_5 j57_6 j57_7 : Int) : f_X12_wordOf_57x2b (V, a0, p1, p2, j5_3, j5_4, j18_5, j57_6, j57_7) = f_X12_wordOf_57x2c V a0 p1 p2 j5_3 j5_4 j18_5 j57_6 j57_7 := rfl

noncomputable def f_X12_wordOf_18c (V : dV) (a0 p1 p2 j5_3 j5_4 j18_5 : Int) : Sum (dV × Int × Int × Int × Int × Int × Int) (Sum (dV × Int × Int × Int × Int × Int) (dP)) :=
  dv_b (j5_4 + j18_5) fun x3 =>
  dv_b (V a0 7 (x3)) fun x4 =>
  if x4 = 32 then (
  dv_b (p2 - p1) fun x5 =>
  if j18_5 ≠ x5 then (
  dv_lp (f_X12_wordOf_57b) (V, a0, p1, p2, j5_3, j5_4, j18_5, 0, 0)
  ) else (
  dv_lp (f_X12_wordOf_57x2b) (V, a0, p1, p2, j5_3, j5_4, j18_5, 1, 0)
  )
  ) else (
  dv_b (j18_5 + 1) fun x26 =>
  Sum.inl (V, a0, p1, p2, j5_3, j5_4, x26)
  )
noncomputable def f_X12_wordOf_18b (s : (dV × Int × Int × Int × Int × Int × Int)) : Sum (dV × Int × Int × Int × Int × Int × Int) (Sum (dV × Int × Int × Int × Int × Int) (dP)) := f_X12_wordOf_18c (s.1) (s.2.1) (s.2.2.1) (s.2.2.2.1) (s.2.2.2.2.1) (s.2.2.2.2.2.1) (s.2.2.2.2.2.2)

theorem f_X12_wordOf_18e (V : dV) (a0 p1 p2 j5_3 j5_4 j18_5 : Int) : f_X12_wordOf_18b (V, a0, p1, p2, j5_3, j5_4, j18_5) = f_X12_wordOf_18c V a0 p1 p2 j5_3 j5_4 j18_5 := rfl

noncomputable def f_X12_wordOf_5c (V : dV) (a0 p1 p2 j5_3 j5_4 : Int) : Sum (dV × Int × Int × Int × Int × Int) (dP) :=
  dv_b (127) fun x2 =>
  if x2 ≤ j5_4 then (
  Sum.inr ((0, ()))
  ) else (
  dv_lp (f_X12_wordOf_18b) (V, a0, p1, p2, j5_3, j5_4, 0)
  )
noncomputable def f_X12_wordOf_5b (s : (dV × Int × Int × Int × Int × Int)) : Sum (dV × Int × Int × Int × Int × Int) (dP) := f_X12_wordOf_5c (s.1) (s.2.1) (s.2.2.1) (s.2.2.2.1) (s.2.2.2.2.1) (s.2.2.2.2.2)

theorem f_X12_wordOf_5e (V : dV) (a0 p1 p2 j5_3 j5_4 : Int) : f_X12_wordOf_5b (V, a0, p1, p2, j5_3, j5_4) = f_X12_wordOf_5c V a0 p1 p2 j5_3 j5_4 := rfl

noncomputable def f_X12_wordOf (V : dV) (a0 p1 p2 : Int) : dP :=
  dv_lp (f_X12_wordOf_5b) (V, a0, p1, p2, 1, 0)

noncomputable def f_X12_splits_247 (V : dV) (a0 p1 j100_4 : Int) : Sum (dV × Int × Int × Int × Int × Int) (Sum (dV × Int × Int × Int) (dR)) :=
  dv_b (V a0 18 0) fun zz7 =>
  dv_b (zz7 + 1) fun x42 =>
  dv_b (dv_u V a0 18 0 (x42)) fun V254 =>
  Sum.inr (Sum.inl (V254, a0, p1, j100_4))

noncomputable def f_X12_splits_240 (V : dV) (x13 a0 p1 j100_4 j169_5 zz8 s240_2 : Int) : Sum (dV × Int × Int × Int × Int × Int) (Sum (dV × Int × Int × Int) (dR)) :=
  dv_b (dv_u V a0 16 (zz8) (s240_2)) fun V240 =>
  dv_b (j169_5 + 1) fun x57 =>
  Sum.inl (V240, x13, a0, p1, j100_4, x57)

noncomputable def f_X12_splits_169c (V : dV) (x13 a0 p1 j100_4 j169_5 : Int) : Sum (dV × Int × Int × Int × Int × Int) (Sum (dV × Int × Int × Int) (dR)) :=
  if j100_4 ≤ j169_5 then (
  f_X12_splits_247 (V) (a0) (p1) (j100_4)
  ) else (
  dv_b2 (f_X12_isDigit V (x13)) fun x48 _ =>
  if x48 = 0 then (
  f_X12_splits_247 (V) (a0) (p1) (j100_4)
  ) else (
  dv_b (V a0 18 0) fun zz8 =>
  dv_b (V a0 18 0) fun zz9 =>
  dv_b (V a0 16 (zz9)) fun x51 =>
  if x51 ≤ 1000000 then (
  dv_b (V a0 18 0) fun zz10 =>
  dv_b (V a0 16 (zz10)) fun x59 =>
  dv_b (dv_mul (10) (x59)) fun x60 =>
  dv_b (V a0 11 (j169_5)) fun x61 =>
  dv_b (dv_add (x60) (x61)) fun x62 =>
  dv_b (dv_sub (x62) (48)) fun x63 =>
  f_X12_splits_240 (V) (x13) (a0) (p1) (j100_4) (j169_5) (zz8) (x63)
  ) else (
  dv_b (V a0 18 0) fun zz11 =>
  dv_b (V a0 16 (zz11)) fun x65 =>
  f_X12_splits_240 (V) (x13) (a0) (p1) (j100_4) (j169_5) (zz8) (x65)
  )
  )
  )
noncomputable def f_X12_splits_169b (s : (dV × Int × Int × Int × Int × Int)) : Sum (dV × Int × Int × Int × Int × Int) (Sum (dV × Int × Int × Int) (dR)) := f_X12_splits_169c (s.1) (s.2.1) (s.2.2.1) (s.2.2.2.1) (s.2.2.2.2.1) (s.2.2.2.2.2)

theorem f_X12_splits_169e (V : dV) (x13 a0 p1 j100_4 j169_5 : Int) : f_X12_splits_169b (V, x13, a0, p1, j100_4, j169_5) = f_X12_splits_169c V x13 a0 p1 j100_4 j169_5 := rfl

noncomputable def f_X12_splits_165 (V : dV) (x13 a0 p1 j7_2 j100_4 zz6 s165_2 : Int) : Sum (dV × Int × Int × Int) (dR) :=
  dv_b (dv_u V a0 15 (zz6) (s165_2)) fun V165 =>
  dv_lp (f_X12_splits_169b) (V165, x13, a0, p1, j100_4, j7_2)

noncomputable def f_X12_splits_100 (V : dV) (x13 a0 p1 j7_2 j100_4 : Int) : Sum (dV × Int × Int × Int) (dR) :=
  dv_b (V a0 18 0) fun zz4 =>
  dv_b (dv_u V a0 17 (zz4) (j7_2)) fun V109 =>
  dv_b (V109 a0 18 0) fun zz5 =>
  dv_b (dv_u V109 a0 16 (zz5) (0)) fun V119 =>
  dv_b (V119 a0 18 0) fun zz6 =>
  dv_b2 (f_X12_isSmall V119 (x13)) fun x31 _ =>
  if x31 = 0 then (
  dv_b2 (f_X12_isDigit V119 (x13)) fun x66 _ =>
  if x66 = 0 then (
  dv_b (dv_and (x13) (255)) fun x67 =>
  dv_b (100 + x67) fun x68 =>
  f_X12_splits_165 (V119) (x13) (a0) (p1) (j7_2) (j100_4) (zz6) (x68)
  ) else (
  f_X12_splits_165 (V119) (x13) (a0) (p1) (j7_2) (j100_4) (zz6) (50)
  )
  ) else (
  dv_b2 (f_X12_wordOf V119 (a0) (j7_2) (j100_4)) fun x69 _ =>
  f_X12_splits_165 (V119) (x13) (a0) (p1) (j7_2) (j100_4) (zz6) (x69)
  )

noncomputable def f_X12_splits_75c (V : dV) (x13 a0 p1 j7_2 j75_4 : Int) : Sum (dV × Int × Int × Int × Int × Int) (Sum (dV × Int × Int × Int) (dR)) :=
  if p1 ≤ j75_4 then (
  Sum.inr (f_X12_splits_100 (V) (x13) (a0) (p1) (j7_2) (j75_4))
  ) else (
  dv_b (V a0 11 (j75_4)) fun x70 =>
  dv_b2 (f_X12_isDigit V (x70)) fun x71 _ =>
  if x71 = 0 then (
  Sum.inr (f_X12_splits_100 (V) (x13) (a0) (p1) (j7_2) (j75_4))
  ) else (
  dv_b (j75_4 + 1) fun x72 =>
  Sum.inl (V, x13, a0, p1, j7_2, x72)
  )
  )
noncomputable def f_X12_splits_75b (s : (dV × Int × Int × Int × Int × Int)) : Sum (dV × Int × Int × Int × Int × Int) (Sum (dV × Int × Int × Int) (dR)) := f_X12_splits_75c (s.1) (s.2.1) (s.2.2.1) (s.2.2.2.1) (s.2.2.2.2.1) (s.2.2.2.2.2)

theorem f_X12_splits_75e (V : dV) (x13 a0 p1 j7_2 j75_4 : Int) : f_X12_splits_75b (V, x13, a0, p1, j7_2, j75_4) = f_X12_splits_75c V x13 a0 p1 j7_2 j75_4 := rfl

noncomputable def f_X12_splits_68 (V : dV) (x13 a0 p1 j7_2 j68_4 : Int) : Sum (dV × Int × Int × Int) (dR) :=
  dv_b2 (f_X12_isDigit V (x13)) fun x16 _ =>
  if x16 = 0 then (
  f_X12_splits_100 (V) (x13) (a0) (p1) (j7_2) (j68_4)
  ) else (
  dv_lp (f_X12_splits_75b) (V, x13, a0, p1, j7_2, j68_4)
  )

noncomputable def f_X12_splits_43c (V : dV) (x13 a0 p1 j7_2 j43_4 : Int) : Sum (dV × Int × Int × Int × Int × Int) (Sum (dV × Int × Int × Int) (dR)) :=
  if p1 ≤ j43_4 then (
  Sum.inr (f_X12_splits_68 (V) (x13) (a0) (p1) (j7_2) (j43_4))
  ) else (
  dv_b (V a0 11 (j43_4)) fun x73 =>
  dv_b2 (f_X12_isSmall V (x73)) fun x74 _ =>
  if x74 = 0 then (
  Sum.inr (f_X12_splits_68 (V) (x13) (a0) (p1) (j7_2) (j43_4))
  ) else (
  dv_b (j43_4 + 1) fun x75 =>
  Sum.inl (V, x13, a0, p1, j7_2, x75)
  )
  )
noncomputable def f_X12_splits_43b (s : (dV × Int × Int × Int × Int × Int)) : Sum (dV × Int × Int × Int × Int × Int) (Sum (dV × Int × Int × Int) (dR)) := f_X12_splits_43c (s.1) (s.2.1) (s.2.2.1) (s.2.2.2.1) (s.2.2.2.2.1) (s.2.2.2.2.2)

theorem f_X12_splits_43e (V : dV) (x13 a0 p1 j7_2 j43_4 : Int) : f_X12_splits_43b (V, x13, a0, p1, j7_2, j43_4) = f_X12_splits_43c V x13 a0 p1 j7_2 j43_4 := rfl

noncomputable def f_X12_splits_7c (V : dV) (a0 p1 j7_2 : Int) : Sum (dV × Int × Int × Int) (dR) :=
  if p1 ≤ j7_2 then (
  dv_b (V a0 18 0) fun zz1 =>
  dv_b (dv_u V a0 17 (zz1) (p1)) fun V272 =>
  dv_b (V272 a0 18 0) fun zz2 =>
  dv_b (dv_u V272 a0 15 (zz2) (0)) fun V282 =>
  dv_b (V282 a0 18 0) fun zz3 =>
  dv_b (dv_u V282 a0 16 (zz3) (0)) fun V292 =>
  Sum.inr ((V292, 0))
  ) else (
  dv_b (V a0 11 (j7_2)) fun x13 =>
  if x13 ≠ 32 then (
  dv_b (j7_2 + 1) fun x14 =>
  dv_b2 (f_X12_isSmall V (x13)) fun x15 _ =>
  if x15 = 0 then (
  f_X12_splits_68 (V) (x13) (a0) (p1) (j7_2) (x14)
  ) else (
  dv_lp (f_X12_splits_43b) (V, x13, a0, p1, j7_2, x14)
  )
  ) else (
  dv_b (j7_2 + 1) fun x76 =>
  Sum.inl (V, a0, p1, x76)
  )
  )
noncomputable def f_X12_splits_7b (s : (dV × Int × Int × Int)) : Sum (dV × Int × Int × Int) (dR) := f_X12_splits_7c (s.1) (s.2.1) (s.2.2.1) (s.2.2.2)

theorem f_X12_splits_7e (V : dV) (a0 p1 j7_2 : Int) : f_X12_splits_7b (V, a0, p1, j7_2) = f_X12_splits_7c V a0 p1 j7_2 := rfl

noncomputable def f_X12_splits (V : dV) (a0 p1 : Int) : dR :=
  dv_b (dv_u V a0 18 0 (0)) fun V2 =>
  dv_lp (f_X12_splits_7b) (V2, a0, p1, 0)

noncomputable def f_X12_reads_34c (V : dV) (a0 j34_1 : Int) : Sum (dV × Int × Int) (dR) :=
  dv_b2 (f_X12_sign V (59)) fun x6 _ =>
  dv_b2 (f_X12_takes0 V (a0) (x6)) fun V40 x7 =>
  if x7 = 0 then (
  dv_b2 (f_X12_fine V40 (a0)) fun x8 _ =>
  if x8 = 0 then (
  dv_b (V40 a0 21 0) fun zz2 =>
  dv_b (dv_u V40 a0 14 0 (zz2)) fun V100 =>
  dv_b2 (f_X12_fine V100 (a0)) fun x11 _ =>
  Sum.inr ((V100, x11))
  ) else (
  dv_b (V40 a0 19 0) fun zz3 =>
  dv_b (V40 a0 18 0) fun zz4 =>
  if zz4 ≤ zz3 then (
  dv_b (V40 a0 21 0) fun zz5 =>
  dv_b (dv_u V40 a0 14 0 (zz5)) fun V100 =>
  dv_b2 (f_X12_fine V100 (a0)) fun x18 _ =>
  Sum.inr ((V100, x18))
  ) else (
  dv_b2 (f_X12_faults V40 (a0)) fun V92 _ =>
  dv_b (V92 a0 21 0) fun zz6 =>
  dv_b (dv_u V92 a0 14 0 (zz6)) fun V100 =>
  dv_b2 (f_X12_fine V100 (a0)) fun x21 _ =>
  Sum.inr ((V100, x21))
  )
  )
  ) else (
  if j34_1 ≠ 12 then (
  dv_b2 (f_X12_fine V40 (a0)) fun x22 _ =>
  if x22 = 0 then (
  dv_b (dv_add (j34_1) (1)) fun x23 =>
  Sum.inl (V40, a0, x23)
  ) else (
  dv_b2 (f_X12_readOne V40 (a0)) fun V64 _ =>
  dv_b (dv_add (j34_1) (1)) fun x24 =>
  Sum.inl (V64, a0, x24)
  )
  ) else (
  dv_b2 (f_X12_faults V40 (a0)) fun V53 _ =>
  dv_b2 (f_X12_fine V53 (a0)) fun x25 _ =>
  if x25 = 0 then (
  dv_b (j34_1 + 1) fun x26 =>
  Sum.inl (V53, a0, x26)
  ) else (
  dv_b2 (f_X12_readOne V53 (a0)) fun V64 _ =>
  dv_b (j34_1 + 1) fun x27 =>
  Sum.inl (V64, a0, x27)
  )
  )
  )
noncomputable def f_X12_reads_34b (s : (dV × Int × Int)) : Sum (dV × Int × Int) (dR) := f_X12_reads_34c (s.1) (s.2.1) (s.2.2)

theorem f_X12_reads_34e (V : dV) (a0 j34_1 : Int) : f_X12_reads_34b (V, a0, j34_1) = f_X12_reads_34c V a0 j34_1 := rfl

noncomputable def f_X12_reads (V : dV) (a0 : Int) : dR :=
  dv_b (V a0 13 0) fun zz1 =>
  dv_b2 (f_X12_splits V (a0) (zz1)) fun V5 _ =>
  dv_b (dv_u V5 a0 13 0 (0)) fun V10 =>
  dv_b (dv_u V10 a0 19 0 (0)) fun V15 =>
  dv_b (dv_u V15 a0 20 0 (0)) fun V20 =>
  dv_b (dv_u V20 a0 21 0 ((-1))) fun V25 =>
  dv_b2 (f_X12_readOne V25 (a0)) fun V29 _ =>
  dv_lp (f_X12_reads_34b) (V29, a0, 1)


noncomputable def f_X12_good (V : dV) (a0 p1 : Int) : dR :=
  dv_b (dv_u V a0 0 0 (0)) fun V2 =>
  (V2, p1)

noncomputable def f_X12_refuses (V : dV) (a0 p1 : Int) : dR :=
  dv_b (dv_u V a0 0 0 (p1)) fun V2 =>
  dv_b (dv_neg (p1)) fun x2 =>
  dv_b (V2 a0 1 (x2)) fun x3 =>
  dv_b (dv_add (x3) (1)) fun x4 =>
  dv_b (dv_u V2 a0 1 (x2) (x4)) fun V15 =>
  (V15, p1)

noncomputable def f_X12_goodOr (V : dV) (a0 p1 : Int) : dR :=
  if 0 ≤ p1 then (
  dv_b2 (f_X12_good V (a0) (p1)) fun V14 x1 =>
  (V14, x1)
  ) else (
  dv_b2 (f_X12_refuses V (a0) (p1)) fun V6 x2 =>
  (V6, x2)
  )

noncomputable def f_X12_settled (V : dV) (a0 p1 : Int) : dR :=
  dv_b (dv_u V a0 33 0 (0)) fun V2 =>
  dv_b2 (f_X12_good V2 (a0) (p1)) fun V7 x1 =>
  (V7, x1)

noncomputable def f_X12_small (V : dV) (p1 : Int) : dP :=
  dv_b (dv_lcmp (p1) (0)) fun x1 =>
  if x1 < 0 then (
  ((-1), ())
  ) else (
  dv_b (dv_lcmp (p1) (1000000)) fun x2 =>
  if x2 ≤ 0 then (
  dv_b (dv_l2i (p1)) fun x3 =>
  (x3, ())
  ) else (
  ((-1), ())
  )
  )

noncomputable def f_X12_end (V : dV) (a0 p1 : Int) : dR :=
  dv_b (V a0 13 0) fun zz1 =>
  dv_b2 (f_X12_lies V (p1) (0) (zz1)) fun x2 _ =>
  if x2 ≠ 0 then (
  dv_b (dv_u V a0 13 0 (p1)) fun V16 =>
  (V16, p1)
  ) else (
  (V, (-1))
  )

noncomputable def f_X12_feed_55c (V : dV) (a0 j55_6 : Int) : Sum (dV × Int × Int) (dR) :=
  if 20 ≤ j55_6 then (
  dv_b (V a0 13 0) fun zz2 =>
  dv_b (zz2 + 20) fun x17 =>
  dv_b (dv_u V a0 13 0 (x17)) fun V109 =>
  dv_b (V109 a0 13 0) fun zz3 =>
  Sum.inr ((V109, zz3))
  ) else (
  dv_b (V a0 13 0) fun zz4 =>
  dv_b (zz4 + j55_6) fun x23 =>
  dv_b (j55_6 / 4) fun x24 =>
  dv_b (V a0 12 (x24)) fun x25 =>
  dv_b (j55_6 % 4) fun x26 =>
  dv_b (8 * x26) fun x27 =>
  dv_b (24 - x27) fun x28 =>
  dv_b (dv_shr (x25) (x28)) fun x29 =>
  dv_b (dv_i2b (x29)) fun x30 =>
  dv_b (dv_u V a0 11 (x23) (dv_i2b (x30))) fun V94 =>
  dv_b (j55_6 + 1) fun x34 =>
  Sum.inl (V94, a0, x34)
  )
noncomputable def f_X12_feed_55b (s : (dV × Int × Int)) : Sum (dV × Int × Int) (dR) := f_X12_feed_55c (s.1) (s.2.1) (s.2.2)

theorem f_X12_feed_55e (V : dV) (a0 j55_6 : Int) : f_X12_feed_55b (V, a0, j55_6) = f_X12_feed_55c V a0 j55_6 := rfl

noncomputable def f_X12_feed (V : dV) (a0 p1 p2 p3 p4 p5 : Int) : dR :=
  dv_b (V a0 13 0) fun zz1 =>
  dv_b (zz1 + 20) fun x3 =>
  if x3 ≤ 400 then (
  dv_b (dv_u V a0 12 (0) (p1)) fun V21 =>
  dv_b (dv_u V21 a0 12 (1) (p2)) fun V28 =>
  dv_b (dv_u V28 a0 12 (2) (p3)) fun V35 =>
  dv_b (dv_u V35 a0 12 (3) (p4)) fun V43 =>
  dv_b (dv_u V43 a0 12 (4) (p5)) fun V51 =>
  dv_lp (f_X12_feed_55b) (V51, a0, 0)
  ) else (
  (V, (-1))
  )

noncomputable def f_X12_draws (V : dV) (a0 p1 : Int) : dR :=
  dv_b (V a0 56 0) fun zz1 =>
  dv_b (zz1) fun y2 =>
  dv_b (dv_lmul (1103) (y2)) fun y3 =>
  dv_b (dv_ladd (y3) (12345)) fun y4 =>
  dv_b (dv_lrem (y4) (1000003)) fun y5 =>
  dv_b (dv_l2i (y5)) fun x6 =>
  dv_b (dv_u V a0 56 0 (x6)) fun V19 =>
  dv_b (V19 a0 56 0) fun zz2 =>
  dv_b (zz2 % p1) fun x8 =>
  (V19, x8)

noncomputable def f_X12_turnsSquare_3c (V : dV) (a0 p1 p2 p3 j3_4 : Int) : Sum (dV × Int × Int × Int × Int × Int) (dR) :=
  dv_b (p3 + p1) fun x1 =>
  if x1 ≤ j3_4 then (
  Sum.inr ((V, 0))
  ) else (
  dv_b (V a0 29 (j3_4)) fun x3 =>
  dv_b (dv_shl (1) (p1)) fun x4 =>
  dv_b (dv_sub (x4) (1)) fun x5 =>
  dv_b (dv_shl (x5) (p2)) fun x6 =>
  dv_b (dv_xor (x3) (x6)) fun x7 =>
  dv_b (dv_u V a0 29 (j3_4) (x7)) fun V27 =>
  dv_b (j3_4 + 1) fun x9 =>
  Sum.inl (V27, a0, p1, p2, p3, x9)
  )
noncomputable def f_X12_turnsSquare_3b (s : (dV × Int × Int × Int × Int × Int)) : Sum (dV × Int × Int × Int × Int × Int) (dR) := f_X12_turnsSquare_3c (s.1) (s.2.1) (s.2.2.1) (s.2.2.2.1) (s.2.2.2.2.1) (s.2.2.2.2.2)

theorem f_X12_turnsSquare_3e (V : dV) (a0 p1 p2 p3 j3_4 : Int) : f_X12_turnsSquare_3b (V, a0, p1, p2, p3, j3_4) = f_X12_turnsSquare_3c V a0 p1 p2 p3 j3_4 := rfl

noncomputable def f_X12_turnsSquare (V : dV) (a0 p1 p2 p3 : Int) : dR :=
  dv_lp (f_X12_turnsSquare_3b) (V, a0, p1, p2, p3, p3)

noncomputable def f_X12_laysCovered_23c (V : dV) (a0 j23_1 : Int) : Sum (dV × Int × Int) (Sum (dV × Int × Int) (dR)) :=
  dv_b2 (f_X12_many V (a0)) fun x1 _ =>
  if x1 ≤ j23_1 then (
  Sum.inr (Sum.inr ((V, 0)))
  ) else (
  dv_b2 (f_X12_isLaid V (a0) (j23_1)) fun x2 _ =>
  if x2 = 0 then (
  dv_b (j23_1 + 1) fun x3 =>
  Sum.inl (V, a0, x3)
  ) else (
  dv_b (29 + j23_1) fun x5 =>
  dv_b (V a0 2 (x5)) fun x6 =>
  dv_b (9 + j23_1) fun x7 =>
  dv_b (V a0 2 (x7)) fun x8 =>
  dv_b (18 + j23_1) fun x9 =>
  dv_b (V a0 2 (x9)) fun x10 =>
  dv_b2 (f_X12_turnsSquare V (a0) (x6) (x8) (x10)) fun V67 _ =>
  dv_b (j23_1 + 1) fun x12 =>
  Sum.inl (V67, a0, x12)
  )
  )
noncomputable def f_X12_laysCovered_23b (s : (dV × Int × Int)) : Sum (dV × Int × Int) (Sum (dV × Int × Int) (dR)) := f_X12_laysCovered_23c (s.1) (s.2.1) (s.2.2)

theorem f_X12_laysCovered_23e (V : dV) (a0 j23_1 : Int) : f_X12_laysCovered_23b (V, a0, j23_1) = f_X12_laysCovered_23c V a0 j23_1 := rfl

noncomputable def f_X12_laysCovered_2c (V : dV) (a0 j2_1 : Int) : Sum (dV × Int × Int) (dR) :=
  if 12 ≤ j2_1 then (
  dv_lp (f_X12_laysCovered_23b) (V, a0, 0)
  ) else (
  dv_b (dv_u V a0 29 (j2_1) (0)) fun V14 =>
  dv_b (j2_1 + 1) fun x15 =>
  Sum.inl (V14, a0, x15)
  )
noncomputable def f_X12_laysCovered_2b (s : (dV × Int × Int)) : Sum (dV × Int × Int) (dR) := f_X12_laysCovered_2c (s.1) (s.2.1) (s.2.2)

theorem f_X12_laysCovered_2e (V : dV) (a0 j2_1 : Int) : f_X12_laysCovered_2b (V, a0, j2_1) = f_X12_laysCovered_2c V a0 j2_1 := rfl

noncomputable def f_X12_laysCovered (V : dV) (a0 : Int) : dR :=
  dv_lp (f_X12_laysCovered_2b) (V, a0, 0)

noncomputable def f_X12_canLay (V : dV) (a0 p1 p2 p3 : Int) : dR :=
  dv_b2 (f_X12_isLaid V (a0) (p1)) fun x1 _ =>
  if x1 ≠ 0 then (
  (V, 0)
  ) else (
  dv_b2 (f_X12_isWhole V (a0) (p1)) fun x2 _ =>
  if x2 ≠ 0 then (
  dv_b2 (f_X12_laysCovered V (a0)) fun V19 _ =>
  dv_b (29 + p1) fun x4 =>
  dv_b (V19 a0 2 (x4)) fun x5 =>
  dv_b (V19 a0 2 (67)) fun x6 =>
  dv_b (V19 a0 2 (68)) fun x7 =>
  dv_b2 (f_X12_isFree V19 (a0) (x5) (p2) (p3) (x6) (x7)) fun x8 _ =>
  if x8 = 0 then (
  (V19, 0)
  ) else (
  dv_b2 (f_X12_isBarred V19 (a0) (p1) (p2) (p3)) fun V58 x9 =>
  if x9 ≠ 0 then (
  (V58, 0)
  ) else (
  (V58, 1)
  )
  )
  ) else (
  (V, 0)
  )
  )

noncomputable def f_X12_rolls (V : dV) (a0 p1 : Int) : dR :=
  dv_b (9 + p1) fun x2 =>
  dv_b (dv_u V a0 2 (x2) ((-1))) fun V9 =>
  dv_b (18 + p1) fun x4 =>
  dv_b (dv_u V9 a0 2 (x4) ((-1))) fun V19 =>
  (V19, 0)

noncomputable def f_X12_laysAt (V : dV) (a0 p1 p2 p3 : Int) : dR :=
  dv_b2 (f_X12_costsAt V (a0) (p1) (p2) (p3)) fun V4 x1 =>
  dv_b (9 + p1) fun x3 =>
  dv_b (dv_u V4 a0 2 (x3) (p2)) fun V18 =>
  dv_b (18 + p1) fun x5 =>
  dv_b (dv_u V18 a0 2 (x5) (p3)) fun V28 =>
  dv_b (V28 a0 2 (27)) fun x7 =>
  dv_b (dv_add (x7) (x1)) fun x8 =>
  dv_b2 (f_X12_lesser V28 (9999) (x8)) fun x9 _ =>
  dv_b (dv_u V28 a0 2 (27) (x9)) fun V51 =>
  (V51, x1)

noncomputable def f_X12_yearPasses_43c (V : dV) (a0 j43_1 j43_2 : Int) : Sum (dV × Int × Int × Int) (Sum (dV × Int × Int) (dR)) :=
  dv_b2 (f_X12_many V (a0)) fun x2 _ =>
  if x2 ≤ j43_2 then (
  dv_b (V a0 2 (28)) fun x4 =>
  dv_b (dv_add (x4) (1)) fun x5 =>
  dv_b (dv_u V a0 2 (28) (x5)) fun V124 =>
  Sum.inr (Sum.inr ((V124, j43_1)))
  ) else (
  dv_b2 (f_X12_isLaid V (a0) (j43_2)) fun x6 _ =>
  if x6 ≠ 0 then (
  dv_b (0 + j43_2) fun x8 =>
  dv_b (0 + j43_2) fun x9 =>
  dv_b (V a0 2 (x9)) fun x10 =>
  dv_b (V a0 30 (j43_2)) fun x12 =>
  dv_b (dv_sub (x10) (x12)) fun x13 =>
  dv_b2 (f_X12_greater V (0) (x13)) fun x14 _ =>
  dv_b (dv_u V a0 2 (x8) (x14)) fun V88 =>
  dv_b2 (f_X12_isWhole V88 (a0) (j43_2)) fun x17 _ =>
  if x17 = 0 then (
  dv_b2 (f_X12_rolls V88 (a0) (j43_2)) fun V102 _ =>
  dv_b (j43_1 + 1) fun x20 =>
  dv_b (j43_2 + 1) fun x21 =>
  Sum.inl (V102, a0, x20, x21)
  ) else (
  dv_b (j43_2 + 1) fun x22 =>
  Sum.inl (V88, a0, j43_1, x22)
  )
  ) else (
  dv_b (j43_2 + 1) fun x23 =>
  Sum.inl (V, a0, j43_1, x23)
  )
  )
noncomputable def f_X12_yearPasses_43b (s : (dV × Int × Int × Int)) : Sum (dV × Int × Int × Int) (Sum (dV × Int × Int) (dR)) := f_X12_yearPasses_43c (s.1) (s.2.1) (s.2.2.1) (s.2.2.2)

theorem f_X12_yearPasses_43e (V : dV) (a0 j43_1 j43_2 : Int) : f_X12_yearPasses_43b (V, a0, j43_1, j43_2) = f_X12_yearPasses_43c V a0 j43_1 j43_2 := rfl

noncomputable def f_X12_yearPasses_4c (V : dV) (a0 j4_2 : Int) : Sum (dV × Int × Int) (dR) :=
  dv_b2 (f_X12_many V (a0)) fun x1 _ =>
  if x1 ≤ j4_2 then (
  dv_lp (f_X12_yearPasses_43b) (V, a0, 0, 0)
  ) else (
  dv_b2 (f_X12_isLaid V (a0) (j4_2)) fun x25 _ =>
  if x25 = 0 then (
  dv_b (dv_u V a0 30 (j4_2) (0)) fun V34 =>
  dv_b (j4_2 + 1) fun x27 =>
  Sum.inl (V34, a0, x27)
  ) else (
  dv_b2 (f_X12_wearsNow V (a0) (j4_2)) fun V27 x28 =>
  dv_b (dv_u V27 a0 30 (j4_2) (x28)) fun V34 =>
  dv_b (j4_2 + 1) fun x31 =>
  Sum.inl (V34, a0, x31)
  )
  )
noncomputable def f_X12_yearPasses_4b (s : (dV × Int × Int)) : Sum (dV × Int × Int) (dR) := f_X12_yearPasses_4c (s.1) (s.2.1) (s.2.2)

theorem f_X12_yearPasses_4e (V : dV) (a0 j4_2 : Int) : f_X12_yearPasses_4b (V, a0, j4_2) = f_X12_yearPasses_4c V a0 j4_2 := rfl

noncomputable def f_X12_yearPasses (V : dV) (a0 : Int) : dR :=
  dv_lp (f_X12_yearPasses_4b) (V, a0, 0)

noncomputable def f_X12_adds (V : dV) (a0 p1 p2 p3 : Int) : dR :=
  dv_b2 (f_X12_many V (a0)) fun x1 _ =>
  dv_b (29 + x1) fun x3 =>
  dv_b (dv_u V a0 2 (x3) (p1)) fun V16 =>
  dv_b (38 + x1) fun x5 =>
  dv_b (dv_u V16 a0 2 (x5) (p2)) fun V27 =>
  dv_b (0 + x1) fun x7 =>
  dv_b (dv_u V27 a0 2 (x7) (p3)) fun V37 =>
  dv_b2 (f_X12_rolls V37 (a0) (x1)) fun V41 _ =>
  dv_b (V41 a0 2 (69)) fun x10 =>
  dv_b (x10 + 1) fun x11 =>
  dv_b (dv_u V41 a0 2 (69) (x11)) fun V54 =>
  (V54, 0)

noncomputable def f_X12_hall_14 (V : dV) (a0 : Int) : dR :=
  dv_b2 (f_X12_refuses V (a0) ((-1))) fun V16 x2 =>
  (V16, x2)

noncomputable def f_X12_hall (V : dV) (a0 p1 p2 : Int) : dR :=
  dv_b2 (f_X12_isSide V (p1)) fun x1 _ =>
  if x1 = 0 then (
  f_X12_hall_14 (V) (a0)
  ) else (
  dv_b2 (f_X12_isSide V (p2)) fun x3 _ =>
  if x3 ≠ 0 then (
  dv_b2 (f_X12_laidMany V (a0)) fun x4 _ =>
  if x4 ≤ 0 then (
  dv_b (dv_u V a0 2 (67) (p1)) fun V41 =>
  dv_b (dv_u V41 a0 2 (68) (p2)) fun V49 =>
  dv_b (p1 * p2) fun x8 =>
  dv_b2 (f_X12_settled V49 (a0) (x8)) fun V54 x10 =>
  (V54, x10)
  ) else (
  dv_b2 (f_X12_refuses V (a0) ((-3))) fun V30 x12 =>
  (V30, x12)
  )
  ) else (
  f_X12_hall_14 (V) (a0)
  )
  )

noncomputable def f_X12_carpet (V : dV) (a0 p1 p2 p3 : Int) : dR :=
  dv_b2 (f_X12_canBe V (p1) (p2) (p3)) fun x1 _ =>
  if x1 ≠ 0 then (
  dv_b2 (f_X12_many V (a0)) fun x2 _ =>
  if x2 ≠ 9 then (
  dv_b2 (f_X12_adds V (a0) (p1) (p2) (p3)) fun V35 _ =>
  dv_b2 (f_X12_many V35 (a0)) fun x3 _ =>
  dv_b (x3 - 1) fun x4 =>
  dv_b2 (f_X12_settled V35 (a0) (x4)) fun V45 x5 =>
  (V45, x5)
  ) else (
  dv_b2 (f_X12_refuses V (a0) ((-5))) fun V27 x6 =>
  (V27, x6)
  )
  ) else (
  dv_b2 (f_X12_refuses V (a0) ((-1))) fun V11 x7 =>
  (V11, x7)
  )

noncomputable def f_X12_terms (V : dV) (a0 p1 p2 : Int) : dR :=
  dv_b2 (f_X12_isTerm V (p1) (p2)) fun x1 _ =>
  if x1 ≠ 0 then (
  dv_b2 (f_X12_termAt V (p1)) fun x3 _ =>
  dv_b (V a0 2 (x3)) fun x4 =>
  dv_b2 (f_X12_termAt V (p1)) fun x5 _ =>
  dv_b (dv_u V a0 2 (x5) (p2)) fun V33 =>
  dv_b2 (f_X12_settled V33 (a0) (x4)) fun V36 x7 =>
  (V36, x7)
  ) else (
  dv_b2 (f_X12_refuses V (a0) ((-1))) fun V10 x9 =>
  (V10, x9)
  )

noncomputable def f_X12_row_122 (V : dV) (zz1 a0 j40_2 j40_3 : Int) : Sum (dV × Int × Int × Int × Int) (dR) :=
  dv_b (j40_2 + 0) fun x7 =>
  dv_b (V a0 6 0) fun zz2 =>
  dv_b (dv_add (zz2) (1)) fun x9 =>
  dv_b (dv_u V a0 6 0 (x9)) fun V151 =>
  dv_b (j40_3 + 3) fun x11 =>
  Sum.inl (V151, zz1, a0, x7, x11)

noncomputable def f_X12_row_122x2 (V : dV) (zz1 a0 j40_2 j40_3 : Int) : Sum (dV × Int × Int × Int × Int) (dR) :=
  dv_b (j40_2 + 0) fun x20 =>
  dv_b (V a0 6 0) fun zz3 =>
  dv_b (dv_add (zz3) (1)) fun x22 =>
  dv_b (dv_u V a0 6 0 (x22)) fun V151 =>
  dv_b (j40_3 + 3) fun x25 =>
  Sum.inl (V151, zz1, a0, x20, x25)

noncomputable def f_X12_row_122x3 (V : dV) (zz1 a0 j40_2 j40_3 : Int) : Sum (dV × Int × Int × Int × Int) (dR) :=
  dv_b (dv_add (j40_2) (1)) fun x27 =>
  dv_b (V a0 6 0) fun zz4 =>
  dv_b (zz4 + 0) fun x29 =>
  dv_b (dv_u V a0 6 0 (x29)) fun V151 =>
  dv_b (j40_3 + 3) fun x32 =>
  Sum.inl (V151, zz1, a0, x27, x32)

noncomputable def f_X12_row_40c (V : dV) (zz1 a0 j40_2 j40_3 : Int) : Sum (dV × Int × Int × Int × Int) (dR) :=
  dv_b (j40_3 + 3) fun x4 =>
  if zz1 < x4 then (
  dv_b2 (f_X12_settled V (a0) (j40_2)) fun V162 x5 =>
  Sum.inr ((V162, x5))
  ) else (
  dv_b2 (f_X12_many V (a0)) fun x6 _ =>
  if 9 ≤ x6 then (
  f_X12_row_122 (V) (zz1) (a0) (j40_2) (j40_3)
  ) else (
  dv_b (V a0 11 (j40_3)) fun x13 =>
  dv_b (j40_3 + 1) fun x14 =>
  dv_b (V a0 11 (x14)) fun x15 =>
  dv_b (j40_3 + 2) fun x16 =>
  dv_b (V a0 11 (x16)) fun x17 =>
  dv_b2 (f_X12_canBe V (x13) (x15) (x17)) fun x18 _ =>
  if x18 = 0 then (
  f_X12_row_122x2 (V) (zz1) (a0) (j40_2) (j40_3)
  ) else (
  dv_b (V a0 11 (j40_3)) fun x33 =>
  dv_b (j40_3 + 1) fun x34 =>
  dv_b (V a0 11 (x34)) fun x35 =>
  dv_b (j40_3 + 2) fun x36 =>
  dv_b (V a0 11 (x36)) fun x37 =>
  dv_b2 (f_X12_adds V (a0) (x33) (x35) (x37)) fun V119 _ =>
  f_X12_row_122x3 (V119) (zz1) (a0) (j40_2) (j40_3)
  )
  )
  )
noncomputable def f_X12_row_40b (s : (dV × Int × Int × Int × Int)) : Sum (dV × Int × Int × Int × Int) (dR) := f_X12_row_40c (s.1) (s.2.1) (s.2.2.1) (s.2.2.2.1) (s.2.2.2.2)

theorem f_X12_row_40e (V : dV) (zz1 a0 j40_2 j40_3 : Int) : f_X12_row_40b (V, zz1, a0, j40_2, j40_3) = f_X12_row_40c V zz1 a0 j40_2 j40_3 := rfl

noncomputable def f_X12_row_35 (V : dV) (zz1 a0 s35_1 : Int) : dR :=
  dv_b (dv_u V a0 6 0 (s35_1)) fun V35 =>
  dv_lp (f_X12_row_40b) (V35, zz1, a0, 0, 0)

noncomputable def f_X12_row (V : dV) (a0 : Int) : dR :=
  dv_b (V a0 13 0) fun zz1 =>
  dv_b (dv_u V a0 13 0 (0)) fun V7 =>
  if zz1 ≠ 0 then (
  dv_b (zz1 % 3) fun x2 =>
  if x2 ≠ 0 then (
  f_X12_row_35 (V7) (zz1) (a0) (1)
  ) else (
  f_X12_row_35 (V7) (zz1) (a0) (0)
  )
  ) else (
  dv_b2 (f_X12_refuses V7 (a0) ((-6))) fun V17 x39 =>
  (V17, x39)
  )

noncomputable def f_X12_image_17c (V : dV) (a0 p1 j17_2 : Int) : Sum (dV × Int × Int × Int) (dR) :=
  if 5680 ≤ j17_2 then (
  dv_b (dv_u V a0 4 (p1) (1)) fun V54 =>
  dv_b2 (f_X12_good V54 (a0) (0)) fun V57 x4 =>
  Sum.inr ((V57, x4))
  ) else (
  dv_b (5680 * p1) fun x6 =>
  dv_b (x6 + j17_2) fun x7 =>
  dv_b (V a0 2 (j17_2)) fun x9 =>
  dv_b (dv_u V a0 3 (x7) (x9)) fun V41 =>
  dv_b (j17_2 + 1) fun x12 =>
  Sum.inl (V41, a0, p1, x12)
  )
noncomputable def f_X12_image_17b (s : (dV × Int × Int × Int)) : Sum (dV × Int × Int × Int) (dR) := f_X12_image_17c (s.1) (s.2.1) (s.2.2.1) (s.2.2.2)

theorem f_X12_image_17e (V : dV) (a0 p1 j17_2 : Int) : f_X12_image_17b (V, a0, p1, j17_2) = f_X12_image_17c V a0 p1 j17_2 := rfl

noncomputable def f_X12_image (V : dV) (a0 p1 : Int) : dR :=
  dv_b2 (f_X12_lies V (p1) (0) (1)) fun x1 _ =>
  if x1 ≠ 0 then (
  dv_lp (f_X12_image_17b) (V, a0, p1, 0)
  ) else (
  dv_b2 (f_X12_refuses V (a0) ((-1))) fun V11 x13 =>
  (V11, x13)
  )

noncomputable def f_X12_back_33c (V : dV) (a0 p1 j33_2 : Int) : Sum (dV × Int × Int × Int) (dR) :=
  if 5680 ≤ j33_2 then (
  dv_b2 (f_X12_settled V (a0) (0)) fun V66 x4 =>
  Sum.inr ((V66, x4))
  ) else (
  dv_b (5680 * p1) fun x7 =>
  dv_b (x7 + j33_2) fun x8 =>
  dv_b (V a0 3 (x8)) fun x9 =>
  dv_b (dv_u V a0 2 (j33_2) (x9)) fun V57 =>
  dv_b (j33_2 + 1) fun x12 =>
  Sum.inl (V57, a0, p1, x12)
  )
noncomputable def f_X12_back_33b (s : (dV × Int × Int × Int)) : Sum (dV × Int × Int × Int) (dR) := f_X12_back_33c (s.1) (s.2.1) (s.2.2.1) (s.2.2.2)

theorem f_X12_back_33e (V : dV) (a0 p1 j33_2 : Int) : f_X12_back_33b (V, a0, p1, j33_2) = f_X12_back_33c V a0 p1 j33_2 := rfl

noncomputable def f_X12_back (V : dV) (a0 p1 : Int) : dR :=
  dv_b2 (f_X12_lies V (p1) (0) (1)) fun x1 _ =>
  if x1 ≠ 0 then (
  dv_b (V a0 4 (p1)) fun x3 =>
  if x3 ≠ 0 then (
  dv_lp (f_X12_back_33b) (V, a0, p1, 0)
  ) else (
  dv_b2 (f_X12_refuses V (a0) ((-2))) fun V27 x13 =>
  (V27, x13)
  )
  ) else (
  dv_b2 (f_X12_refuses V (a0) ((-1))) fun V11 x14 =>
  (V11, x14)
  )

noncomputable def f_X12_force (V : dV) (a0 p1 : Int) : dR :=
  dv_b2 (f_X12_isLaw V (a0) (p1)) fun x1 _ =>
  if x1 ≠ 0 then (
  dv_b (V a0 2 (72)) fun x3 =>
  dv_b (dv_u V a0 2 (72) (p1)) fun V30 =>
  dv_b2 (f_X12_good V30 (a0) (x3)) fun V33 x5 =>
  (V33, x5)
  ) else (
  dv_b2 (f_X12_refuses V (a0) ((-2))) fun V11 x7 =>
  (V11, x7)
  )

noncomputable def f_X12_seen_21 (V : dV) (a0 : Int) : dR :=
  dv_b2 (f_X12_refuses V (a0) ((-1))) fun V23 x2 =>
  (V23, x2)

noncomputable def f_X12_seen (V : dV) (a0 p1 p2 p3 : Int) : dR :=
  dv_b2 (f_X12_isAlong V (p1)) fun x1 _ =>
  if x1 = 0 then (
  f_X12_seen_21 (V) (a0)
  ) else (
  dv_b2 (f_X12_isAlong V (p2)) fun x3 _ =>
  if x3 = 0 then (
  f_X12_seen_21 (V) (a0)
  ) else (
  dv_b2 (f_X12_isSide V (p3)) fun x4 _ =>
  if x4 ≠ 0 then (
  dv_b (V a0 2 (70)) fun x6 =>
  dv_b (3 * x6) fun x7 =>
  dv_b (47 + x7) fun x8 =>
  dv_b (V a0 2 (70)) fun x9 =>
  if x9 ≠ 6 then (
  dv_b (dv_u V a0 2 (x8) (p1)) fun V67 =>
  dv_b (x8 + 1) fun x11 =>
  dv_b (dv_u V67 a0 2 (x11) (p2)) fun V77 =>
  dv_b (x8 + 2) fun x13 =>
  dv_b (dv_u V77 a0 2 (x13) (p3)) fun V87 =>
  dv_b (V87 a0 2 (70)) fun x15 =>
  dv_b (x15 + 1) fun x16 =>
  dv_b (dv_u V87 a0 2 (70) (x16)) fun V98 =>
  dv_b (V98 a0 2 (70)) fun x18 =>
  dv_b2 (f_X12_good V98 (a0) (x18)) fun V107 x19 =>
  (V107, x19)
  ) else (
  dv_b2 (f_X12_refuses V (a0) ((-5))) fun V56 x21 =>
  (V56, x21)
  )
  ) else (
  f_X12_seen_21 (V) (a0)
  )
  )
  )

noncomputable def f_X12_forget (V : dV) (a0 : Int) : dR :=
  dv_b (V a0 2 (70)) fun x2 =>
  dv_b (dv_u V a0 2 (70) (0)) fun V15 =>
  (V15, x2)

noncomputable def f_X12_laysAside_2c (V : dV) (a0 p1 j2_2 : Int) : Sum (dV × Int × Int × Int) (dR) :=
  if 29 ≤ j2_2 then (
  Sum.inr ((V, 0))
  ) else (
  dv_b (29 * p1) fun x2 =>
  dv_b (x2 + j2_2) fun x3 =>
  dv_b (V a0 2 (j2_2)) fun x5 =>
  dv_b (dv_u V a0 5 (x3) (x5)) fun V24 =>
  dv_b (j2_2 + 1) fun x8 =>
  Sum.inl (V24, a0, p1, x8)
  )
noncomputable def f_X12_laysAside_2b (s : (dV × Int × Int × Int)) : Sum (dV × Int × Int × Int) (dR) := f_X12_laysAside_2c (s.1) (s.2.1) (s.2.2.1) (s.2.2.2)

theorem f_X12_laysAside_2e (V : dV) (a0 p1 j2_2 : Int) : f_X12_laysAside_2b (V, a0, p1, j2_2) = f_X12_laysAside_2c V a0 p1 j2_2 := rfl

noncomputable def f_X12_laysAside (V : dV) (a0 p1 : Int) : dR :=
  dv_lp (f_X12_laysAside_2b) (V, a0, p1, 0)

noncomputable def f_X12_takesBack_2c (V : dV) (a0 p1 j2_2 : Int) : Sum (dV × Int × Int × Int) (dR) :=
  if 29 ≤ j2_2 then (
  Sum.inr ((V, 0))
  ) else (
  dv_b (29 * p1) fun x3 =>
  dv_b (x3 + j2_2) fun x4 =>
  dv_b (V a0 5 (x4)) fun x5 =>
  dv_b (dv_u V a0 2 (j2_2) (x5)) fun V24 =>
  dv_b (j2_2 + 1) fun x8 =>
  Sum.inl (V24, a0, p1, x8)
  )
noncomputable def f_X12_takesBack_2b (s : (dV × Int × Int × Int)) : Sum (dV × Int × Int × Int) (dR) := f_X12_takesBack_2c (s.1) (s.2.1) (s.2.2.1) (s.2.2.2)

theorem f_X12_takesBack_2e (V : dV) (a0 p1 j2_2 : Int) : f_X12_takesBack_2b (V, a0, p1, j2_2) = f_X12_takesBack_2c V a0 p1 j2_2 := rfl

noncomputable def f_X12_takesBack (V : dV) (a0 p1 : Int) : dR :=
  dv_lp (f_X12_takesBack_2b) (V, a0, p1, 0)

noncomputable def f_X12_keeps_54c (V : dV) (a0 p1 j54_3 : Int) : Sum (dV × Int × Int × Int) (dR) :=
  if 29 ≤ j54_3 then (
  dv_b (V a0 33 0) fun zz2 =>
  dv_b (30 * zz2) fun x6 =>
  dv_b (x6 + 29) fun x7 =>
  dv_b (dv_u V a0 31 (x7) (p1)) fun V99 =>
  dv_b (V99 a0 33 0) fun zz3 =>
  dv_b (zz3 + 1) fun x10 =>
  dv_b (dv_u V99 a0 33 0 (x10)) fun V107 =>
  Sum.inr ((V107, 0))
  ) else (
  dv_b (V a0 33 0) fun zz4 =>
  dv_b (30 * zz4) fun x14 =>
  dv_b (x14 + j54_3) fun x15 =>
  dv_b (V a0 2 (j54_3)) fun x17 =>
  dv_b (dv_u V a0 31 (x15) (x17)) fun V78 =>
  dv_b (j54_3 + 1) fun x21 =>
  Sum.inl (V78, a0, p1, x21)
  )
noncomputable def f_X12_keeps_54b (s : (dV × Int × Int × Int)) : Sum (dV × Int × Int × Int) (dR) := f_X12_keeps_54c (s.1) (s.2.1) (s.2.2.1) (s.2.2.2)

theorem f_X12_keeps_54e (V : dV) (a0 p1 j54_3 : Int) : f_X12_keeps_54b (V, a0, p1, j54_3) = f_X12_keeps_54c V a0 p1 j54_3 := rfl

noncomputable def f_X12_keeps_52 (V : dV) (a0 p1 : Int) : dR :=
  dv_lp (f_X12_keeps_54b) (V, a0, p1, 0)

noncomputable def f_X12_keeps_14c (V : dV) (a0 p1 j14_3 : Int) : Sum (dV × Int × Int × Int) (dR) :=
  dv_b (15 * 30) fun x22 =>
  if x22 ≤ j14_3 then (
  dv_b (V a0 33 0) fun zz5 =>
  dv_b (zz5 - 1) fun x24 =>
  dv_b (dv_u V a0 33 0 (x24)) fun V49 =>
  Sum.inr (f_X12_keeps_52 (V49) (a0) (p1))
  ) else (
  dv_b (j14_3 + 30) fun x27 =>
  dv_b (V a0 31 (x27)) fun x28 =>
  dv_b (dv_u V a0 31 (j14_3) (x28)) fun V35 =>
  dv_b (j14_3 + 1) fun x31 =>
  Sum.inl (V35, a0, p1, x31)
  )
noncomputable def f_X12_keeps_14b (s : (dV × Int × Int × Int)) : Sum (dV × Int × Int × Int) (dR) := f_X12_keeps_14c (s.1) (s.2.1) (s.2.2.1) (s.2.2.2)

theorem f_X12_keeps_14e (V : dV) (a0 p1 j14_3 : Int) : f_X12_keeps_14b (V, a0, p1, j14_3) = f_X12_keeps_14c V a0 p1 j14_3 := rfl

noncomputable def f_X12_keeps (V : dV) (a0 p1 : Int) : dR :=
  dv_b (V a0 33 0) fun zz1 =>
  if zz1 ≠ 16 then (
  f_X12_keeps_52 (V) (a0) (p1)
  ) else (
  dv_lp (f_X12_keeps_14b) (V, a0, p1, 0)
  )

noncomputable def f_X12_undo_34c (V : dV) (x7 a0 j34_2 : Int) : Sum (dV × Int × Int × Int) (dR) :=
  if 29 ≤ j34_2 then (
  dv_b (x7 + 29) fun x9 =>
  dv_b (V a0 31 (x9)) fun x10 =>
  dv_b2 (f_X12_good V (a0) (x10)) fun V70 x11 =>
  Sum.inr ((V70, x11))
  ) else (
  dv_b (x7 + j34_2) fun x14 =>
  dv_b (V a0 31 (x14)) fun x15 =>
  dv_b (dv_u V a0 2 (j34_2) (x15)) fun V53 =>
  dv_b (j34_2 + 1) fun x18 =>
  Sum.inl (V53, x7, a0, x18)
  )
noncomputable def f_X12_undo_34b (s : (dV × Int × Int × Int)) : Sum (dV × Int × Int × Int) (dR) := f_X12_undo_34c (s.1) (s.2.1) (s.2.2.1) (s.2.2.2)

theorem f_X12_undo_34e (V : dV) (x7 a0 j34_2 : Int) : f_X12_undo_34b (V, x7, a0, j34_2) = f_X12_undo_34c V x7 a0 j34_2 := rfl

noncomputable def f_X12_undo (V : dV) (a0 : Int) : dR :=
  dv_b (V a0 33 0) fun zz1 =>
  if zz1 ≠ 0 then (
  dv_b (V a0 33 0) fun zz2 =>
  dv_b (zz2 - 1) fun x4 =>
  dv_b (dv_u V a0 33 0 (x4)) fun V21 =>
  dv_b (V21 a0 33 0) fun zz3 =>
  dv_b (30 * zz3) fun x7 =>
  dv_lp (f_X12_undo_34b) (V21, x7, a0, 0)
  ) else (
  dv_b2 (f_X12_refuses V (a0) ((-3))) fun V10 x19 =>
  (V10, x19)
  )

noncomputable def f_X12_laysKept (V : dV) (a0 p1 p2 p3 : Int) : dR :=
  dv_b2 (f_X12_isAlong V (p2)) fun x1 _ =>
  if x1 = 0 then (
  (V, (-1))
  ) else (
  dv_b2 (f_X12_isAlong V (p3)) fun x2 _ =>
  if x2 ≠ 0 then (
  dv_b2 (f_X12_isCarpet V (a0) (p1)) fun x3 _ =>
  if x3 ≠ 0 then (
  dv_b2 (f_X12_canLay V (a0) (p1) (p2) (p3)) fun V31 x4 =>
  if x4 ≠ 0 then (
  dv_b2 (f_X12_keeps V31 (a0) (0)) fun V42 _ =>
  dv_b2 (f_X12_laysAt V42 (a0) (p1) (p2) (p3)) fun V49 x5 =>
  (V49, x5)
  ) else (
  (V31, (-3))
  )
  ) else (
  (V, (-2))
  )
  ) else (
  (V, (-1))
  )
  )

noncomputable def f_X12_rollsKept (V : dV) (a0 p1 : Int) : dR :=
  dv_b2 (f_X12_isCarpet V (a0) (p1)) fun x1 _ =>
  if x1 ≠ 0 then (
  dv_b2 (f_X12_isLaid V (a0) (p1)) fun x2 _ =>
  if x2 ≠ 0 then (
  dv_b2 (f_X12_keeps V (a0) (1)) fun V24 _ =>
  dv_b2 (f_X12_rolls V24 (a0) (p1)) fun V29 _ =>
  dv_b2 (f_X12_bareMany V29 (a0)) fun x3 _ =>
  (V29, x3)
  ) else (
  (V, (-3))
  )
  ) else (
  (V, (-2))
  )

noncomputable def f_X12_mirrorsKept_7c (V : dV) (a0 j7_1 : Int) : Sum (dV × Int × Int) (dR) :=
  dv_b2 (f_X12_many V (a0)) fun x1 _ =>
  if x1 ≤ j7_1 then (
  dv_b2 (f_X12_laidMany V (a0)) fun x2 _ =>
  Sum.inr ((V, x2))
  ) else (
  dv_b (9 + j7_1) fun x4 =>
  dv_b2 (f_X12_isLaid V (a0) (j7_1)) fun x5 _ =>
  if x5 = 0 then (
  dv_b (dv_u V a0 2 (x4) ((-1))) fun V62 =>
  dv_b (j7_1 + 1) fun x7 =>
  Sum.inl (V62, a0, x7)
  ) else (
  dv_b (V a0 2 (67)) fun x8 =>
  dv_b (9 + j7_1) fun x9 =>
  dv_b (V a0 2 (x9)) fun x10 =>
  dv_b (x8 - x10) fun x11 =>
  dv_b (29 + j7_1) fun x12 =>
  dv_b (V a0 2 (x12)) fun x13 =>
  dv_b (x11 - x13) fun x14 =>
  dv_b (dv_u V a0 2 (x4) (x14)) fun V62 =>
  dv_b (j7_1 + 1) fun x16 =>
  Sum.inl (V62, a0, x16)
  )
  )
noncomputable def f_X12_mirrorsKept_7b (s : (dV × Int × Int)) : Sum (dV × Int × Int) (dR) := f_X12_mirrorsKept_7c (s.1) (s.2.1) (s.2.2)

theorem f_X12_mirrorsKept_7e (V : dV) (a0 j7_1 : Int) : f_X12_mirrorsKept_7b (V, a0, j7_1) = f_X12_mirrorsKept_7c V a0 j7_1 := rfl

noncomputable def f_X12_mirrorsKept (V : dV) (a0 : Int) : dR :=
  dv_b2 (f_X12_keeps V (a0) (2)) fun V2 _ =>
  dv_lp (f_X12_mirrorsKept_7b) (V2, a0, 0)

noncomputable def f_X12_passesKept (V : dV) (a0 : Int) : dR :=
  dv_b (V a0 2 (28)) fun x2 =>
  if x2 ≠ 999 then (
  dv_b2 (f_X12_keeps V (a0) (3)) fun V18 _ =>
  dv_b2 (f_X12_yearPasses V18 (a0)) fun V22 x3 =>
  (V22, x3)
  ) else (
  (V, (-3))
  )

noncomputable def f_X12_lay (V : dV) (a0 p1 p2 p3 : Int) : dR :=
  dv_b2 (f_X12_laysKept V (a0) (p1) (p2) (p3)) fun V5 x1 =>
  dv_b2 (f_X12_goodOr V5 (a0) (x1)) fun V8 x2 =>
  (V8, x2)

noncomputable def f_X12_roll (V : dV) (a0 p1 : Int) : dR :=
  dv_b2 (f_X12_rollsKept V (a0) (p1)) fun V3 x1 =>
  dv_b2 (f_X12_goodOr V3 (a0) (x1)) fun V6 x2 =>
  (V6, x2)

noncomputable def f_X12_mirror (V : dV) (a0 : Int) : dR :=
  dv_b2 (f_X12_mirrorsKept V (a0)) fun V2 x1 =>
  dv_b2 (f_X12_goodOr V2 (a0) (x1)) fun V5 x2 =>
  (V5, x2)

noncomputable def f_X12_pass (V : dV) (a0 : Int) : dR :=
  dv_b2 (f_X12_passesKept V (a0)) fun V2 x1 =>
  dv_b2 (f_X12_goodOr V2 (a0) (x1)) fun V5 x2 =>
  (V5, x2)

noncomputable def f_X12_laysPrices_82 (V : dV) (a0 p1 j2_2 : Int) : Sum (dV × Int × Int × Int × Int) (Sum (dV × Int × Int × Int) (dR)) :=
  dv_b (j2_2 + 1) fun x2 =>
  Sum.inr (Sum.inl (V, a0, p1, x2))

noncomputable def f_X12_laysPrices_12c (V : dV) (a0 p1 j2_2 j12_3 : Int) : Sum (dV × Int × Int × Int × Int) (Sum (dV × Int × Int × Int) (dR)) :=
  if 144 ≤ j12_3 then (
  f_X12_laysPrices_82 (V) (a0) (p1) (j2_2)
  ) else (
  dv_b2 (f_X12_isIn V (p1) (j2_2)) fun x3 _ =>
  if x3 = 0 then (
  f_X12_laysPrices_82 (V) (a0) (p1) (j2_2)
  ) else (
  dv_b (j12_3 % 12) fun x4 =>
  dv_b (j12_3 / 12) fun x5 =>
  dv_b (144 * j2_2) fun x7 =>
  dv_b (x7 + j12_3) fun x8 =>
  dv_b2 (f_X12_isBarred V (a0) (j2_2) (x4) (x5)) fun V56 x9 =>
  if x9 = 0 then (
  dv_b2 (f_X12_costsAt V56 (a0) (j2_2) (x4) (x5)) fun V72 x11 =>
  dv_b (dv_u V72 a0 34 (x8) (x11)) fun V75 =>
  dv_b (j12_3 + 1) fun x14 =>
  Sum.inl (V75, a0, p1, j2_2, x14)
  ) else (
  dv_b (dv_u V56 a0 34 (x8) ((-1))) fun V75 =>
  dv_b (j12_3 + 1) fun x16 =>
  Sum.inl (V75, a0, p1, j2_2, x16)
  )
  )
  )
noncomputable def f_X12_laysPrices_12b (s : (dV × Int × Int × Int × Int)) : Sum (dV × Int × Int × Int × Int) (Sum (dV × Int × Int × Int) (dR)) := f_X12_laysPrices_12c (s.1) (s.2.1) (s.2.2.1) (s.2.2.2.1) (s.2.2.2.2)

theorem f_X12_laysPrices_12e (V : dV) (a0 p1 j2_2 j12_3 : Int) : f_X12_laysPrices_12b (V, a0, p1, j2_2, j12_3) = f_X12_laysPrices_12c V a0 p1 j2_2 j12_3 := rfl

noncomputable def f_X12_laysPrices_2c (V : dV) (a0 p1 j2_2 : Int) : Sum (dV × Int × Int × Int) (dR) :=
  dv_b2 (f_X12_many V (a0)) fun x1 _ =>
  if x1 ≤ j2_2 then (
  Sum.inr ((V, 0))
  ) else (
  dv_lp (f_X12_laysPrices_12b) (V, a0, p1, j2_2, 0)
  )
noncomputable def f_X12_laysPrices_2b (s : (dV × Int × Int × Int)) : Sum (dV × Int × Int × Int) (dR) := f_X12_laysPrices_2c (s.1) (s.2.1) (s.2.2.1) (s.2.2.2)

theorem f_X12_laysPrices_2e (V : dV) (a0 p1 j2_2 : Int) : f_X12_laysPrices_2b (V, a0, p1, j2_2) = f_X12_laysPrices_2c V a0 p1 j2_2 := rfl

noncomputable def f_X12_laysPrices (V : dV) (a0 p1 : Int) : dR :=
  dv_lp (f_X12_laysPrices_2b) (V, a0, p1, 0)

noncomputable def f_X12_countsRow_25c (V : dV) (x5 a0 p1 j2_2 j25_4 : Int) : Sum (dV × Int × Int × Int × Int × Int) (Sum (dV × Int × Int × Int) (dR)) :=
  dv_b (x5 * x5) fun x8 =>
  if x8 ≤ j25_4 then (
  dv_b (j2_2 + 1) fun x10 =>
  Sum.inr (Sum.inl (V, a0, p1, x10))
  ) else (
  dv_b (V a0 36 (j2_2)) fun x13 =>
  dv_b (j25_4 / x5) fun x14 =>
  dv_b (x14 * 12) fun x15 =>
  dv_b (x13 + x15) fun x16 =>
  dv_b (j25_4 % x5) fun x17 =>
  dv_b (x16 + x17) fun x18 =>
  dv_b (9 * x18) fun x19 =>
  dv_b (V a0 35 (j2_2)) fun x20 =>
  dv_b (x19 + x20) fun x21 =>
  dv_b (V a0 38 (x21)) fun x22 =>
  dv_b (dv_add (x22) (1)) fun x23 =>
  dv_b (dv_u V a0 38 (x21) (x23)) fun V70 =>
  dv_b (j25_4 + 1) fun x28 =>
  Sum.inl (V70, x5, a0, p1, j2_2, x28)
  )
noncomputable def f_X12_countsRow_25b (s : (dV × Int × Int × Int × Int × Int)) : Sum (dV × Int × Int × Int × Int × Int) (Sum (dV × Int × Int × Int) (dR)) := f_X12_countsRow_25c (s.1) (s.2.1) (s.2.2.1) (s.2.2.2.1) (s.2.2.2.2.1) (s.2.2.2.2.2)

theorem f_X12_countsRow_25e (V : dV) (x5 a0 p1 j2_2 j25_4 : Int) : f_X12_countsRow_25b (V, x5, a0, p1, j2_2, j25_4) = f_X12_countsRow_25c V x5 a0 p1 j2_2 j25_4 := rfl

noncomputable def f_X12_countsRow_2c (V : dV) (a0 p1 j2_2 : Int) : Sum (dV × Int × Int × Int) (dR) :=
  if p1 ≤ j2_2 then (
  Sum.inr ((V, 0))
  ) else (
  dv_b (V a0 35 (j2_2)) fun x3 =>
  dv_b (29 + x3) fun x4 =>
  dv_b (V a0 2 (x4)) fun x5 =>
  dv_lp (f_X12_countsRow_25b) (V, x5, a0, p1, j2_2, 0)
  )
noncomputable def f_X12_countsRow_2b (s : (dV × Int × Int × Int)) : Sum (dV × Int × Int × Int) (dR) := f_X12_countsRow_2c (s.1) (s.2.1) (s.2.2.1) (s.2.2.2)

theorem f_X12_countsRow_2e (V : dV) (a0 p1 j2_2 : Int) : f_X12_countsRow_2b (V, a0, p1, j2_2) = f_X12_countsRow_2c V a0 p1 j2_2 := rfl

noncomputable def f_X12_countsRow (V : dV) (a0 p1 : Int) : dR :=
  dv_lp (f_X12_countsRow_2b) (V, a0, p1, 0)

noncomputable def f_X12_fills_66c (V : dV) (a0 p1 j66_3 : Int) : Sum (dV × Int × Int × Int) (dR) :=
  if p1 ≤ j66_3 then (
  Sum.inr ((V, 0))
  ) else (
  dv_b (V a0 35 (j66_3)) fun x13 =>
  dv_b (dv_u V a0 37 (j66_3) (x13)) fun V82 =>
  dv_b (j66_3 + 1) fun x16 =>
  Sum.inl (V82, a0, p1, x16)
  )
noncomputable def f_X12_fills_66b (s : (dV × Int × Int × Int)) : Sum (dV × Int × Int × Int) (dR) := f_X12_fills_66c (s.1) (s.2.1) (s.2.2.1) (s.2.2.2)

theorem f_X12_fills_66e (V : dV) (a0 p1 j66_3 : Int) : f_X12_fills_66b (V, a0, p1, j66_3) = f_X12_fills_66c V a0 p1 j66_3 := rfl

noncomputable def f_X12_fills_50 (V : dV) (a0 p1 : Int) : dR :=
  dv_b (V a0 41 0) fun zz5 =>
  if zz5 ≤ 1 then (
  dv_b (dv_u V a0 42 0 (p1)) fun V61 =>
  dv_lp (f_X12_fills_66b) (V61, a0, p1, 0)
  ) else (
  (V, 0)
  )

noncomputable def f_X12_fills_16 (V : dV) (a0 p1 p2 : Int) : dR :=
  dv_b (V a0 41 0) fun zz2 =>
  dv_b (dv_add (zz2) (1)) fun x3 =>
  dv_b (dv_u V a0 41 0 (x3)) fun V23 =>
  dv_b (V23 a0 43 0) fun zz3 =>
  dv_b2 (f_X12_lesser V23 (zz3) (p2)) fun x7 _ =>
  dv_b (dv_u V23 a0 43 0 (x7)) fun V35 =>
  dv_b (V35 a0 44 0) fun zz4 =>
  if zz4 = 0 then (
  f_X12_fills_50 (V35) (a0) (p1)
  ) else (
  dv_b2 (f_X12_countsRow V35 (a0) (p1)) fun V47 _ =>
  f_X12_fills_50 (V47) (a0) (p1)
  )

noncomputable def f_X12_fills (V : dV) (a0 p1 p2 : Int) : dR :=
  dv_b (V a0 44 0) fun zz1 =>
  if zz1 = 0 then (
  f_X12_fills_16 (V) (a0) (p1) (p2)
  ) else (
  dv_b2 (f_X12_isSeenSo V (a0) (p1)) fun x19 _ =>
  if x19 ≠ 0 then (
  f_X12_fills_16 (V) (a0) (p1) (p2)
  ) else (
  (V, 0)
  )
  )

noncomputable def f_X12_goesOn_59c (d : Nat) (rc : dV → Int → Int → Int → Int → dR) (V : dV) (x6 x5 x4 a0 p1 p2 p3 j59_7 : Int) : Sum (dV × Int × Int × Int × Int × Int × Int × Int × Int) (dR) :=
  dv_b2 (f_X12_many V (a0)) fun x9 _ =>
  if x9 ≤ j59_7 then (
  Sum.inr ((V, 0))
  ) else (
  dv_b2 (f_X12_isIn V (p1) (j59_7)) fun x10 _ =>
  if x10 = 0 then (
  dv_b (j59_7 + 1) fun x11 =>
  Sum.inl (V, x6, x5, x4, a0, p1, p2, p3, x11)
  ) else (
  dv_b2 (f_X12_priceAt V (a0) (j59_7) (x4)) fun x12 _ =>
  if x12 = (-1) then (
  dv_b (j59_7 + 1) fun x13 =>
  Sum.inl (V, x6, x5, x4, a0, p1, p2, p3, x13)
  ) else (
  dv_b (29 + j59_7) fun x15 =>
  dv_b (V a0 2 (x15)) fun x16 =>
  dv_b (V a0 39 0) fun zz4 =>
  dv_b (V a0 40 0) fun zz5 =>
  dv_b2 (f_X12_isFree V (a0) (x16) (x5) (x6) (zz4) (zz5)) fun x17 _ =>
  if x17 ≠ 0 then (
  dv_b (29 + j59_7) fun x18 =>
  dv_b (V a0 2 (x18)) fun x19 =>
  dv_b2 (f_X12_turnsSquare V (a0) (x19) (x5) (x6)) fun V136 _ =>
  dv_b (dv_u V136 a0 35 (p2) (j59_7)) fun V146 =>
  dv_b (dv_u V146 a0 36 (p2) (x4)) fun V154 =>
  dv_b (dv_shl (1) (j59_7)) fun x34 =>
  dv_b (dv_xor (x34) ((-1))) fun x35 =>
  dv_b (dv_and (p1) (x35)) fun x36 =>
  dv_b (p2 + 1) fun x37 =>
  dv_b2 (f_X12_priceAt V154 (a0) (j59_7) (x4)) fun x38 _ =>
  dv_b (dv_add (p3) (x38)) fun x39 =>
  dv_b2 (rc V154 (a0) (x36) (x37) (x39)) fun V177 _ =>
  dv_b (29 + j59_7) fun x45 =>
  dv_b (V177 a0 2 (x45)) fun x46 =>
  dv_b2 (f_X12_turnsSquare V177 (a0) (x46) (x5) (x6)) fun V195 _ =>
  dv_b (j59_7 + 1) fun x52 =>
  Sum.inl (V195, x6, x5, x4, a0, p1, p2, p3, x52)
  ) else (
  dv_b (j59_7 + 1) fun x53 =>
  Sum.inl (V, x6, x5, x4, a0, p1, p2, p3, x53)
  )
  )
  )
  )
noncomputable def f_X12_goesOn_59b (d : Nat) (rc : dV → Int → Int → Int → Int → dR) (s : (dV × Int × Int × Int × Int × Int × Int × Int × Int)) : Sum (dV × Int × Int × Int × Int × Int × Int × Int × Int) (dR) := f_X12_goesOn_59c d rc (s.1) (s.2.1) (s.2.2.1) (s.2.2.2.1) (s.2.2.2.2.1) (s.2.2.2.2.2.1) (s.2.2.2.2.2.2.1) (s.2.2.2.2.2.2.2.1) (s.2.2.2.2.2.2.2.2)

theorem f_X12_goesOn_59e (d : Nat) (rc : dV → Int → Int → Int → Int → dR) (V : dV) (x6 x5 x4 a0 p1 p2 p3 j59_7 : Int) : f_X12_goesOn_59b d rc (V, x6, x5, x4, a0, p1, p2, p3, j59_7) = f_X12_goesOn_59c d rc V x6 x5 x4 a0 p1 p2 p3 j59_7 := rfl

noncomputable def f_X12_goesOn_15 (d : Nat) (rc : dV → Int → Int → Int → Int → dR) (V : dV) (a0 p1 p2 p3 : Int) : dR :=
  dv_b (V a0 39 0) fun zz2 =>
  dv_b (V a0 40 0) fun zz3 =>
  dv_b2 (f_X12_firstBare V (a0) (zz2) (zz3)) fun x4 _ =>
  if x4 ≠ (-1) then (
  dv_b (x4 % 12) fun x5 =>
  dv_b (x4 / 12) fun x6 =>
  dv_lp (f_X12_goesOn_59b d rc) (V, x6, x5, x4, a0, p1, p2, p3, 0)
  ) else (
  dv_b2 (f_X12_fills V (a0) (p2) (p3)) fun V38 _ =>
  (V38, 0)
  )

noncomputable def f_X12_goesOn_B (d : Nat) (rc : dV → Int → Int → Int → Int → dR) (V : dV) (a0 p1 p2 p3 : Int) : dR :=
  dv_b (V a0 45 0) fun zz1 =>
  if zz1 = 0 then (
  f_X12_goesOn_15 d rc (V) (a0) (p1) (p2) (p3)
  ) else (
  dv_b (V a0 41 0) fun zz6 =>
  if zz6 ≤ 0 then (
  f_X12_goesOn_15 d rc (V) (a0) (p1) (p2) (p3)
  ) else (
  (V, 0)
  )
  )

noncomputable def f_X12_goesOn : Nat → dV → Int → Int → Int → Int → dR
  | 0 => f_X12_goesOn_B 0 (fun _ _ _ _ _ => dv_z)
  | d + 1 => f_X12_goesOn_B (d + 1) (f_X12_goesOn d)

theorem f_X12_goesOn_d (d : Nat) (V : dV) (a0 p1 p2 p3 : Int) : f_X12_goesOn d V a0 p1 p2 p3 = f_X12_goesOn_B d (dv_pre (fun _ _ _ _ _ => dv_z) f_X12_goesOn d) V a0 p1 p2 p3 := by cases d <;> rfl

noncomputable def f_X12_goesThrough (V : dV) (a0 p1 p2 p3 : Int) : dR :=
  dv_b (dv_u V a0 39 0 (p2)) fun V2 =>
  dv_b (dv_u V2 a0 40 0 (p3)) fun V7 =>
  dv_b (dv_u V7 a0 41 0 (0)) fun V12 =>
  dv_b (dv_u V12 a0 42 0 (0)) fun V17 =>
  dv_b (dv_u V17 a0 43 0 (1000000)) fun V23 =>
  dv_b2 (f_X12_goesOn 9 V23 (a0) (p1) (0) (0)) fun V30 _ =>
  (V30, 0)

noncomputable def f_X12_fillsNow (V : dV) (a0 p1 : Int) : dR :=
  dv_b2 (f_X12_rolledWhole V (a0)) fun x1 _ =>
  dv_b2 (f_X12_laysPrices V (a0) (x1)) fun V7 _ =>
  dv_b2 (f_X12_laysCovered V7 (a0)) fun V11 _ =>
  dv_b (dv_u V11 a0 44 0 (p1)) fun V16 =>
  dv_b (dv_u V16 a0 45 0 (0)) fun V21 =>
  dv_b (V21 a0 2 (67)) fun x3 =>
  dv_b (V21 a0 2 (68)) fun x4 =>
  dv_b2 (f_X12_goesThrough V21 (a0) (x1) (x3) (x4)) fun V40 _ =>
  (V40, 0)

noncomputable def f_X12_fill (V : dV) (a0 p1 : Int) : dR :=
  if (-1) ≤ p1 then (
  dv_b2 (f_X12_fillsNow V (a0) (0)) fun V9 _ =>
  dv_b (V9 a0 41 0) fun zz1 =>
  if zz1 ≠ 0 then (
  if p1 ≠ (-1) then (
  dv_b (V9 a0 42 0) fun zz2 =>
  if zz2 ≤ p1 then (
  (V9, (-1))
  ) else (
  dv_b (V9 a0 37 (p1)) fun x4 =>
  (V9, x4)
  )
  ) else (
  dv_b (V9 a0 42 0) fun zz3 =>
  (V9, zz3)
  )
  ) else (
  (V9, (-1))
  )
  ) else (
  (V, (-1))
  )

noncomputable def f_X12_ways (V : dV) (a0 : Int) : dR :=
  dv_b2 (f_X12_fillsNow V (a0) (0)) fun V2 _ =>
  dv_b (V2 a0 41 0) fun zz1 =>
  (V2, zz1)

noncomputable def f_X12_cheapest (V : dV) (a0 : Int) : dR :=
  dv_b2 (f_X12_fillsNow V (a0) (0)) fun V2 _ =>
  dv_b (V2 a0 41 0) fun zz1 =>
  if zz1 ≠ 0 then (
  dv_b (V2 a0 43 0) fun zz2 =>
  (V2, zz2)
  ) else (
  (V2, (-1))
  )

noncomputable def f_X12_canFill_3c (V : dV) (a0 p1 p2 p3 j3_4 : Int) : Sum (dV × Int × Int × Int × Int × Int) (dR) :=
  if 12 ≤ j3_4 then (
  dv_b2 (f_X12_goesThrough V (a0) (p1) (p2) (p3)) fun V28 _ =>
  dv_b (V28 a0 41 0) fun zz1 =>
  if zz1 ≤ 0 then (
  Sum.inr ((V28, 0))
  ) else (
  Sum.inr ((V28, 1))
  )
  ) else (
  dv_b (dv_u V a0 29 (j3_4) (0)) fun V17 =>
  dv_b (j3_4 + 1) fun x4 =>
  Sum.inl (V17, a0, p1, p2, p3, x4)
  )
noncomputable def f_X12_canFill_3b (s : (dV × Int × Int × Int × Int × Int)) : Sum (dV × Int × Int × Int × Int × Int) (dR) := f_X12_canFill_3c (s.1) (s.2.1) (s.2.2.1) (s.2.2.2.1) (s.2.2.2.2.1) (s.2.2.2.2.2)

theorem f_X12_canFill_3e (V : dV) (a0 p1 p2 p3 j3_4 : Int) : f_X12_canFill_3b (V, a0, p1, p2, p3, j3_4) = f_X12_canFill_3c V a0 p1 p2 p3 j3_4 := rfl

noncomputable def f_X12_canFill (V : dV) (a0 p1 p2 p3 : Int) : dR :=
  dv_lp (f_X12_canFill_3b) (V, a0, p1, p2, p3, 0)

noncomputable def f_X12_halls_156 (V : dV) (a0 p1 j14_2 j14_3 j93_5 j156_4 : Int) : Sum (dV × Int × Int × Int × Int × Int × Int) (Sum (dV × Int × Int × Int × Int × Int) (dR)) :=
  dv_b (j93_5 + 1) fun x5 =>
  Sum.inl (V, a0, p1, j14_2, j14_3, j156_4, x5)

noncomputable def f_X12_halls_93c (V : dV) (a0 p1 j14_2 j14_3 j93_4 j93_5 : Int) : Sum (dV × Int × Int × Int × Int × Int × Int) (Sum (dV × Int × Int × Int × Int × Int) (dR)) :=
  if 12 < j93_5 then (
  if p1 ≠ (-1) then (
  Sum.inr (Sum.inr ((V, (-1))))
  ) else (
  Sum.inr (Sum.inr ((V, j93_4)))
  )
  ) else (
  dv_b (j14_3 / j93_5) fun x2 =>
  dv_b (j93_5 * x2) fun x3 =>
  if j14_3 ≠ x3 then (
  f_X12_halls_156 (V) (a0) (p1) (j14_2) (j14_3) (j93_5) (j93_4)
  ) else (
  dv_b2 (f_X12_isSide V (x2)) fun x6 _ =>
  if x6 = 0 then (
  f_X12_halls_156 (V) (a0) (p1) (j14_2) (j14_3) (j93_5) (j93_4)
  ) else (
  dv_b2 (f_X12_canFill V (a0) (j14_2) (j93_5) (x2)) fun V129 x7 =>
  if x7 ≠ 0 then (
  if j93_4 ≠ p1 then (
  dv_b (dv_add (j93_4) (1)) fun x8 =>
  f_X12_halls_156 (V129) (a0) (p1) (j14_2) (j14_3) (j93_5) (x8)
  ) else (
  dv_b (100 * j93_5) fun x9 =>
  dv_b (x9 + x2) fun x10 =>
  Sum.inr (Sum.inr ((V129, x10)))
  )
  ) else (
  f_X12_halls_156 (V129) (a0) (p1) (j14_2) (j14_3) (j93_5) (j93_4)
  )
  )
  )
  )
noncomputable def f_X12_halls_93b (s : (dV × Int × Int × Int × Int × Int × Int)) : Sum (dV × Int × Int × Int × Int × Int × Int) (Sum (dV × Int × Int × Int × Int × Int) (dR)) := f_X12_halls_93c (s.1) (s.2.1) (s.2.2.1) (s.2.2.2.1) (s.2.2.2.2.1) (s.2.2.2.2.2.1) (s.2.2.2.2.2.2)

theorem f_X12_halls_93e (V : dV) (a0 p1 j14_2 j14_3 j93_4 j93_5 : Int) : f_X12_halls_93b (V, a0, p1, j14_2, j14_3, j93_4, j93_5) = f_X12_halls_93c V a0 p1 j14_2 j14_3 j93_4 j93_5 := rfl

noncomputable def f_X12_halls_66 (V : dV) (a0 p1 j14_4 j66_2 j66_3 : Int) : Sum (dV × Int × Int × Int × Int × Int) (dR) :=
  dv_b (j14_4 + 1) fun x12 =>
  Sum.inl (V, a0, p1, j66_2, j66_3, x12)

noncomputable def f_X12_halls_14c (V : dV) (a0 p1 j14_2 j14_3 j14_4 : Int) : Sum (dV × Int × Int × Int × Int × Int) (dR) :=
  dv_b2 (f_X12_many V (a0)) fun x1 _ =>
  if x1 ≤ j14_4 then (
  dv_b2 (f_X12_laysPrices V (a0) (j14_2)) fun V74 _ =>
  dv_b (dv_u V74 a0 44 0 (0)) fun V79 =>
  dv_b (dv_u V79 a0 45 0 (1)) fun V84 =>
  dv_lp (f_X12_halls_93b) (V84, a0, p1, j14_2, j14_3, 0, 1)
  ) else (
  dv_b2 (f_X12_isWhole V (a0) (j14_4)) fun x11 _ =>
  if x11 ≠ 0 then (
  dv_b (dv_shl (1) (j14_4)) fun x13 =>
  dv_b (dv_or (j14_2) (x13)) fun x14 =>
  dv_b (29 + j14_4) fun x16 =>
  dv_b (V a0 2 (x16)) fun x17 =>
  dv_b (29 + j14_4) fun x18 =>
  dv_b (V a0 2 (x18)) fun x19 =>
  dv_b (x17 * x19) fun x20 =>
  dv_b (j14_3 + x20) fun x22 =>
  f_X12_halls_66 (V) (a0) (p1) (j14_4) (x14) (x22)
  ) else (
  f_X12_halls_66 (V) (a0) (p1) (j14_4) (j14_2) (j14_3)
  )
  )
noncomputable def f_X12_halls_14b (s : (dV × Int × Int × Int × Int × Int)) : Sum (dV × Int × Int × Int × Int × Int) (dR) := f_X12_halls_14c (s.1) (s.2.1) (s.2.2.1) (s.2.2.2.1) (s.2.2.2.2.1) (s.2.2.2.2.2)

theorem f_X12_halls_14e (V : dV) (a0 p1 j14_2 j14_3 j14_4 : Int) : f_X12_halls_14b (V, a0, p1, j14_2, j14_3, j14_4) = f_X12_halls_14c V a0 p1 j14_2 j14_3 j14_4 := rfl

noncomputable def f_X12_halls (V : dV) (a0 p1 : Int) : dR :=
  if (-1) ≤ p1 then (
  dv_lp (f_X12_halls_14b) (V, a0, p1, 0, 0, 0)
  ) else (
  (V, (-1))
  )

noncomputable def f_X12_laysFloors_2c (V : dV) (a0 j2_1 : Int) : Sum (dV × Int × Int) (dR) :=
  if 1296 ≤ j2_1 then (
  dv_b2 (f_X12_fillsNow V (a0) (1)) fun V24 _ =>
  Sum.inr ((V24, 0))
  ) else (
  dv_b (dv_u V a0 38 (j2_1) (0)) fun V15 =>
  dv_b (j2_1 + 1) fun x3 =>
  Sum.inl (V15, a0, x3)
  )
noncomputable def f_X12_laysFloors_2b (s : (dV × Int × Int)) : Sum (dV × Int × Int) (dR) := f_X12_laysFloors_2c (s.1) (s.2.1) (s.2.2)

theorem f_X12_laysFloors_2e (V : dV) (a0 j2_1 : Int) : f_X12_laysFloors_2b (V, a0, j2_1) = f_X12_laysFloors_2c V a0 j2_1 := rfl

noncomputable def f_X12_laysFloors (V : dV) (a0 : Int) : dR :=
  dv_lp (f_X12_laysFloors_2b) (V, a0, 0)

noncomputable def f_X12_floors (V : dV) (a0 : Int) : dR :=
  dv_b2 (f_X12_laysFloors V (a0)) fun V1 _ =>
  dv_b (V1 a0 41 0) fun zz1 =>
  (V1, zz1)

noncomputable def f_X12_look_72 (V : dV) (p1 j23_2 j23_3 : Int) : Sum (dV × Int × Int × Int × Int × Int) (dR) :=
  if j23_2 ≠ (-1) then (
  if p1 ≠ 0 then (
  if p1 ≠ 1 then (
  Sum.inr ((V, j23_3))
  ) else (
  dv_b (j23_2 / 12) fun x2 =>
  Sum.inr ((V, x2))
  )
  ) else (
  dv_b (j23_2 % 12) fun x3 =>
  Sum.inr ((V, x3))
  )
  ) else (
  Sum.inr ((V, (-1)))
  )

noncomputable def f_X12_look_66 (V : dV) (a0 p1 j23_4 j66_2 j66_3 : Int) : Sum (dV × Int × Int × Int × Int × Int) (dR) :=
  dv_b (j23_4 + 1) fun x6 =>
  Sum.inl (V, a0, p1, j66_2, j66_3, x6)

noncomputable def f_X12_look_23c (V : dV) (a0 p1 j23_2 j23_3 j23_4 : Int) : Sum (dV × Int × Int × Int × Int × Int) (dR) :=
  if 144 ≤ j23_4 then (
  f_X12_look_72 (V) (p1) (j23_2) (j23_3)
  ) else (
  dv_b (V a0 41 0) fun zz1 =>
  if zz1 ≤ 0 then (
  f_X12_look_72 (V) (p1) (j23_2) (j23_3)
  ) else (
  dv_b2 (f_X12_mostAt V (a0) (j23_4)) fun x5 _ =>
  if x5 = 0 then (
  f_X12_look_66 (V) (a0) (p1) (j23_4) (j23_2) (j23_3)
  ) else (
  if x5 < j23_3 then (
  f_X12_look_66 (V) (a0) (p1) (j23_4) (j23_4) (x5)
  ) else (
  f_X12_look_66 (V) (a0) (p1) (j23_4) (j23_2) (j23_3)
  )
  )
  )
  )
noncomputable def f_X12_look_23b (s : (dV × Int × Int × Int × Int × Int)) : Sum (dV × Int × Int × Int × Int × Int) (dR) := f_X12_look_23c (s.1) (s.2.1) (s.2.2.1) (s.2.2.2.1) (s.2.2.2.2.1) (s.2.2.2.2.2)

theorem f_X12_look_23e (V : dV) (a0 p1 j23_2 j23_3 j23_4 : Int) : f_X12_look_23b (V, a0, p1, j23_2, j23_3, j23_4) = f_X12_look_23c V a0 p1 j23_2 j23_3 j23_4 := rfl

noncomputable def f_X12_look (V : dV) (a0 p1 : Int) : dR :=
  dv_b2 (f_X12_lies V (p1) (0) (2)) fun x1 _ =>
  if x1 ≠ 0 then (
  dv_b2 (f_X12_laysFloors V (a0)) fun V12 _ =>
  dv_lp (f_X12_look_23b) (V12, a0, p1, (-1), 1000000, 0)
  ) else (
  (V, (-1))
  )

noncomputable def f_X12_of (V : dV) (a0 p1 p2 : Int) : dR :=
  dv_b2 (f_X12_isCarpet V (a0) (p1)) fun x1 _ =>
  if x1 ≠ 0 then (
  if p2 = 0 then (
  dv_b (29 + p1) fun x3 =>
  dv_b (V a0 2 (x3)) fun x4 =>
  (V, x4)
  ) else (
  if p2 = 1 then (
  dv_b (38 + p1) fun x6 =>
  dv_b (V a0 2 (x6)) fun x7 =>
  (V, x7)
  ) else (
  if p2 = 2 then (
  dv_b (0 + p1) fun x9 =>
  dv_b (V a0 2 (x9)) fun x10 =>
  (V, x10)
  ) else (
  if p2 = 3 then (
  dv_b (9 + p1) fun x12 =>
  dv_b (V a0 2 (x12)) fun x13 =>
  (V, x13)
  ) else (
  if p2 = 4 then (
  dv_b (18 + p1) fun x15 =>
  dv_b (V a0 2 (x15)) fun x16 =>
  (V, x16)
  ) else (
  if p2 = 5 then (
  dv_b2 (f_X12_isLaid V (a0) (p1)) fun x17 _ =>
  if x17 = 0 then (
  (V, (-1))
  ) else (
  dv_b2 (f_X12_wearsNow V (a0) (p1)) fun V107 x18 =>
  (V107, x18)
  )
  ) else (
  (V, (-1))
  ))))))
  ) else (
  (V, (-1))
  )

noncomputable def f_X12_asks (V : dV) (a0 p1 p2 p3 p4 : Int) : dR :=
  dv_b2 (f_X12_isCarpet V (a0) (p1)) fun x1 _ =>
  if x1 = 0 then (
  (V, (-1))
  ) else (
  dv_b2 (f_X12_isAlong V (p2)) fun x2 _ =>
  if x2 = 0 then (
  (V, (-1))
  ) else (
  dv_b2 (f_X12_isAlong V (p3)) fun x3 _ =>
  if x3 ≠ 0 then (
  if p4 = 0 then (
  dv_b2 (f_X12_costsAt V (a0) (p1) (p2) (p3)) fun V56 x4 =>
  (V56, x4)
  ) else (
  if p4 = 1 then (
  dv_b2 (f_X12_isBarred V (a0) (p1) (p2) (p3)) fun V64 x5 =>
  if x5 = 0 then (
  (V64, 0)
  ) else (
  (V64, 1)
  )
  ) else (
  if p4 = 2 then (
  dv_b2 (f_X12_canLay V (a0) (p1) (p2) (p3)) fun V80 x6 =>
  if x6 = 0 then (
  (V80, 0)
  ) else (
  (V80, 1)
  )
  ) else (
  (V, (-1))
  )))
  ) else (
  (V, (-1))
  )
  )
  )

noncomputable def f_X12_bare (V : dV) (a0 p1 : Int) : dR :=
  dv_b2 (f_X12_lies V (p1) (0) (2)) fun x1 _ =>
  if x1 ≠ 0 then (
  if p1 ≠ 0 then (
  dv_b2 (f_X12_laysCovered V (a0)) fun V21 _ =>
  dv_b (V21 a0 2 (67)) fun x3 =>
  dv_b (V21 a0 2 (68)) fun x4 =>
  dv_b2 (f_X12_firstBare V21 (a0) (x3) (x4)) fun x5 _ =>
  if x5 ≠ (-1) then (
  if p1 ≠ 1 then (
  dv_b (x5 / 12) fun x6 =>
  (V21, x6)
  ) else (
  dv_b (x5 % 12) fun x7 =>
  (V21, x7)
  )
  ) else (
  (V21, (-1))
  )
  ) else (
  dv_b2 (f_X12_bareMany V (a0)) fun x8 _ =>
  (V, x8)
  )
  ) else (
  (V, (-1))
  )

noncomputable def f_X12_fitting_74 (V : dV) (a0 p1 j17_3 j31_4 j31_2 s74_1 : Int) : Sum (dV × Int × Int × Int × Int × Int) (Sum (dV × Int × Int × Int × Int) (dR)) :=
  dv_b (dv_add (j31_2) (s74_1)) fun x9 =>
  dv_b (j31_4 + 1) fun x10 =>
  Sum.inl (V, a0, p1, j17_3, x9, x10)

noncomputable def f_X12_fitting_31c (V : dV) (a0 p1 j17_3 j31_2 j31_4 : Int) : Sum (dV × Int × Int × Int × Int × Int) (Sum (dV × Int × Int × Int × Int) (dR)) :=
  dv_b (V a0 2 (68)) fun x4 =>
  if x4 ≤ j31_4 then (
  dv_b (j17_3 + 1) fun x5 =>
  Sum.inr (Sum.inl (V, a0, p1, j31_2, x5))
  ) else (
  dv_b (V a0 2 (67)) fun x6 =>
  dv_b (V a0 2 (68)) fun x7 =>
  dv_b2 (f_X12_isFree V (a0) (p1) (j17_3) (j31_4) (x6) (x7)) fun x8 _ =>
  if x8 = 0 then (
  f_X12_fitting_74 (V) (a0) (p1) (j17_3) (j31_4) (j31_2) (0)
  ) else (
  f_X12_fitting_74 (V) (a0) (p1) (j17_3) (j31_4) (j31_2) (1)
  )
  )
noncomputable def f_X12_fitting_31b (s : (dV × Int × Int × Int × Int × Int)) : Sum (dV × Int × Int × Int × Int × Int) (Sum (dV × Int × Int × Int × Int) (dR)) := f_X12_fitting_31c (s.1) (s.2.1) (s.2.2.1) (s.2.2.2.1) (s.2.2.2.2.1) (s.2.2.2.2.2)

theorem f_X12_fitting_31e (V : dV) (a0 p1 j17_3 j31_2 j31_4 : Int) : f_X12_fitting_31b (V, a0, p1, j17_3, j31_2, j31_4) = f_X12_fitting_31c V a0 p1 j17_3 j31_2 j31_4 := rfl

noncomputable def f_X12_fitting_17c (V : dV) (a0 p1 j17_2 j17_3 : Int) : Sum (dV × Int × Int × Int × Int) (dR) :=
  dv_b (V a0 2 (67)) fun x3 =>
  if x3 ≤ j17_3 then (
  Sum.inr ((V, j17_2))
  ) else (
  dv_lp (f_X12_fitting_31b) (V, a0, p1, j17_3, j17_2, 0)
  )
noncomputable def f_X12_fitting_17b (s : (dV × Int × Int × Int × Int)) : Sum (dV × Int × Int × Int × Int) (dR) := f_X12_fitting_17c (s.1) (s.2.1) (s.2.2.1) (s.2.2.2.1) (s.2.2.2.2)

theorem f_X12_fitting_17e (V : dV) (a0 p1 j17_2 j17_3 : Int) : f_X12_fitting_17b (V, a0, p1, j17_2, j17_3) = f_X12_fitting_17c V a0 p1 j17_2 j17_3 := rfl

noncomputable def f_X12_fitting (V : dV) (a0 p1 : Int) : dR :=
  dv_b2 (f_X12_isSide V (p1)) fun x1 _ =>
  if x1 ≠ 0 then (
  dv_b2 (f_X12_laysCovered V (a0)) fun V10 _ =>
  dv_lp (f_X12_fitting_17b) (V10, a0, p1, 0, 0)
  ) else (
  (V, (-1))
  )

noncomputable def f_X12_readsAs (V : dV) (a0 p1 : Int) : dR :=
  dv_b (dv_u V a0 10 0 (p1)) fun V2 =>
  if p1 = 0 then (
  dv_b (dv_u V2 a0 8 0 (8)) fun V17 =>
  if p1 = 0 then (
  dv_b (dv_u V17 a0 9 0 (15)) fun V32 =>
  dv_b2 (f_X12_reads V32 (a0)) fun V36 x1 =>
  (V36, x1)
  ) else (
  dv_z
  )
  ) else (
  dv_b (dv_u V2 a0 8 0 (14)) fun V17 =>
  if p1 = 0 then (
  dv_z
  ) else (
  dv_b (dv_u V17 a0 9 0 (20)) fun V32 =>
  dv_b2 (f_X12_reads V32 (a0)) fun V36 x2 =>
  (V36, x2)
  )
  )

noncomputable def f_X12_lays_15c (V : dV) (a0 p1 j15_2 : Int) : Sum (dV × Int × Int × Int) (dR) :=
  dv_b (V a0 18 0) fun zz2 =>
  if zz2 ≤ j15_2 then (
  Sum.inr ((V, 0))
  ) else (
  dv_b (400 * p1) fun x11 =>
  dv_b (80 + x11) fun x12 =>
  dv_b (x12 + j15_2) fun x13 =>
  dv_b (V a0 15 (j15_2)) fun x15 =>
  dv_b (dv_u V a0 2 (x13) (x15)) fun V43 =>
  dv_b (400 * p1) fun x19 =>
  dv_b (2880 + x19) fun x20 =>
  dv_b (x20 + j15_2) fun x21 =>
  dv_b (V43 a0 16 (j15_2)) fun x23 =>
  dv_b (dv_u V43 a0 2 (x21) (x23)) fun V65 =>
  dv_b (j15_2 + 1) fun x28 =>
  Sum.inl (V65, a0, p1, x28)
  )
noncomputable def f_X12_lays_15b (s : (dV × Int × Int × Int)) : Sum (dV × Int × Int × Int) (dR) := f_X12_lays_15c (s.1) (s.2.1) (s.2.2.1) (s.2.2.2)

theorem f_X12_lays_15e (V : dV) (a0 p1 j15_2 : Int) : f_X12_lays_15b (V, a0, p1, j15_2) = f_X12_lays_15c V a0 p1 j15_2 := rfl

noncomputable def f_X12_lays (V : dV) (a0 p1 : Int) : dR :=
  dv_b (73 + p1) fun x2 =>
  dv_b (V a0 18 0) fun zz1 =>
  dv_b (dv_u V a0 2 (x2) (zz1)) fun V12 =>
  dv_lp (f_X12_lays_15b) (V12, a0, p1, 0)

noncomputable def f_X12_law (V : dV) (a0 : Int) : dR :=
  dv_b (V a0 2 (71)) fun x2 =>
  if x2 ≠ 6 then (
  dv_b2 (f_X12_readsAs V (a0) (0)) fun V26 x3 =>
  if x3 ≠ 0 then (
  dv_b (V26 a0 2 (71)) fun x5 =>
  dv_b2 (f_X12_lays V26 (a0) (x5)) fun V47 _ =>
  dv_b (V47 a0 2 (71)) fun x7 =>
  dv_b (x7 + 1) fun x8 =>
  dv_b (dv_u V47 a0 2 (71) (x8)) fun V60 =>
  dv_b (V60 a0 2 (71)) fun x10 =>
  dv_b (x10 - 1) fun x11 =>
  dv_b2 (f_X12_good V60 (a0) (x11)) fun V71 x12 =>
  (V71, x12)
  ) else (
  dv_b2 (f_X12_refuses V26 (a0) ((-6))) fun V35 x14 =>
  (V35, x14)
  )
  ) else (
  dv_b (dv_u V a0 13 0 (0)) fun V14 =>
  dv_b2 (f_X12_refuses V14 (a0) ((-5))) fun V20 x17 =>
  (V20, x17)
  )

noncomputable def f_X12_years_20 (V : dV) (a0 : Int) : dR :=
  dv_b2 (f_X12_refuses V (a0) ((-1))) fun V22 x2 =>
  (V22, x2)

noncomputable def f_X12_years_182c (V : dV) (x7 a0 j182_4 : Int) : Sum (dV × Int × Int × Int) (Sum (dV × Int × Int × Int) (dR)) :=
  if 29 ≤ j182_4 then (
  dv_b2 (f_X12_takesBack V (a0) (0)) fun V211 _ =>
  dv_b2 (f_X12_good V211 (a0) (x7)) fun V216 x9 =>
  Sum.inr (Sum.inr ((V216, x9)))
  ) else (
  dv_b (V a0 2 (j182_4)) fun x12 =>
  dv_b (dv_u V a0 54 (j182_4) (x12)) fun V202 =>
  dv_b (j182_4 + 1) fun x15 =>
  Sum.inl (V202, x7, a0, x15)
  )
noncomputable def f_X12_years_182b (s : (dV × Int × Int × Int)) : Sum (dV × Int × Int × Int) (Sum (dV × Int × Int × Int) (dR)) := f_X12_years_182c (s.1) (s.2.1) (s.2.2.1) (s.2.2.2)

theorem f_X12_years_182e (V : dV) (x7 a0 j182_4 : Int) : f_X12_years_182b (V, x7, a0, j182_4) = f_X12_years_182c V x7 a0 j182_4 := rfl

noncomputable def f_X12_years_174 (V : dV) (a0 : Int) : Sum (dV × Int × Int × Int) (dR) :=
  dv_b2 (f_X12_bareMany V (a0)) fun x7 _ =>
  dv_lp (f_X12_years_182b) (V, x7, a0, 0)

noncomputable def f_X12_years_163 (V : dV) (a0 p2 j60_3 : Int) : Sum (dV × Int × Int × Int) (dR) :=
  dv_b2 (f_X12_yearPasses V (a0)) fun V164 x33 =>
  dv_b (j60_3 + 1) fun x35 =>
  Sum.inl (V164, a0, p2, x35)

noncomputable def f_X12_years_151 (V : dV) (x27 x19 a0 p2 j60_3 : Int) : Sum (dV × Int × Int × Int) (dR) :=
  if x27 ≠ 2 then (
  f_X12_years_163 (V) (a0) (p2) (j60_3)
  ) else (
  dv_b2 (f_X12_rolls V (a0) (x19)) fun V160 _ =>
  f_X12_years_163 (V160) (a0) (p2) (j60_3)
  )

noncomputable def f_X12_years_60c (V : dV) (a0 p2 j60_3 : Int) : Sum (dV × Int × Int × Int) (dR) :=
  if p2 ≤ j60_3 then (
  f_X12_years_174 (V) (a0)
  ) else (
  dv_b (V a0 2 (28)) fun x17 =>
  if 999 ≤ x17 then (
  f_X12_years_174 (V) (a0)
  ) else (
  dv_b2 (f_X12_many V (a0)) fun x18 _ =>
  dv_b2 (f_X12_draws V (a0) (x18)) fun V83 x19 =>
  dv_b (V83 a0 2 (67)) fun x21 =>
  dv_b2 (f_X12_draws V83 (a0) (x21)) fun V96 x22 =>
  dv_b (V96 a0 2 (68)) fun x24 =>
  dv_b2 (f_X12_draws V96 (a0) (x24)) fun V109 x25 =>
  dv_b2 (f_X12_draws V109 (a0) (3)) fun V116 x27 =>
  if 2 ≤ x27 then (
  f_X12_years_151 (V116) (x27) (x19) (a0) (p2) (j60_3)
  ) else (
  dv_b2 (f_X12_canLay V116 (a0) (x19) (x22) (x25)) fun V134 x37 =>
  if x37 = 0 then (
  f_X12_years_151 (V134) (x27) (x19) (a0) (p2) (j60_3)
  ) else (
  dv_b2 (f_X12_laysAt V134 (a0) (x19) (x22) (x25)) fun V147 x39 =>
  f_X12_years_151 (V147) (x27) (x19) (a0) (p2) (j60_3)
  )
  )
  )
  )
noncomputable def f_X12_years_60b (s : (dV × Int × Int × Int)) : Sum (dV × Int × Int × Int) (dR) := f_X12_years_60c (s.1) (s.2.1) (s.2.2.1) (s.2.2.2)

theorem f_X12_years_60e (V : dV) (a0 p2 j60_3 : Int) : f_X12_years_60b (V, a0, p2, j60_3) = f_X12_years_60c V a0 p2 j60_3 := rfl

noncomputable def f_X12_years (V : dV) (a0 p1 p2 : Int) : dR :=
  dv_b2 (f_X12_lies V (p1) (0) (1000000)) fun x1 _ =>
  if x1 = 0 then (
  f_X12_years_20 (V) (a0)
  ) else (
  dv_b2 (f_X12_lies V (p2) (1) (60)) fun x3 _ =>
  if x3 ≠ 0 then (
  dv_b2 (f_X12_many V (a0)) fun x4 _ =>
  if x4 ≠ 0 then (
  dv_b (dv_u V a0 56 0 (p1)) fun V42 =>
  dv_b2 (f_X12_many V42 (a0)) fun x5 _ =>
  dv_b (dv_u V42 a0 55 0 (x5)) fun V50 =>
  dv_b2 (f_X12_laysAside V50 (a0) (0)) fun V55 _ =>
  dv_lp (f_X12_years_60b) (V55, a0, p2, 0)
  ) else (
  dv_b2 (f_X12_refuses V (a0) ((-3))) fun V36 x41 =>
  (V36, x41)
  )
  ) else (
  f_X12_years_20 (V) (a0)
  )
  )

noncomputable def f_X12_isMovable (V : dV) (a0 p1 : Int) : dR :=
  dv_b (9 + p1) fun x2 =>
  dv_b (V a0 2 (x2)) fun x3 =>
  dv_b (18 + p1) fun x4 =>
  dv_b (V a0 2 (x4)) fun x5 =>
  dv_b2 (f_X12_rolls V (a0) (p1)) fun V22 _ =>
  dv_b2 (f_X12_fillsNow V22 (a0) (0)) fun V27 _ =>
  dv_b (9 + p1) fun x8 =>
  dv_b (dv_u V27 a0 2 (x8) (x3)) fun V39 =>
  dv_b (18 + p1) fun x10 =>
  dv_b (dv_u V39 a0 2 (x10) (x5)) fun V49 =>
  dv_b (V49 a0 41 0) fun zz1 =>
  if zz1 ≠ 1 then (
  (V49, 0)
  ) else (
  dv_b (V49 a0 42 0) fun zz2 =>
  if zz2 ≠ 1 then (
  (V49, 1)
  ) else (
  dv_b (V49 a0 37 (0)) fun x15 =>
  if x15 = p1 then (
  (V49, 0)
  ) else (
  (V49, 1)
  )
  )
  )

noncomputable def f_X12_free_4c (V : dV) (a0 j4_1 j4_2 : Int) : Sum (dV × Int × Int × Int) (dR) :=
  dv_b2 (f_X12_many V (a0)) fun x2 _ =>
  if x2 ≤ j4_2 then (
  Sum.inr ((V, j4_1))
  ) else (
  dv_b2 (f_X12_isLaid V (a0) (j4_2)) fun x3 _ =>
  if x3 = 0 then (
  dv_b (dv_or (j4_1) (0)) fun x4 =>
  dv_b (j4_2 + 1) fun x5 =>
  Sum.inl (V, a0, x4, x5)
  ) else (
  dv_b2 (f_X12_isMovable V (a0) (j4_2)) fun V23 x6 =>
  if x6 = 0 then (
  dv_b (dv_or (j4_1) (0)) fun x7 =>
  dv_b (j4_2 + 1) fun x8 =>
  Sum.inl (V23, a0, x7, x8)
  ) else (
  dv_b (dv_shl (1) (j4_2)) fun x9 =>
  dv_b (dv_or (j4_1) (x9)) fun x10 =>
  dv_b (j4_2 + 1) fun x11 =>
  Sum.inl (V23, a0, x10, x11)
  )
  )
  )
noncomputable def f_X12_free_4b (s : (dV × Int × Int × Int)) : Sum (dV × Int × Int × Int) (dR) := f_X12_free_4c (s.1) (s.2.1) (s.2.2.1) (s.2.2.2)

theorem f_X12_free_4e (V : dV) (a0 j4_1 j4_2 : Int) : f_X12_free_4b (V, a0, j4_1, j4_2) = f_X12_free_4c V a0 j4_1 j4_2 := rfl

noncomputable def f_X12_free (V : dV) (a0 : Int) : dR :=
  dv_lp (f_X12_free_4b) (V, a0, 0, 0)

noncomputable def f_X12_compare (V : dV) (a0 p1 : Int) : dR :=
  dv_b2 (f_X12_isLaw V (a0) (p1)) fun x1 _ =>
  if x1 ≠ 0 then (
  dv_b (V a0 2 (72)) fun x3 =>
  dv_b (dv_u V a0 2 (72) (p1)) fun V25 =>
  dv_b2 (f_X12_cheapest V25 (a0)) fun V27 x5 =>
  dv_b (dv_u V27 a0 2 (72) (x3)) fun V38 =>
  (V38, x5)
  ) else (
  (V, (-1))
  )

noncomputable def f_X12_goesAlong_234 (V : dV) (a0 s234_1 : Int) : Sum (dV × Int × Int × Int × Int) (dR) :=
  dv_b (dv_u V a0 52 0 (s234_1)) fun V234 =>
  dv_b (V234 a0 22 0) fun zz6 =>
  dv_b (zz6 + 1) fun x26 =>
  dv_b (dv_u V234 a0 22 0 (x26)) fun V244 =>
  Sum.inr ((V244, 0))

noncomputable def f_X12_goesAlong_233 (V : dV) (a0 : Int) : Sum (dV × Int × Int × Int × Int) (dR) :=
  f_X12_goesAlong_234 (V) (a0) (0)

noncomputable def f_X12_goesAlong_211 (V : dV) (a0 s211_1 : Int) : Sum (dV × Int × Int × Int × Int) (dR) :=
  dv_b (dv_u V a0 52 0 (s211_1)) fun V211 =>
  dv_b (V211 a0 52 0) fun zz5 =>
  if zz5 = 0 then (
  f_X12_goesAlong_233 (V211) (a0)
  ) else (
  dv_b (V211 a0 24 0) fun zz7 =>
  if zz7 ≠ 0 then (
  f_X12_goesAlong_233 (V211) (a0)
  ) else (
  f_X12_goesAlong_234 (V211) (a0) (1)
  )
  )

noncomputable def f_X12_goesAlong_206 (V : dV) (a0 : Int) : Sum (dV × Int × Int × Int × Int) (dR) :=
  f_X12_goesAlong_211 (V) (a0) (1)

noncomputable def f_X12_goesAlong_184 (V : dV) (a0 p2 : Int) : Sum (dV × Int × Int × Int × Int) (dR) :=
  dv_b (dv_u V a0 24 0 (0)) fun V186 =>
  dv_b2 (f_X12_passes0 V186 (a0) (4)) fun V192 x20 =>
  if x20 = 0 then (
  f_X12_goesAlong_206 (V192) (a0)
  ) else (
  dv_b2 (f_X12_testOf 8 V192 (a0) (p2)) fun V200 x29 =>
  if x29 = 0 then (
  f_X12_goesAlong_211 (V200) (a0) (0)
  ) else (
  f_X12_goesAlong_206 (V200) (a0)
  )
  )

noncomputable def f_X12_goesAlong_134 (V : dV) (s72_0 a0 p2 j76_4 s134_1 : Int) : Sum (dV × Int × Int × Int × Int) (dR) :=
  dv_b (dv_u V a0 51 0 (s134_1)) fun V134 =>
  dv_b (j76_4 + 1) fun x48 =>
  Sum.inl (V134, s72_0, a0, p2, x48)

noncomputable def f_X12_goesAlong_133 (V : dV) (s72_0 a0 p2 j76_4 : Int) : Sum (dV × Int × Int × Int × Int) (dR) :=
  f_X12_goesAlong_134 (V) (s72_0) (a0) (p2) (j76_4) (0)

noncomputable def f_X12_goesAlong_97 (V : dV) (s72_0 a0 p2 j76_4 : Int) : Sum (dV × Int × Int × Int × Int) (dR) :=
  dv_b (dv_u V a0 24 0 (0)) fun V99 =>
  dv_b2 (f_X12_sumOf 8 V99 (a0) (p2)) fun V110 y42 =>
  dv_b (dv_u V110 a0 53 (j76_4) (y42)) fun V113 =>
  dv_b (V113 a0 51 0) fun zz10 =>
  if zz10 = 0 then (
  f_X12_goesAlong_133 (V113) (s72_0) (a0) (p2) (j76_4)
  ) else (
  dv_b (V113 a0 24 0) fun zz11 =>
  if zz11 ≠ 0 then (
  f_X12_goesAlong_133 (V113) (s72_0) (a0) (p2) (j76_4)
  ) else (
  f_X12_goesAlong_134 (V113) (s72_0) (a0) (p2) (j76_4) (1)
  )
  )

noncomputable def f_X12_goesAlong_76c (V : dV) (s72_0 a0 p2 j76_4 : Int) : Sum (dV × Int × Int × Int × Int) (dR) :=
  if s72_0 ≤ j76_4 then (
  dv_b (dv_u V a0 49 0 (1)) fun V145 =>
  dv_b2 (f_X12_passes0 V145 (a0) (27)) fun V151 x17 =>
  if x17 = 0 then (
  f_X12_goesAlong_184 (V151) (a0) (p2)
  ) else (
  dv_b (V151 a0 22 0) fun zz8 =>
  dv_b (2880 + zz8) fun x33 =>
  dv_b (V151 a0 2 (x33)) fun x34 =>
  dv_b (dv_u V151 a0 49 0 (x34)) fun V171 =>
  dv_b (V171 a0 22 0) fun zz9 =>
  dv_b (zz9 + 1) fun x37 =>
  dv_b (dv_u V171 a0 22 0 (x37)) fun V181 =>
  f_X12_goesAlong_184 (V181) (a0) (p2)
  )
  ) else (
  if j76_4 ≤ 0 then (
  f_X12_goesAlong_97 (V) (s72_0) (a0) (p2) (j76_4)
  ) else (
  dv_b (V a0 22 0) fun zz12 =>
  dv_b (zz12 + 1) fun x52 =>
  dv_b (dv_u V a0 22 0 (x52)) fun V94 =>
  f_X12_goesAlong_97 (V94) (s72_0) (a0) (p2) (j76_4)
  )
  )
noncomputable def f_X12_goesAlong_76b (s : (dV × Int × Int × Int × Int)) : Sum (dV × Int × Int × Int × Int) (dR) := f_X12_goesAlong_76c (s.1) (s.2.1) (s.2.2.1) (s.2.2.2.1) (s.2.2.2.2)

theorem f_X12_goesAlong_76e (V : dV) (s72_0 a0 p2 j76_4 : Int) : f_X12_goesAlong_76b (V, s72_0, a0, p2, j76_4) = f_X12_goesAlong_76c V s72_0 a0 p2 j76_4 := rfl

noncomputable def f_X12_goesAlong_72 (V : dV) (a0 p2 s72_0 : Int) : dR :=
  dv_lp (f_X12_goesAlong_76b) (V, s72_0, a0, p2, 0)

noncomputable def f_X12_goesAlong (V : dV) (a0 p1 p2 : Int) : dR :=
  dv_b (dv_u V a0 25 0 (1)) fun V2 =>
  dv_b (dv_u V2 a0 23 0 (p1)) fun V7 =>
  dv_b (V7 a0 48 0) fun zz1 =>
  dv_b (dv_u V7 a0 22 0 (zz1)) fun V15 =>
  dv_b (V15 a0 22 0) fun zz2 =>
  dv_b2 (f_X12_codeAt V15 (a0) (zz2)) fun x5 _ =>
  dv_b (dv_u V15 a0 50 0 (x5)) fun V27 =>
  dv_b (V27 a0 22 0) fun zz3 =>
  dv_b (zz3 + 1) fun x9 =>
  dv_b (dv_u V27 a0 22 0 (x9)) fun V37 =>
  dv_b (dv_u V37 a0 51 0 (1)) fun V42 =>
  dv_b (V42 a0 50 0) fun zz4 =>
  if zz4 ≠ 21 then (
  dv_b (V42 a0 50 0) fun zz13 =>
  if zz13 ≠ 24 then (
  f_X12_goesAlong_72 (V42) (a0) (p2) (0)
  ) else (
  f_X12_goesAlong_72 (V42) (a0) (p2) (1)
  )
  ) else (
  f_X12_goesAlong_72 (V42) (a0) (p2) (3)
  )

noncomputable def f_X12_obeys_101 (V : dV) (x15 a0 s101_1 : Int) : dR :=
  dv_b (dv_u V a0 28 0 (s101_1)) fun V101 =>
  (V101, x15)

noncomputable def f_X12_obeys (V : dV) (a0 : Int) : dR :=
  dv_b (V a0 50 0) fun zz1 =>
  if zz1 = 24 then (
  dv_b (V a0 53 (0)) fun y3 =>
  dv_b2 (f_X12_small V (y3)) fun x4 _ =>
  dv_b2 (f_X12_rollsKept V (a0) (x4)) fun V42 x5 =>
  (V42, x5)
  ) else (
  if zz1 = 25 then (
  dv_b2 (f_X12_mirrorsKept V (a0)) fun V47 x6 =>
  (V47, x6)
  ) else (
  if zz1 = 26 then (
  dv_b2 (f_X12_passesKept V (a0)) fun V52 x7 =>
  (V52, x7)
  ) else (
  dv_b (V a0 53 (0)) fun y9 =>
  dv_b2 (f_X12_small V (y9)) fun x10 _ =>
  dv_b (V a0 53 (1)) fun y11 =>
  dv_b2 (f_X12_small V (y11)) fun x12 _ =>
  dv_b (V a0 53 (2)) fun y13 =>
  dv_b2 (f_X12_small V (y13)) fun x14 _ =>
  dv_b2 (f_X12_laysKept V (a0) (x10) (x12) (x14)) fun V84 x15 =>
  if 0 ≤ x15 then (
  f_X12_obeys_101 (V84) (x15) (a0) (x15)
  ) else (
  dv_b (V84 a0 28 0) fun zz2 =>
  f_X12_obeys_101 (V84) (x15) (a0) (zz2)
  )
  )))

noncomputable def f_X12_runs_67 (V : dV) (zz2 zz1 a0 p1 j19_4 : Int) : Sum (dV × Int × Int × Int × Int × Int) (dR) :=
  dv_b (j19_4 + 1) fun x5 =>
  Sum.inl (V, zz2, zz1, a0, p1, x5)

noncomputable def f_X12_runs_19c (V : dV) (zz2 zz1 a0 p1 j19_4 : Int) : Sum (dV × Int × Int × Int × Int × Int) (dR) :=
  if zz1 ≤ j19_4 then (
  dv_b (dv_u V a0 48 0 (zz2)) fun V75 =>
  Sum.inr ((V75, 1))
  ) else (
  dv_b2 (f_X12_goesAlong V (a0) (p1) (1)) fun V28 _ =>
  dv_b (V28 a0 52 0) fun zz3 =>
  if zz3 ≠ 0 then (
  dv_b (V28 a0 51 0) fun zz4 =>
  if zz4 = 0 then (
  Sum.inr ((V28, 0))
  ) else (
  dv_b2 (f_X12_obeys V28 (a0)) fun V49 x7 =>
  if 0 ≤ x7 then (
  dv_b (V49 a0 27 0) fun zz5 =>
  dv_b (dv_add (zz5) (1)) fun x11 =>
  dv_b (dv_u V49 a0 27 0 (x11)) fun V64 =>
  f_X12_runs_67 (V64) (zz2) (zz1) (a0) (p1) (j19_4)
  ) else (
  Sum.inr ((V49, 0))
  )
  )
  ) else (
  f_X12_runs_67 (V28) (zz2) (zz1) (a0) (p1) (j19_4)
  )
  )
noncomputable def f_X12_runs_19b (s : (dV × Int × Int × Int × Int × Int)) : Sum (dV × Int × Int × Int × Int × Int) (dR) := f_X12_runs_19c (s.1) (s.2.1) (s.2.2.1) (s.2.2.2.1) (s.2.2.2.2.1) (s.2.2.2.2.2)

theorem f_X12_runs_19e (V : dV) (zz2 zz1 a0 p1 j19_4 : Int) : f_X12_runs_19b (V, zz2, zz1, a0, p1, j19_4) = f_X12_runs_19c V zz2 zz1 a0 p1 j19_4 := rfl

noncomputable def f_X12_runs (V : dV) (a0 p1 : Int) : dR :=
  dv_b2 (f_X12_goesAlong V (a0) (p1) (0)) fun V3 _ =>
  dv_b (V3 a0 49 0) fun zz1 =>
  dv_b (V3 a0 22 0) fun zz2 =>
  dv_lp (f_X12_runs_19b) (V3, zz2, zz1, a0, p1, 0)

noncomputable def f_X12_orders_122c (V : dV) (zz1 a0 j95_3 j122_4 : Int) : Sum (dV × Int × Int × Int × Int) (Sum (dV × Int × Int × Int × Int) (Sum (dV × Int × Int) (dR))) :=
  if 480 ≤ j122_4 then (
  dv_b (dv_u V a0 33 0 (zz1)) fun V152 =>
  dv_b (dv_u V152 a0 47 0 (j95_3)) fun V157 =>
  dv_b2 (f_X12_refuses V157 (a0) ((-3))) fun V163 x18 =>
  Sum.inr (Sum.inr (Sum.inr ((V163, x18))))
  ) else (
  dv_b (V a0 32 (j122_4)) fun x21 =>
  dv_b (dv_u V a0 31 (j122_4) (x21)) fun V143 =>
  dv_b (j122_4 + 1) fun x24 =>
  Sum.inl (V143, zz1, a0, j95_3, x24)
  )
noncomputable def f_X12_orders_122b (s : (dV × Int × Int × Int × Int)) : Sum (dV × Int × Int × Int × Int) (Sum (dV × Int × Int × Int × Int) (Sum (dV × Int × Int) (dR))) := f_X12_orders_122c (s.1) (s.2.1) (s.2.2.1) (s.2.2.2.1) (s.2.2.2.2)

theorem f_X12_orders_122e (V : dV) (zz1 a0 j95_3 j122_4 : Int) : f_X12_orders_122b (V, zz1, a0, j95_3, j122_4) = f_X12_orders_122c V zz1 a0 j95_3 j122_4 := rfl

noncomputable def f_X12_orders_95c (V : dV) (x11 zz1 a0 j95_3 : Int) : Sum (dV × Int × Int × Int × Int) (Sum (dV × Int × Int) (dR)) :=
  dv_b (V a0 48 0) fun zz3 =>
  if x11 ≤ zz3 then (
  dv_b (V a0 27 0) fun zz4 =>
  dv_b2 (f_X12_good V (a0) (zz4)) fun V178 x15 =>
  Sum.inr (Sum.inr ((V178, x15)))
  ) else (
  dv_b2 (f_X12_runs V (a0) (x11)) fun V105 x17 =>
  if x17 = 0 then (
  dv_b2 (f_X12_takesBack V105 (a0) (1)) fun V116 _ =>
  dv_lp (f_X12_orders_122b) (V116, zz1, a0, j95_3, 0)
  ) else (
  dv_b (dv_add (j95_3) (1)) fun x25 =>
  Sum.inl (V105, x11, zz1, a0, x25)
  )
  )
noncomputable def f_X12_orders_95b (s : (dV × Int × Int × Int × Int)) : Sum (dV × Int × Int × Int × Int) (Sum (dV × Int × Int) (dR)) := f_X12_orders_95c (s.1) (s.2.1) (s.2.2.1) (s.2.2.2.1) (s.2.2.2.2)

theorem f_X12_orders_95e (V : dV) (x11 zz1 a0 j95_3 : Int) : f_X12_orders_95b (V, x11, zz1, a0, j95_3) = f_X12_orders_95c V x11 zz1 a0 j95_3 := rfl

noncomputable def f_X12_orders_27c (V : dV) (a0 j27_1 : Int) : Sum (dV × Int × Int) (dR) :=
  if 480 ≤ j27_1 then (
  dv_b (V a0 33 0) fun zz1 =>
  dv_b2 (f_X12_lays V (a0) (6)) fun V60 _ =>
  dv_b (dv_u V60 a0 27 0 (0)) fun V65 =>
  dv_b (dv_u V65 a0 28 0 ((-1))) fun V70 =>
  dv_b (dv_u V70 a0 48 0 (2400)) fun V77 =>
  dv_b (V77 a0 48 0) fun zz2 =>
  dv_b (V77 a0 2 (79)) fun x10 =>
  dv_b (2400 + x10) fun x11 =>
  dv_lp (f_X12_orders_95b) (V77, x11, zz1, a0, 0)
  ) else (
  dv_b (V a0 31 (j27_1)) fun x28 =>
  dv_b (dv_u V a0 32 (j27_1) (x28)) fun V45 =>
  dv_b (j27_1 + 1) fun x31 =>
  Sum.inl (V45, a0, x31)
  )
noncomputable def f_X12_orders_27b (s : (dV × Int × Int)) : Sum (dV × Int × Int) (dR) := f_X12_orders_27c (s.1) (s.2.1) (s.2.2)

theorem f_X12_orders_27e (V : dV) (a0 j27_1 : Int) : f_X12_orders_27b (V, a0, j27_1) = f_X12_orders_27c V a0 j27_1 := rfl

noncomputable def f_X12_orders (V : dV) (a0 : Int) : dR :=
  dv_b (dv_u V a0 47 0 ((-1))) fun V2 =>
  dv_b2 (f_X12_readsAs V2 (a0) (1)) fun V7 x1 =>
  if x1 ≠ 0 then (
  dv_b2 (f_X12_laysAside V7 (a0) (1)) fun V22 _ =>
  dv_lp (f_X12_orders_27b) (V22, a0, 0)
  ) else (
  dv_b2 (f_X12_refuses V7 (a0) ((-6))) fun V16 x32 =>
  (V16, x32)
  )
end
section
section DVM
variable {G : th_G} {Γ : th_Ga} {H H1 : Heap}
/-- which field of which object holds the row -/
def dv_own (r : Nat) : Option (Nat × Nat) := match r with
  | 2 => some (1, 0)
  | 4 => some (3, 0)
  | 5 => some (3, 1)
  | 6 => some (3, 2)
  | 7 => some (3, 3)
  | 8 => some (3, 4)
  | 9 => some (3, 5)
  | 10 => some (3, 6)
  | 18 => some (17, 0)
  | 19 => some (17, 1)
  | 21 => some (20, 0)
  | 22 => some (20, 1)
  | 24 => some (23, 0)
  | 25 => some (23, 1)
  | 26 => some (23, 2)
  | 28 => some (27, 1)
  | 29 => some (27, 2)
  | 30 => some (27, 3)
  | 31 => some (27, 4)
  | 33 => some (32, 1)
  | 34 => some (32, 2)
  | 35 => some (32, 3)
  | 36 => some (32, 4)
  | 38 => some (37, 0)
  | 40 => some (39, 0)
  | 41 => some (39, 1)
  | 43 => some (42, 1)
  | 44 => some (42, 2)
  | 45 => some (42, 13)
  | 47 => some (46, 1)
  | 48 => some (46, 2)
  | 49 => some (46, 3)
  | 50 => some (46, 4)
  | 51 => some (46, 5)
  | 52 => some (46, 7)
  | 53 => some (46, 11)
  | 54 => some (46, 12)
  | 55 => some (46, 15)
  | 56 => some (46, 16)
  | 57 => some (46, 17)
  | 58 => some (46, 26)
  | 59 => some (46, 29)
  | 60 => some (46, 30)
  | 61 => some (46, 31)
  | 62 => some (46, 32)
  | 63 => some (46, 34)
  | 64 => some (46, 35)
  | 65 => some (46, 36)
  | 66 => some (46, 37)
  | 67 => some (46, 38)
  | 68 => some (46, 46)
  | 69 => some (46, 53)
  | 70 => some (46, 54)
  | _ => none
theorem ow_2 : dv_own 2 = some (1, 0) := rfl
theorem ow_4 : dv_own 4 = some (3, 0) := rfl
theorem ow_5 : dv_own 5 = some (3, 1) := rfl
theorem ow_6 : dv_own 6 = some (3, 2) := rfl
theorem ow_7 : dv_own 7 = some (3, 3) := rfl
theorem ow_8 : dv_own 8 = some (3, 4) := rfl
theorem ow_9 : dv_own 9 = some (3, 5) := rfl
theorem ow_10 : dv_own 10 = some (3, 6) := rfl
theorem ow_18 : dv_own 18 = some (17, 0) := rfl
theorem ow_19 : dv_own 19 = some (17, 1) := rfl
theorem ow_21 : dv_own 21 = some (20, 0) := rfl
theorem ow_22 : dv_own 22 = some (20, 1) := rfl
theorem ow_24 : dv_own 24 = some (23, 0) := rfl
theorem ow_25 : dv_own 25 = some (23, 1) := rfl
theorem ow_26 : dv_own 26 = some (23, 2) := rfl
theorem ow_28 : dv_own 28 = some (27, 1) := rfl
theorem ow_29 : dv_own 29 = some (27, 2) := rfl
theorem ow_30 : dv_own 30 = some (27, 3) := rfl
theorem ow_31 : dv_own 31 = some (27, 4) := rfl
theorem ow_33 : dv_own 33 = some (32, 1) := rfl
theorem ow_34 : dv_own 34 = some (32, 2) := rfl
theorem ow_35 : dv_own 35 = some (32, 3) := rfl
theorem ow_36 : dv_own 36 = some (32, 4) := rfl
theorem ow_38 : dv_own 38 = some (37, 0) := rfl
theorem ow_40 : dv_own 40 = some (39, 0) := rfl
theorem ow_41 : dv_own 41 = some (39, 1) := rfl
theorem ow_43 : dv_own 43 = some (42, 1) := rfl
theorem ow_44 : dv_own 44 = some (42, 2) := rfl
theorem ow_45 : dv_own 45 = some (42, 13) := rfl
theorem ow_47 : dv_own 47 = some (46, 1) := rfl
theorem ow_48 : dv_own 48 = some (46, 2) := rfl
theorem ow_49 : dv_own 49 = some (46, 3) := rfl
theorem ow_50 : dv_own 50 = some (46, 4) := rfl
theorem ow_51 : dv_own 51 = some (46, 5) := rfl
theorem ow_52 : dv_own 52 = some (46, 7) := rfl
theorem ow_53 : dv_own 53 = some (46, 11) := rfl
theorem ow_54 : dv_own 54 = some (46, 12) := rfl
theorem ow_55 : dv_own 55 = some (46, 15) := rfl
theorem ow_56 : dv_own 56 = some (46, 16) := rfl
theorem ow_57 : dv_own 57 = some (46, 17) := rfl
theorem ow_58 : dv_own 58 = some (46, 26) := rfl
theorem ow_59 : dv_own 59 = some (46, 29) := rfl
theorem ow_60 : dv_own 60 = some (46, 30) := rfl
theorem ow_61 : dv_own 61 = some (46, 31) := rfl
theorem ow_62 : dv_own 62 = some (46, 32) := rfl
theorem ow_63 : dv_own 63 = some (46, 34) := rfl
theorem ow_64 : dv_own 64 = some (46, 35) := rfl
theorem ow_65 : dv_own 65 = some (46, 36) := rfl
theorem ow_66 : dv_own 66 = some (46, 37) := rfl
theorem ow_67 : dv_own 67 = some (46, 38) := rfl
theorem ow_68 : dv_own 68 = some (46, 46) := rfl
theorem ow_69 : dv_own 69 = some (46, 53) := rfl
theorem ow_70 : dv_own 70 = some (46, 54) := rfl
/-- each row has one owner, each field one row -/
def dv_U (Γ : th_Ga) : Prop := ∀ b r o rk j : Nat, Γ b = (r, o) → dv_own r = some (rk, j) → Γ o = (rk, 0) ∧ ∀ b' : Nat, Γ b' = (r, o) → b' = b
def dv_isa (r : Nat) : Bool := match th_ro r with | some (.inr _) => true | _ => false
def dv_ck (rk : Nat) : Bool := match th_ro rk with
  | some (.inl (_, fs)) => (List.range fs.length).all (fun j => match fs[j]? with
    | some q => !(q.1 == 4) || (dv_own q.2.1.toNat == some (rk, j) && dv_isa q.2.1.toNat)
    | none => true)
  | _ => true
theorem dv_ck_all : (List.range 100).all dv_ck = true := by decide +kernel
theorem dv_ro_lt {r : Nat} {d : th_De} (h : th_ro r = some d) : r < 100 := by
  rcases r with _ | r
  · cases h
  · have h1 : th_rl[r]? = some d := h
    have h2 := (List.getElem?_eq_some_iff.mp h1).1
    have h3 : th_rl.length ≤ 99 := by decide
    omega
theorem dv_ow {rk k j : Nat} {fs : List th_sp} {q : th_sp} (hr : th_ro rk = some (.inl (k, fs))) (hq : fs[j]? = some q) (h4 : q.1 = 4) : dv_own q.2.1.toNat = some (rk, j) ∧ ∃ y, th_ro q.2.1.toNat = some (.inr y) := by
  have h1 := List.all_eq_true.mp dv_ck_all rk (List.mem_range.mpr (dv_ro_lt hr))
  unfold dv_ck at h1
  rw [hr] at h1
  have h2 := List.all_eq_true.mp h1 j (List.mem_range.mpr (List.getElem?_eq_some_iff.mp hq).1)
  rw [hq] at h2
  simp only [h4] at h2
  have h3 : (dv_own q.2.1.toNat == some (rk, j) && dv_isa q.2.1.toNat) = true := by simpa using h2
  obtain ⟨h5, h6⟩ := Bool.and_eq_true_iff.mp h3
  refine ⟨by simpa using h5, ?_⟩
  unfold dv_isa at h6
  split at h6
  · rename_i y hy; exact ⟨y, hy⟩
  · cases h6
def dv_ck2 (r : Nat) : Bool := match dv_own r with
  | some (rk, j) => (match th_ro rk with
    | some (.inl (_, fs)) => (match fs[j]? with
      | some q => q.1 == 4 && q.2.1 == (r : Int)
      | none => false)
    | _ => false) && dv_isa r
  | none => true
theorem dv_ck2_all : (List.range 100).all dv_ck2 = true := by decide +kernel
theorem dv_own_lt {r : Nat} {x : Nat × Nat} (h : dv_own r = some x) : r < 100 := by
  unfold dv_own at h
  split at h <;> first | omega | cases h
theorem dv_ow2 {r rk j : Nat} (h : dv_own r = some (rk, j)) : (∃ k fs q, th_ro rk = some (.inl (k, fs)) ∧ fs[j]? = some q ∧ q.1 = 4 ∧ q.2.1 = (r : Int)) ∧ ∃ y, th_ro r = some (.inr y) := by
  have h1 := List.all_eq_true.mp dv_ck2_all r (List.mem_range.mpr (dv_own_lt h))
  unfold dv_ck2 at h1
  rw [h] at h1
  obtain ⟨h2, h3⟩ := Bool.and_eq_true_iff.mp h1
  constructor
  · revert h2
    cases hd : th_ro rk with
    | none => intro h2; cases h2
    | some d =>
      cases d with
      | inr y => intro h2; cases h2
      | inl x =>
        obtain ⟨k, fs⟩ := x
        cases hq : fs[j]? with
        | none => intro h2; simp [hq] at h2
        | some q =>
          intro h2
          simp only [hq] at h2
          obtain ⟨h4, h5⟩ := Bool.and_eq_true_iff.mp h2
          exact ⟨k, fs, q, rfl, hq, by simpa using h4, by simpa using h5⟩
  · unfold dv_isa at h3
    split at h3
    · rename_i y hy; exact ⟨y, hy⟩
    · cases h3
/-- a value as a number: a reference is its address -/
def dv_iv (v : Value) : Int := match v with
  | .int i => i.toInt
  | .long i => i.toInt
  | .ref b => (b : Int)
  | _ => -1
def dv_ad (v : Value) : Nat := match v with
  | .ref b => b
  | _ => 0
/-- the system's cells as numbers -/
def dv (G : th_G) (Γ : th_Ga) (H : Heap) : dV := fun A j z => if A < 0 ∨ z < 0 then 0 else match th_ro (Γ A.toNat).1 with
  | some (.inl (k, fs)) => (match fs[j]? with
    | some q => if q.1 = 4 then dv_iv (th_sl H (dv_ad (th_sl H A.toNat (G.1.1.2 k j))) z.toNat) else if z = 0 then dv_iv (th_sl H A.toNat (G.1.1.2 k j)) else 0
    | none => 0)
  | _ => 0
theorem dv_at {A : Int} {j r o k : Nat} {z : Int} {fs : List th_sp} {q : th_sp} (h0 : 0 ≤ A) (hz : 0 ≤ z) (ha : Γ A.toNat = (r, o)) (hr : th_ro r = some (.inl (k, fs))) (hq : fs[j]? = some q) : dv G Γ H A j z = if q.1 = 4 then dv_iv (th_sl H (dv_ad (th_sl H A.toNat (G.1.1.2 k j))) z.toNat) else if z = 0 then dv_iv (th_sl H A.toNat (G.1.1.2 k j)) else 0 := by
  unfold dv
  rw [if_neg (by omega), ha]
  simp only [hr, hq]
theorem dv_row {b r o rk j : Nat} {z : Int} (hI : th_I G Γ H) (hU : dv_U Γ) (hb : Γ b = (r, o)) (ho : dv_own r = some (rk, j)) (hz : 0 ≤ z) : dv G Γ H (o : Int) j z = dv_iv (th_sl H b z.toNat) := by
  obtain ⟨hg, hu⟩ := hU b r o rk j hb ho
  obtain ⟨⟨k, fs, q, hr, hq, q4, qr⟩, -⟩ := dv_ow2 ho
  rw [dv_at (A := (o : Int)) (r := rk) (o := 0) (k := k) (fs := fs) (q := q) (by omega) hz (by rw [Int.toNat_natCast]; exact hg) hr hq, if_pos q4]
  obtain ⟨q1, q2, q3⟩ := q
  simp only at q4 qr
  subst q4
  subst qr
  obtain ⟨b', e1, e2⟩ := th_fo hI hg hr hq
  have e3 := hu b' e2
  subst e3
  rw [Int.toNat_natCast, e1]
  rfl
theorem dv_sc {a r o k j : Nat} {fs : List th_sp} {q : th_sp} (ha : Γ a = (r, o)) (hr : th_ro r = some (.inl (k, fs))) (hq : fs[j]? = some q) (h4 : q.1 ≠ 4) : dv G Γ H (a : Int) j 0 = dv_iv (th_sl H a (G.1.1.2 k j)) := by
  rw [dv_at (A := (a : Int)) (r := r) (o := o) (by omega) (by omega) (by rw [Int.toNat_natCast]; exact ha) hr hq, if_neg h4, if_pos rfl, Int.toNat_natCast]
theorem dv_getI {a r o k j : Nat} {fs : List th_sp} {q : th_sp} {x : Int32} (ha : Γ a = (r, o)) (hr : th_ro r = some (.inl (k, fs))) (hq : fs[j]? = some q) (m : th_sl H a (G.1.1.2 k j) = .int x) (h4 : q.1 ≠ 4) : dv G Γ H (a : Int) j 0 = x.toInt := by
  rw [dv_sc ha hr hq h4, m]; rfl
theorem dv_getR {a r o k j : Nat} {fs : List th_sp} {q : th_sp} {b : Nat} (ha : Γ a = (r, o)) (hr : th_ro r = some (.inl (k, fs))) (hq : fs[j]? = some q) (m : th_sl H a (G.1.1.2 k j) = .ref b) (h4 : q.1 ≠ 4) : dv G Γ H (a : Int) j 0 = (b : Int) := by
  rw [dv_sc ha hr hq h4, m]; rfl
theorem dv_getQ {a r o k j : Nat} {fs : List th_sp} {q : th_sp} {v : Value} (ha : Γ a = (r, o)) (hr : th_ro r = some (.inl (k, fs))) (hq : fs[j]? = some q) (m : th_sl H a (G.1.1.2 k j) = v) (h4 : q.1 ≠ 4) : dv G Γ H (a : Int) j 0 = dv_iv v := by
  rw [dv_sc ha hr hq h4, m]
theorem dv_aldI {b r o rk j : Nat} {z : Int} {x : Int32} (hI : th_I G Γ H) (hU : dv_U Γ) (hb : Γ b = (r, o)) (ho : dv_own r = some (rk, j)) (m : th_sl H b z.toNat = .int x) (hz : 0 ≤ z) : dv G Γ H (o : Int) j z = x.toInt := by
  rw [dv_row hI hU hb ho hz, m]; rfl
theorem dv_aldL {b r o rk j : Nat} {z : Int} {x : Int64} (hI : th_I G Γ H) (hU : dv_U Γ) (hb : Γ b = (r, o)) (ho : dv_own r = some (rk, j)) (m : th_sl H b z.toNat = .long x) (hz : 0 ≤ z) : dv G Γ H (o : Int) j z = x.toInt := by
  rw [dv_row hI hU hb ho hz, m]; rfl
theorem dv_aldR {b r o rk j : Nat} {z : Int} {x : Nat} (hI : th_I G Γ H) (hU : dv_U Γ) (hb : Γ b = (r, o)) (ho : dv_own r = some (rk, j)) (m : th_sl H b z.toNat = .ref x) (hz : 0 ≤ z) : dv G Γ H (o : Int) j z = (x : Int) := by
  rw [dv_row hI hU hb ho hz, m]; rfl
/-- the row that a field holds, and whose it is -/
theorem dv_ptr {a r o k j : Nat} {fs : List th_sp} {q : th_sp} (hI : th_I G Γ H) (ha : Γ a = (r, o)) (hr : th_ro r = some (.inl (k, fs))) (hq : fs[j]? = some q) (h4 : q.1 = 4) : ∃ b : Nat, th_sl H a (G.1.1.2 k j) = .ref b ∧ Γ b = (q.2.1.toNat, a) := by
  obtain ⟨-, -, h⟩ := hI a r o _ ha hr
  have h5 := h j q hq
  unfold th_sat at h5
  rw [h4] at h5
  exact h5
theorem dv_ext {f g : dV} (h : ∀ (A : Int) (j : Nat) (z : Int), f A j z = g A j z) : f = g := funext fun A => funext fun j => funext fun z => h A j z
/-- what isn't an object has no numbers -/
theorem dv_no {A : Int} {j : Nat} {z : Int} (h : (A < 0 ∨ z < 0) ∨ ¬ ∃ r o k fs q, Γ A.toNat = (r, o) ∧ th_ro r = some (.inl (k, fs)) ∧ fs[j]? = some q) : dv G Γ H A j z = 0 := by
  unfold dv
  by_cases h0 : A < 0 ∨ z < 0
  · rw [if_pos h0]
  · rw [if_neg h0]
    have h1 := h.resolve_left h0
    cases hd : th_ro (Γ A.toNat).1 with
    | none => rfl
    | some d =>
      cases d with
      | inr y => rfl
      | inl x =>
        obtain ⟨k, fs⟩ := x
        cases hq : fs[j]? with
        | none => simp only [hq]
        | some q => exact absurd ⟨_, _, k, fs, q, rfl, hd, hq⟩ h1
theorem dv_cs (Γ : th_Ga) (A : Int) (j : Nat) (z : Int) : ((A < 0 ∨ z < 0) ∨ ¬ ∃ r o k fs q, Γ A.toNat = (r, o) ∧ th_ro r = some (.inl (k, fs)) ∧ fs[j]? = some q) ∨ (0 ≤ A ∧ 0 ≤ z ∧ ∃ r o k fs q, Γ A.toNat = (r, o) ∧ th_ro r = some (.inl (k, fs)) ∧ fs[j]? = some q) := by
  by_cases h0 : A < 0 ∨ z < 0
  · exact Or.inl (Or.inl h0)
  · by_cases h1 : ∃ r o k fs q, Γ A.toNat = (r, o) ∧ th_ro r = some (.inl (k, fs)) ∧ fs[j]? = some q
    · exact Or.inr ⟨by omega, by omega, h1⟩
    · exact Or.inl (Or.inr h1)
theorem dv_put {a r o k j : Nat} {fs : List th_sp} {q : th_sp} {v : Value} (hI1 : th_I G Γ H1) (ha : Γ a = (r, o)) (hr : th_ro r = some (.inl (k, fs))) (hq : fs[j]? = some q) (hap : ∀ x y, x < fs.length → y < fs.length → x ≠ y → G.1.1.2 k x ≠ G.1.1.2 k y) (hst : th_St H H1 a (G.1.1.2 k j) v) (h4 : q.1 ≠ 4) : dv G Γ H1 = dv_u (dv G Γ H) (a : Int) j 0 (dv_iv v) := by
  obtain ⟨-, s1, s2, s3, -⟩ := hst
  refine dv_ext fun A i z => ?_
  unfold dv_u
  rcases dv_cs Γ A i z with h | ⟨hA, hz, r', o', k', fs', q', g1, g2, g3⟩
  · rw [dv_no h]
    split
    · rename_i e
      obtain ⟨rfl, rfl, rfl⟩ := e
      rcases h with h | h
      · omega
      · exact absurd ⟨r, o, k, fs, q, by rw [Int.toNat_natCast]; exact ha, hr, hq⟩ h
    · rw [dv_no h]
  · rw [dv_at hA hz g1 g2 g3, dv_at hA hz g1 g2 g3]
    by_cases e : A = (a : Int)
    · subst e
      rw [Int.toNat_natCast] at g1 ⊢
      rw [ha] at g1
      cases g1
      rw [hr] at g2
      cases g2
      have li := (List.getElem?_eq_some_iff.mp g3).1
      have lj := (List.getElem?_eq_some_iff.mp hq).1
      by_cases w : i = j
      · subst w
        rw [hq] at g3
        cases g3
        rw [if_neg h4, if_neg h4, s1]
        by_cases hz0 : z = 0
        · rw [if_pos hz0, if_pos ⟨rfl, rfl, hz0⟩]
        · rw [if_neg hz0, if_neg hz0, if_neg (fun c => hz0 c.2.2)]
      · rw [if_neg (fun c : (a : Int) = (a : Int) ∧ i = j ∧ z = 0 => w c.2.1), s2 _ (hap i j li lj w)]
        by_cases w4 : q'.1 = 4
        · rw [if_pos w4, if_pos w4]
          obtain ⟨b, e1, e2⟩ := dv_ptr hI1 ha hr g3 w4
          rw [s2 _ (hap i j li lj w)] at e1
          obtain ⟨-, y, e3⟩ := dv_ow hr g3 w4
          have hne : b ≠ a := fun c => by
            subst c
            rw [ha] at e2
            have e4 := (Prod.mk.inj e2).1
            rw [← e4, hr] at e3
            cases e3
          rw [e1]
          show dv_iv (th_sl H1 b z.toNat) = dv_iv (th_sl H b z.toNat)
          rw [th_sl_kept (s3 b hne)]
        · rw [if_neg w4, if_neg w4]
    · rw [if_neg (fun c : A = (a : Int) ∧ i = j ∧ z = 0 => e c.1)]
      have hne : A.toNat ≠ a := fun c => e (by omega)
      rw [th_sl_kept (s3 _ hne)]
      by_cases w4 : q'.1 = 4
      · rw [if_pos w4, if_pos w4]
        obtain ⟨b, e1, e2⟩ := dv_ptr hI1 g1 g2 g3 w4
        rw [th_sl_kept (s3 _ hne)] at e1
        obtain ⟨-, y, e3⟩ := dv_ow g2 g3 w4
        have hnb : b ≠ a := fun c => by
          subst c
          rw [ha] at e2
          have e4 := (Prod.mk.inj e2).1
          rw [← e4, hr] at e3
          cases e3
        rw [e1]
        show dv_iv (th_sl H1 b z.toNat) = dv_iv (th_sl H b z.toNat)
        rw [th_sl_kept (s3 b hnb)]
      · rw [if_neg w4, if_neg w4]
theorem dv_putI {a r o k j : Nat} {fs : List th_sp} {q : th_sp} {x : Int32} {y : Int} (hI1 : th_I G Γ H1) (ha : Γ a = (r, o)) (hr : th_ro r = some (.inl (k, fs))) (hq : fs[j]? = some q) (hap : ∀ x y, x < fs.length → y < fs.length → x ≠ y → G.1.1.2 k x ≠ G.1.1.2 k y) (hst : th_St H H1 a (G.1.1.2 k j) (.int x)) (hx : x.toInt = y) (h4 : q.1 ≠ 4) : dv_u (dv G Γ H) (a : Int) j 0 y = dv G Γ H1 := by
  rw [dv_put hI1 ha hr hq hap hst h4, ← hx]; rfl
theorem dv_putR {a r o k j : Nat} {fs : List th_sp} {q : th_sp} {b : Nat} (hI1 : th_I G Γ H1) (ha : Γ a = (r, o)) (hr : th_ro r = some (.inl (k, fs))) (hq : fs[j]? = some q) (hap : ∀ x y, x < fs.length → y < fs.length → x ≠ y → G.1.1.2 k x ≠ G.1.1.2 k y) (hst : th_St H H1 a (G.1.1.2 k j) (.ref b)) (h4 : q.1 ≠ 4) : dv_u (dv G Γ H) (a : Int) j 0 (b : Int) = dv G Γ H1 := by
  rw [dv_put hI1 ha hr hq hap hst h4]; rfl
theorem dv_putN {a r o k j : Nat} {fs : List th_sp} {q : th_sp} (hI1 : th_I G Γ H1) (ha : Γ a = (r, o)) (hr : th_ro r = some (.inl (k, fs))) (hq : fs[j]? = some q) (hap : ∀ x y, x < fs.length → y < fs.length → x ≠ y → G.1.1.2 k x ≠ G.1.1.2 k y) (hst : th_St H H1 a (G.1.1.2 k j) .null) (h4 : q.1 ≠ 4) : dv_u (dv G Γ H) (a : Int) j 0 (-1) = dv G Γ H1 := by
  rw [dv_put hI1 ha hr hq hap hst h4]; rfl
theorem dv_putQ {a r o k j : Nat} {fs : List th_sp} {q : th_sp} {v : Value} (hI1 : th_I G Γ H1) (ha : Γ a = (r, o)) (hr : th_ro r = some (.inl (k, fs))) (hq : fs[j]? = some q) (hap : ∀ x y, x < fs.length → y < fs.length → x ≠ y → G.1.1.2 k x ≠ G.1.1.2 k y) (hst : th_St H H1 a (G.1.1.2 k j) v) (h4 : q.1 ≠ 4) : dv_u (dv G Γ H) (a : Int) j 0 (dv_iv v) = dv G Γ H1 := (dv_put hI1 ha hr hq hap hst h4).symm
/-- a change in one row alone: of what field of what object, at what place -/
theorem dv_rows {b r o rk j : Nat} (hI1 : th_I G Γ H1) (hU : dv_U Γ) (hb : Γ b = (r, o)) (ho : dv_own r = some (rk, j)) (oq : ∀ q, q ≠ b → H1[q]? = H[q]?) {f : dV} (hf : ∀ z : Int, 0 ≤ z → f (o : Int) j z = dv_iv (th_sl H1 b z.toNat)) (hg : ∀ (A : Int) (i : Nat) (z : Int), ¬ (A = (o : Int) ∧ i = j ∧ 0 ≤ z) → f A i z = dv G Γ H A i z) : f = dv G Γ H1 := by
  refine dv_ext fun A i z => ?_
  obtain ⟨hgo, hu⟩ := hU b r o rk j hb ho
  obtain ⟨⟨k, fs, q, hr, hq, q4, qr⟩, ya, hra⟩ := dv_ow2 ho
  by_cases e : A = (o : Int) ∧ i = j ∧ 0 ≤ z
  · obtain ⟨rfl, rfl, hz⟩ := e
    rw [hf z hz, dv_row hI1 hU hb ho hz]
  · rw [hg A i z e]
    rcases dv_cs Γ A i z with h | ⟨hA, hz, r', o', k', fs', q', g1, g2, g3⟩
    · rw [dv_no h, dv_no h]
    · rw [dv_at hA hz g1 g2 g3, dv_at hA hz g1 g2 g3]
      have hne : A.toNat ≠ b := fun c => by
        rw [c, hb] at g1
        cases g1
        rw [hra] at g2
        cases g2
      rw [th_sl_kept (oq _ hne)]
      by_cases w4 : q'.1 = 4
      · rw [if_pos w4, if_pos w4]
        obtain ⟨b', e1, e2⟩ := dv_ptr hI1 g1 g2 g3 w4
        rw [th_sl_kept (oq _ hne)] at e1
        have hnb : b' ≠ b := fun c => by
          subst c
          rw [hb] at e2
          obtain ⟨e3, e4⟩ := Prod.mk.inj e2
          have e5 := (dv_ow g2 g3 w4).1
          rw [← e3, ho] at e5
          obtain ⟨e6, e7⟩ := Prod.mk.inj (Option.some.inj e5)
          exact e ⟨by omega, e7.symm, hz⟩
        rw [e1]
        show dv_iv (th_sl H b' z.toNat) = dv_iv (th_sl H1 b' z.toNat)
        rw [th_sl_kept (oq b' hnb)]
      · rw [if_neg w4, if_neg w4]
theorem dv_sto {b r o rk j : Nat} {i : Int} {v : Value} (hI : th_I G Γ H) (hI1 : th_I G Γ H1) (hU : dv_U Γ) (hb : Γ b = (r, o)) (ho : dv_own r = some (rk, j)) (hst : th_St H H1 b i.toNat v) (h0 : 0 ≤ i) : dv_u (dv G Γ H) (o : Int) j i (dv_iv v) = dv G Γ H1 := by
  obtain ⟨-, s1, s2, s3, -⟩ := hst
  refine dv_rows hI1 hU hb ho s3 (fun z hz => ?_) (fun A k z h => ?_)
  · unfold dv_u
    by_cases e : z = i
    · rw [if_pos ⟨rfl, rfl, e⟩, e, s1]
    · rw [if_neg (fun c => e c.2.2), dv_row hI hU hb ho hz, s2 _ (by omega)]
  · unfold dv_u
    rw [if_neg (fun c => h ⟨c.1, c.2.1, by omega⟩)]
theorem dv_stoI {b r o rk j : Nat} {i y : Int} {x : Int32} (hI : th_I G Γ H) (hI1 : th_I G Γ H1) (hU : dv_U Γ) (hb : Γ b = (r, o)) (ho : dv_own r = some (rk, j)) (hst : th_St H H1 b i.toNat (.int x)) (hx : x.toInt = y) (h0 : 0 ≤ i) : dv_u (dv G Γ H) (o : Int) j i y = dv G Γ H1 := by
  rw [← dv_sto hI hI1 hU hb ho hst h0, ← hx]; rfl
theorem dv_stoL {b r o rk j : Nat} {i y : Int} {x : Int64} (hI : th_I G Γ H) (hI1 : th_I G Γ H1) (hU : dv_U Γ) (hb : Γ b = (r, o)) (ho : dv_own r = some (rk, j)) (hst : th_St H H1 b i.toNat (.long x)) (hx : x.toInt = y) (h0 : 0 ≤ i) : dv_u (dv G Γ H) (o : Int) j i y = dv G Γ H1 := by
  rw [← dv_sto hI hI1 hU hb ho hst h0, ← hx]; rfl
theorem dv_cpy {a r0 o0 rk0 j0 b r o rk j : Nat} {x y n : Int} (hI : th_I G Γ H) (hI1 : th_I G Γ H1) (hU : dv_U Γ) (ha : Γ a = (r0, o0)) (ha0 : dv_own r0 = some (rk0, j0)) (hb : Γ b = (r, o)) (ho : dv_own r = some (rk, j)) (hcp : th_Cp H H1 a b x.toNat y.toNat n.toNat) (hx : 0 ≤ x) (hy : 0 ≤ y) (hn : 0 ≤ n) : dv_c (dv G Γ H) (o0 : Int) j0 x (o : Int) j y n = dv G Γ H1 := by
  obtain ⟨-, s3, s2, -⟩ := hcp
  refine dv_rows hI1 hU hb ho s3 (fun z hz => ?_) (fun A k z h => ?_)
  · unfold dv_c
    rw [s2]
    unfold va_cpy
    by_cases e : y ≤ z ∧ z < y + n
    · rw [if_pos ⟨rfl, rfl, e⟩, if_pos (by omega), dv_row hI hU ha ha0 (by omega)]
      congr 2
      omega
    · rw [if_neg (fun c => e c.2.2), if_neg (by omega), dv_row hI hU hb ho hz]
  · unfold dv_c
    rw [if_neg (fun c => h ⟨c.1, c.2.1, by omega⟩)]
/-- what no store has reached -/
theorem dv_F {L : List (Nat × Nat)} {A : Int} {j a r o k : Nat} {z : Int} {fs : List th_sp} {q : th_sp} (hI : th_I G Γ H) (hI1 : th_I G Γ H1) (hF : th_F G Γ L H H1) (hA : A = (a : Int)) (ha : Γ a = (r, o)) (hr : th_ro r = some (.inl (k, fs))) (hq : fs[j]? = some q) (h1 : th_in L r j = false) (h2 : q.1 = 4 → th_in L q.2.1.toNat 0 = false) : dv G Γ H1 A j z = dv G Γ H A j z := by
  subst hA
  by_cases hz : 0 ≤ z
  · have ha' : Γ ((a : Int)).toNat = (r, o) := by rw [Int.toNat_natCast]; exact ha
    have hj := (List.getElem?_eq_some_iff.mp hq).1
    rw [dv_at (by omega) hz ha' hr hq, dv_at (by omega) hz ha' hr hq, Int.toNat_natCast, th_F_o hF ha hr hj h1]
    by_cases w4 : q.1 = 4
    · rw [if_pos w4, if_pos w4]
      obtain ⟨b, e1, e2⟩ := dv_ptr hI ha hr hq w4
      obtain ⟨-, y, e3⟩ := dv_ow hr hq w4
      rw [e1]
      show dv_iv (th_sl H1 b z.toNat) = dv_iv (th_sl H b z.toNat)
      rw [th_F_a hF e2 e3 (h2 w4)]
    · rw [if_neg w4, if_neg w4]
  · rw [dv_no (Or.inl (by omega)), dv_no (Or.inl (by omega))]
end DVM
section TRE
variable {p : Program} {l : Launch} {e : Env} {R : Room} {s : State} {m : MethodId} {args : Array Value} {below : List Frame} {meth : Method} {c : Code} {H : Heap} {locs : List Loc} {cells slots : Nat} {Q : State → Prop}
variable {cc : ByteArray} {pc : Nat} {ls : Array Slot} {rest : List Value}
theorem tr_iincE {i nL k : Nat} {n a : Int} {x : Int32} {lv : List (Nat × Value)} (lv' : Int32 → List (Nat × Value)) (hexec : p.tables.exec = Jvm.exec) (hb : c.code = cc) (hdg : decode cc pc = .ok (.iinc i n, 3)) (h : lv_has ls nL lv) (hk : lv[k]? = some (i, .int x)) (ha : x.toInt = a) (hn : i < nL) (hl : ∀ z : Int32, (i, Value.int z) :: lv.filter (fun q => !(q.1 == i) && !(q.1 + 1 == i && q.2.category == 2)) = lv' z)
    (kk : ∀ (z : Int32) (ls' : Array Slot), dv_add a n = z.toInt → lv_has ls' nL (lv' z) → W p l e R s m args below meth c H locs cells slots Q (F0 m (pc + 3) ls' rest)) : W p l e R s m args below meth c H locs cells slots Q (F0 m pc ls rest) :=
  lv_iinc hexec hb hdg h hk rfl hn (hl (x + Int32.ofInt n)) (fun ls' hl' => kk _ ls' (by subst ha; unfold dv_add; rw [Int32.ofInt_toInt]) hl')
theorem ti_cmp2 (x y : Int64) : ((lg_cmp x y).toInt < 0 ↔ x.toInt < y.toInt) ∧ ((lg_cmp x y).toInt = 0 ↔ x.toInt = y.toInt) := by
  unfold lg_cmp
  have h0 : (0 : Int32).toInt = 0 := rfl
  have h1 : (1 : Int32).toInt = 1 := rfl
  have h2 : (-1 : Int32).toInt = -1 := rfl
  split
  · rename_i h
    have := Int64.lt_iff_toInt_lt.mp h
    omega
  · rename_i h
    have h3 := mt Int64.lt_iff_toInt_lt.mpr h
    split
    · rename_i h
      subst h
      omega
    · rename_i h
      have h4 : x.toInt ≠ y.toInt := fun q => h (Int64.toInt_inj.mp q)
      omega
theorem tr_lcmp2 (hexec : p.tables.exec = Jvm.exec) (hb : c.code = cc) {x y : Int64} (hdg : decode cc pc = .ok (.lcmp, 1))
    (kk : ∀ z : Int32, (-1 ≤ z.toInt ∧ z.toInt ≤ 1) → (z.toInt = 0 ↔ x = y) → ((z.toInt < 0 ↔ x.toInt < y.toInt) ∧ (z.toInt = 0 ↔ x.toInt = y.toInt)) → W p l e R s m args below meth c H locs cells slots Q (F0 m (pc + 1) ls (.int z :: rest))) : W p l e R s m args below meth c H locs cells slots Q (F0 m pc ls (.long y :: .long x :: rest)) :=
  W.lcmp hexec hb hdg (kk _ (ti_cmp x y).1 (ti_cmp x y).2 (ti_cmp2 x y))
end TRE
end
