/-! ===== the class's cells as one state: two streets (at 10, at 25) with what their laws write over, K: numbers, arrays, stones, names, rows of the table; rf: places that change ===== -/
abbrev Ua : Type := Int32 × (Nat → Int32) × (Nat → Int32) × (Nat → Int32)
abbrev Ck : Type := (Nat → Int32) × (Nat → Nat → Int32) × (Nat → Nat → Int32) × (Nat → Int64) × (Nat → Option Nat)
def stf (f : Nat → Int32) : List Value := [.int (f 0), .int (f 1), .int (f 2), .int (f 3), .int (f 4), .int (f 5), .int (f 6), .int (f 7)]
def n_ring : Nat → Option Nat := fun i => if i < 50 then some (49 + i) else none
def n_slots : Nat → Option Nat := fun i => if i < 3 then some (118 + i) else none
def cl (g : am_H) (T0 : Sd) (u0 : Ua) (T1 : Sd) (u1 : Ua) (K : Ck) (rf : Nat → Nat) : List am_C := [.inl (10, [.ref 9, .int (K.1 0), .int (K.1 1), .ref (rf 0), .ref (rf 1), .ref 40, .ref 46, .ref 47, .ref 99, .ref 100, .ref 105, .ref 108, .ref 113]), .inr (1, 2000, .inl (K.2.1 9)), .inl (7, [.int (nI (T0.1 0)), .int (nI (T0.1 1)), .ref 11, .int (nI (T0.1 2)), .int (nI (T0.1 3)), .ref 12, .ref 13, .ref 14, .ref 15, .ref 16, .ref 17, .ref 23, .ref 24, .int (nI (T0.1 4)), .int (nI (T0.1 5)), .int (nI (T0.1 6))]), .inr (0, 32, .inl (T0.2 0)), .inr (0, 4, .inl (T0.2 1)), .inr (0, 25, .inl (T0.2 2)), .inr (0, 25, .inl (T0.2 3)), .inr (0, 25, .inl (T0.2 4)), .inr (0, 25, .inl (T0.2 5)), .inl (1, [.ref 18, .int (nI (T0.1 7)), .ref 19, .int (nI (T0.1 8)), .ref 20, .int u0.1, .ref 21, .ref 22]), .inr (0, 400, .inl (T0.2 8)), .inr (0, 3, .inl (T0.2 9)), .inr (0, 32, .inl u0.2.1), .inr (0, 7, .inl u0.2.2.1), .inr (0, 32, .inl u0.2.2.2), .inr (0, 3, .inl (T0.2 6)), .inr (0, 3, .inl (T0.2 7)), .inl (7, [.int (nI (T1.1 0)), .int (nI (T1.1 1)), .ref 26, .int (nI (T1.1 2)), .int (nI (T1.1 3)), .ref 27, .ref 28, .ref 29, .ref 30, .ref 31, .ref 32, .ref 38, .ref 39, .int (nI (T1.1 4)), .int (nI (T1.1 5)), .int (nI (T1.1 6))]), .inr (0, 32, .inl (T1.2 0)), .inr (0, 4, .inl (T1.2 1)), .inr (0, 25, .inl (T1.2 2)), .inr (0, 25, .inl (T1.2 3)), .inr (0, 25, .inl (T1.2 4)), .inr (0, 25, .inl (T1.2 5)), .inl (1, [.ref 33, .int (nI (T1.1 7)), .ref 34, .int (nI (T1.1 8)), .ref 35, .int u1.1, .ref 36, .ref 37]), .inr (0, 400, .inl (T1.2 8)), .inr (0, 3, .inl (T1.2 9)), .inr (0, 32, .inl u1.2.1), .inr (0, 7, .inl u1.2.2.1), .inr (0, 32, .inl u1.2.2.2), .inr (0, 3, .inl (T1.2 6)), .inr (0, 3, .inl (T1.2 7)), .inl (4, [.ref 42, .ref (rf 2), .int (K.1 2), .int (K.1 3), .int (K.1 4), .int (K.1 5), .int (K.1 6), .ref 41, .int (K.1 8), .int (K.1 9), .int (K.1 10), .int (K.1 11)]), .inr (3, 4, .inr (.inl K.2.2.2.1)), .inl (9, [.ref 43, .ref 44, .ref 45, .ref 9, .int (K.1 12), .int (K.1 13), .int (K.1 14), .int (K.1 15)]), .inr (0, 401, .inl (K.2.1 43)), .inr (0, 401, .inl (K.2.1 44)), .inr (0, 401, .inl (K.2.1 45)), .inl (6, stf (K.2.2.1 46)), .inl (2, [.ref 48, .int (K.1 16), .int (K.1 17)]), .inr (4, 50, .inr (.inr n_ring)), .inl (6, stf (K.2.2.1 49)), .inl (6, stf (K.2.2.1 50)), .inl (6, stf (K.2.2.1 51)), .inl (6, stf (K.2.2.1 52)), .inl (6, stf (K.2.2.1 53)), .inl (6, stf (K.2.2.1 54)), .inl (6, stf (K.2.2.1 55)), .inl (6, stf (K.2.2.1 56)), .inl (6, stf (K.2.2.1 57)), .inl (6, stf (K.2.2.1 58)), .inl (6, stf (K.2.2.1 59)), .inl (6, stf (K.2.2.1 60)), .inl (6, stf (K.2.2.1 61)), .inl (6, stf (K.2.2.1 62)), .inl (6, stf (K.2.2.1 63)), .inl (6, stf (K.2.2.1 64)), .inl (6, stf (K.2.2.1 65)), .inl (6, stf (K.2.2.1 66)), .inl (6, stf (K.2.2.1 67)), .inl (6, stf (K.2.2.1 68)), .inl (6, stf (K.2.2.1 69)), .inl (6, stf (K.2.2.1 70)), .inl (6, stf (K.2.2.1 71)), .inl (6, stf (K.2.2.1 72)), .inl (6, stf (K.2.2.1 73)), .inl (6, stf (K.2.2.1 74)), .inl (6, stf (K.2.2.1 75)), .inl (6, stf (K.2.2.1 76)), .inl (6, stf (K.2.2.1 77)), .inl (6, stf (K.2.2.1 78)), .inl (6, stf (K.2.2.1 79)), .inl (6, stf (K.2.2.1 80)), .inl (6, stf (K.2.2.1 81)), .inl (6, stf (K.2.2.1 82)), .inl (6, stf (K.2.2.1 83)), .inl (6, stf (K.2.2.1 84)), .inl (6, stf (K.2.2.1 85)), .inl (6, stf (K.2.2.1 86)), .inl (6, stf (K.2.2.1 87)), .inl (6, stf (K.2.2.1 88)), .inl (6, stf (K.2.2.1 89)), .inl (6, stf (K.2.2.1 90)), .inl (6, stf (K.2.2.1 91)), .inl (6, stf (K.2.2.1 92)), .inl (6, stf (K.2.2.1 93)), .inl (6, stf (K.2.2.1 94)), .inl (6, stf (K.2.2.1 95)), .inl (6, stf (K.2.2.1 96)), .inl (6, stf (K.2.2.1 97)), .inl (6, stf (K.2.2.1 98)), .inr (4, 3, .inr (.inr n_slots)), .inl (8, [.ref (rf 3), .ref 101, .ref 102, .ref (rf 8), .ref 104, .int (K.1 18), .int (K.1 19)]), .inr (5, 16, .inr (.inr K.2.2.2.2)), .inr (0, 16, .inl (K.2.1 102)), (g.2.2 103), .inr (0, 96, .inl (K.2.1 104)), .inl (0, [.ref 100, .ref (rf 4), .ref (rf 6), .ref (rf 7), .int (K.1 20), .int (K.1 21), .int (K.1 22), .int (K.1 23), .int (K.1 24)]), .inr (0, 384, .inl (K.2.1 106)), .inr (0, 384, .inl (K.2.1 107)), .inl (3, [.ref 100, .ref (rf 5), .ref 109, .ref 110, .ref 111, .ref 112]), .inr (0, 9312, .inl (K.2.1 109)), .inr (0, 97, .inl (K.2.1 110)), .inr (0, 96, .inl (K.2.1 111)), .inr (0, 96, .inl (K.2.1 112)), .inl (5, [.ref 114, .int (K.1 25), .ref 115, .int (K.1 26), .int (K.1 27), .ref 116, .ref 117]), .inr (0, 5, .inl (K.2.1 114)), .inr (0, 180, .inl (K.2.1 115)), .inr (0, 3, .inl (K.2.1 116)), .inr (0, 3, .inl (K.2.1 117)), .inl (6, stf (K.2.2.1 118)), .inl (6, stf (K.2.2.1 119)), .inl (6, stf (K.2.2.1 120))]
def chl (g : am_H) (l : List am_C) : am_H := (g.1, g.2.1, fun q => if q < 8 then g.2.2 q else if q < 121 then am_nth l (q - 8) am_nil else g.2.2 q)
def ch (g : am_H) (T0 : Sd) (u0 : Ua) (T1 : Sd) (u1 : Ua) (K : Ck) (rf : Nat → Nat) : am_H := chl g (cl g T0 u0 T1 u1 K rf)
theorem chl_up {g : am_H} {l : List am_C} {i : Nat} {c : am_C} (hi : i < l.length) (h113 : i < 113) : am_up (chl g l) (8 + i) c = chl g (l.set i c) := by
  unfold am_up chl va_up
  refine congrArg (fun z => (g.1, g.2.1, z)) (funext fun q => ?_)
  by_cases e : q = 8 + i
  · subst e
    rw [if_pos rfl, if_neg (by omega), if_pos (by omega), am_nth_set _ _ _ _ _ hi, if_pos (by omega)]
  · rw [if_neg e]
    show (if q < 8 then g.2.2 q else if q < 121 then am_nth l (q - 8) am_nil else g.2.2 q) = if q < 8 then g.2.2 q else if q < 121 then am_nth (l.set i c) (q - 8) am_nil else g.2.2 q
    by_cases h1 : q < 8
    · rw [if_pos h1, if_pos h1]
    · rw [if_neg h1, if_neg h1]
      by_cases h2 : q < 121
      · rw [if_pos h2, if_pos h2, am_nth_set _ _ _ _ _ hi, if_neg (by omega)]
      · rw [if_neg h2, if_neg h2]
section CH
variable {g : am_H} {T0 T1 : Sd} {u0 u1 : Ua} {K : Ck} {rf : Nat → Nat}
theorem cg_8 : (ch g T0 u0 T1 u1 K rf).2.2 8 = .inl (10, [.ref 9, .int (K.1 0), .int (K.1 1), .ref (rf 0), .ref (rf 1), .ref 40, .ref 46, .ref 47, .ref 99, .ref 100, .ref 105, .ref 108, .ref 113]) := rfl
theorem cg_9 : (ch g T0 u0 T1 u1 K rf).2.2 9 = .inr (1, 2000, .inl (K.2.1 9)) := rfl
theorem cg_10 : (ch g T0 u0 T1 u1 K rf).2.2 10 = .inl (7, [.int (nI (T0.1 0)), .int (nI (T0.1 1)), .ref 11, .int (nI (T0.1 2)), .int (nI (T0.1 3)), .ref 12, .ref 13, .ref 14, .ref 15, .ref 16, .ref 17, .ref 23, .ref 24, .int (nI (T0.1 4)), .int (nI (T0.1 5)), .int (nI (T0.1 6))]) := rfl
theorem cg_11 : (ch g T0 u0 T1 u1 K rf).2.2 11 = .inr (0, 32, .inl (T0.2 0)) := rfl
theorem cg_12 : (ch g T0 u0 T1 u1 K rf).2.2 12 = .inr (0, 4, .inl (T0.2 1)) := rfl
theorem cg_13 : (ch g T0 u0 T1 u1 K rf).2.2 13 = .inr (0, 25, .inl (T0.2 2)) := rfl
theorem cg_14 : (ch g T0 u0 T1 u1 K rf).2.2 14 = .inr (0, 25, .inl (T0.2 3)) := rfl
theorem cg_15 : (ch g T0 u0 T1 u1 K rf).2.2 15 = .inr (0, 25, .inl (T0.2 4)) := rfl
theorem cg_16 : (ch g T0 u0 T1 u1 K rf).2.2 16 = .inr (0, 25, .inl (T0.2 5)) := rfl
theorem cg_17 : (ch g T0 u0 T1 u1 K rf).2.2 17 = .inl (1, [.ref 18, .int (nI (T0.1 7)), .ref 19, .int (nI (T0.1 8)), .ref 20, .int u0.1, .ref 21, .ref 22]) := rfl
theorem cg_18 : (ch g T0 u0 T1 u1 K rf).2.2 18 = .inr (0, 400, .inl (T0.2 8)) := rfl
theorem cg_19 : (ch g T0 u0 T1 u1 K rf).2.2 19 = .inr (0, 3, .inl (T0.2 9)) := rfl
theorem cg_20 : (ch g T0 u0 T1 u1 K rf).2.2 20 = .inr (0, 32, .inl u0.2.1) := rfl
theorem cg_21 : (ch g T0 u0 T1 u1 K rf).2.2 21 = .inr (0, 7, .inl u0.2.2.1) := rfl
theorem cg_22 : (ch g T0 u0 T1 u1 K rf).2.2 22 = .inr (0, 32, .inl u0.2.2.2) := rfl
theorem cg_23 : (ch g T0 u0 T1 u1 K rf).2.2 23 = .inr (0, 3, .inl (T0.2 6)) := rfl
theorem cg_24 : (ch g T0 u0 T1 u1 K rf).2.2 24 = .inr (0, 3, .inl (T0.2 7)) := rfl
theorem cg_25 : (ch g T0 u0 T1 u1 K rf).2.2 25 = .inl (7, [.int (nI (T1.1 0)), .int (nI (T1.1 1)), .ref 26, .int (nI (T1.1 2)), .int (nI (T1.1 3)), .ref 27, .ref 28, .ref 29, .ref 30, .ref 31, .ref 32, .ref 38, .ref 39, .int (nI (T1.1 4)), .int (nI (T1.1 5)), .int (nI (T1.1 6))]) := rfl
theorem cg_26 : (ch g T0 u0 T1 u1 K rf).2.2 26 = .inr (0, 32, .inl (T1.2 0)) := rfl
theorem cg_27 : (ch g T0 u0 T1 u1 K rf).2.2 27 = .inr (0, 4, .inl (T1.2 1)) := rfl
theorem cg_28 : (ch g T0 u0 T1 u1 K rf).2.2 28 = .inr (0, 25, .inl (T1.2 2)) := rfl
theorem cg_29 : (ch g T0 u0 T1 u1 K rf).2.2 29 = .inr (0, 25, .inl (T1.2 3)) := rfl
theorem cg_30 : (ch g T0 u0 T1 u1 K rf).2.2 30 = .inr (0, 25, .inl (T1.2 4)) := rfl
theorem cg_31 : (ch g T0 u0 T1 u1 K rf).2.2 31 = .inr (0, 25, .inl (T1.2 5)) := rfl
theorem cg_32 : (ch g T0 u0 T1 u1 K rf).2.2 32 = .inl (1, [.ref 33, .int (nI (T1.1 7)), .ref 34, .int (nI (T1.1 8)), .ref 35, .int u1.1, .ref 36, .ref 37]) := rfl
theorem cg_33 : (ch g T0 u0 T1 u1 K rf).2.2 33 = .inr (0, 400, .inl (T1.2 8)) := rfl
theorem cg_34 : (ch g T0 u0 T1 u1 K rf).2.2 34 = .inr (0, 3, .inl (T1.2 9)) := rfl
theorem cg_35 : (ch g T0 u0 T1 u1 K rf).2.2 35 = .inr (0, 32, .inl u1.2.1) := rfl
theorem cg_36 : (ch g T0 u0 T1 u1 K rf).2.2 36 = .inr (0, 7, .inl u1.2.2.1) := rfl
theorem cg_37 : (ch g T0 u0 T1 u1 K rf).2.2 37 = .inr (0, 32, .inl u1.2.2.2) := rfl
theorem cg_38 : (ch g T0 u0 T1 u1 K rf).2.2 38 = .inr (0, 3, .inl (T1.2 6)) := rfl
theorem cg_39 : (ch g T0 u0 T1 u1 K rf).2.2 39 = .inr (0, 3, .inl (T1.2 7)) := rfl
theorem cg_40 : (ch g T0 u0 T1 u1 K rf).2.2 40 = .inl (4, [.ref 42, .ref (rf 2), .int (K.1 2), .int (K.1 3), .int (K.1 4), .int (K.1 5), .int (K.1 6), .ref 41, .int (K.1 8), .int (K.1 9), .int (K.1 10), .int (K.1 11)]) := rfl
theorem cg_41 : (ch g T0 u0 T1 u1 K rf).2.2 41 = .inr (3, 4, .inr (.inl K.2.2.2.1)) := rfl
theorem cg_42 : (ch g T0 u0 T1 u1 K rf).2.2 42 = .inl (9, [.ref 43, .ref 44, .ref 45, .ref 9, .int (K.1 12), .int (K.1 13), .int (K.1 14), .int (K.1 15)]) := rfl
theorem cg_43 : (ch g T0 u0 T1 u1 K rf).2.2 43 = .inr (0, 401, .inl (K.2.1 43)) := rfl
theorem cg_44 : (ch g T0 u0 T1 u1 K rf).2.2 44 = .inr (0, 401, .inl (K.2.1 44)) := rfl
theorem cg_45 : (ch g T0 u0 T1 u1 K rf).2.2 45 = .inr (0, 401, .inl (K.2.1 45)) := rfl
theorem cg_46 : (ch g T0 u0 T1 u1 K rf).2.2 46 = .inl (6, stf (K.2.2.1 46)) := rfl
theorem cg_47 : (ch g T0 u0 T1 u1 K rf).2.2 47 = .inl (2, [.ref 48, .int (K.1 16), .int (K.1 17)]) := rfl
theorem cg_48 : (ch g T0 u0 T1 u1 K rf).2.2 48 = .inr (4, 50, .inr (.inr n_ring)) := rfl
theorem cg_49 : (ch g T0 u0 T1 u1 K rf).2.2 49 = .inl (6, stf (K.2.2.1 49)) := rfl
theorem cg_50 : (ch g T0 u0 T1 u1 K rf).2.2 50 = .inl (6, stf (K.2.2.1 50)) := rfl
theorem cg_51 : (ch g T0 u0 T1 u1 K rf).2.2 51 = .inl (6, stf (K.2.2.1 51)) := rfl
theorem cg_52 : (ch g T0 u0 T1 u1 K rf).2.2 52 = .inl (6, stf (K.2.2.1 52)) := rfl
theorem cg_53 : (ch g T0 u0 T1 u1 K rf).2.2 53 = .inl (6, stf (K.2.2.1 53)) := rfl
theorem cg_54 : (ch g T0 u0 T1 u1 K rf).2.2 54 = .inl (6, stf (K.2.2.1 54)) := rfl
theorem cg_55 : (ch g T0 u0 T1 u1 K rf).2.2 55 = .inl (6, stf (K.2.2.1 55)) := rfl
theorem cg_56 : (ch g T0 u0 T1 u1 K rf).2.2 56 = .inl (6, stf (K.2.2.1 56)) := rfl
theorem cg_57 : (ch g T0 u0 T1 u1 K rf).2.2 57 = .inl (6, stf (K.2.2.1 57)) := rfl
theorem cg_58 : (ch g T0 u0 T1 u1 K rf).2.2 58 = .inl (6, stf (K.2.2.1 58)) := rfl
theorem cg_59 : (ch g T0 u0 T1 u1 K rf).2.2 59 = .inl (6, stf (K.2.2.1 59)) := rfl
theorem cg_60 : (ch g T0 u0 T1 u1 K rf).2.2 60 = .inl (6, stf (K.2.2.1 60)) := rfl
theorem cg_61 : (ch g T0 u0 T1 u1 K rf).2.2 61 = .inl (6, stf (K.2.2.1 61)) := rfl
theorem cg_62 : (ch g T0 u0 T1 u1 K rf).2.2 62 = .inl (6, stf (K.2.2.1 62)) := rfl
theorem cg_63 : (ch g T0 u0 T1 u1 K rf).2.2 63 = .inl (6, stf (K.2.2.1 63)) := rfl
theorem cg_64 : (ch g T0 u0 T1 u1 K rf).2.2 64 = .inl (6, stf (K.2.2.1 64)) := rfl
theorem cg_65 : (ch g T0 u0 T1 u1 K rf).2.2 65 = .inl (6, stf (K.2.2.1 65)) := rfl
theorem cg_66 : (ch g T0 u0 T1 u1 K rf).2.2 66 = .inl (6, stf (K.2.2.1 66)) := rfl
theorem cg_67 : (ch g T0 u0 T1 u1 K rf).2.2 67 = .inl (6, stf (K.2.2.1 67)) := rfl
theorem cg_68 : (ch g T0 u0 T1 u1 K rf).2.2 68 = .inl (6, stf (K.2.2.1 68)) := rfl
theorem cg_69 : (ch g T0 u0 T1 u1 K rf).2.2 69 = .inl (6, stf (K.2.2.1 69)) := rfl
theorem cg_70 : (ch g T0 u0 T1 u1 K rf).2.2 70 = .inl (6, stf (K.2.2.1 70)) := rfl
theorem cg_71 : (ch g T0 u0 T1 u1 K rf).2.2 71 = .inl (6, stf (K.2.2.1 71)) := rfl
theorem cg_72 : (ch g T0 u0 T1 u1 K rf).2.2 72 = .inl (6, stf (K.2.2.1 72)) := rfl
theorem cg_73 : (ch g T0 u0 T1 u1 K rf).2.2 73 = .inl (6, stf (K.2.2.1 73)) := rfl
theorem cg_74 : (ch g T0 u0 T1 u1 K rf).2.2 74 = .inl (6, stf (K.2.2.1 74)) := rfl
theorem cg_75 : (ch g T0 u0 T1 u1 K rf).2.2 75 = .inl (6, stf (K.2.2.1 75)) := rfl
theorem cg_76 : (ch g T0 u0 T1 u1 K rf).2.2 76 = .inl (6, stf (K.2.2.1 76)) := rfl
theorem cg_77 : (ch g T0 u0 T1 u1 K rf).2.2 77 = .inl (6, stf (K.2.2.1 77)) := rfl
theorem cg_78 : (ch g T0 u0 T1 u1 K rf).2.2 78 = .inl (6, stf (K.2.2.1 78)) := rfl
theorem cg_79 : (ch g T0 u0 T1 u1 K rf).2.2 79 = .inl (6, stf (K.2.2.1 79)) := rfl
theorem cg_80 : (ch g T0 u0 T1 u1 K rf).2.2 80 = .inl (6, stf (K.2.2.1 80)) := rfl
theorem cg_81 : (ch g T0 u0 T1 u1 K rf).2.2 81 = .inl (6, stf (K.2.2.1 81)) := rfl
theorem cg_82 : (ch g T0 u0 T1 u1 K rf).2.2 82 = .inl (6, stf (K.2.2.1 82)) := rfl
theorem cg_83 : (ch g T0 u0 T1 u1 K rf).2.2 83 = .inl (6, stf (K.2.2.1 83)) := rfl
theorem cg_84 : (ch g T0 u0 T1 u1 K rf).2.2 84 = .inl (6, stf (K.2.2.1 84)) := rfl
theorem cg_85 : (ch g T0 u0 T1 u1 K rf).2.2 85 = .inl (6, stf (K.2.2.1 85)) := rfl
theorem cg_86 : (ch g T0 u0 T1 u1 K rf).2.2 86 = .inl (6, stf (K.2.2.1 86)) := rfl
theorem cg_87 : (ch g T0 u0 T1 u1 K rf).2.2 87 = .inl (6, stf (K.2.2.1 87)) := rfl
theorem cg_88 : (ch g T0 u0 T1 u1 K rf).2.2 88 = .inl (6, stf (K.2.2.1 88)) := rfl
theorem cg_89 : (ch g T0 u0 T1 u1 K rf).2.2 89 = .inl (6, stf (K.2.2.1 89)) := rfl
theorem cg_90 : (ch g T0 u0 T1 u1 K rf).2.2 90 = .inl (6, stf (K.2.2.1 90)) := rfl
theorem cg_91 : (ch g T0 u0 T1 u1 K rf).2.2 91 = .inl (6, stf (K.2.2.1 91)) := rfl
theorem cg_92 : (ch g T0 u0 T1 u1 K rf).2.2 92 = .inl (6, stf (K.2.2.1 92)) := rfl
theorem cg_93 : (ch g T0 u0 T1 u1 K rf).2.2 93 = .inl (6, stf (K.2.2.1 93)) := rfl
theorem cg_94 : (ch g T0 u0 T1 u1 K rf).2.2 94 = .inl (6, stf (K.2.2.1 94)) := rfl
theorem cg_95 : (ch g T0 u0 T1 u1 K rf).2.2 95 = .inl (6, stf (K.2.2.1 95)) := rfl
theorem cg_96 : (ch g T0 u0 T1 u1 K rf).2.2 96 = .inl (6, stf (K.2.2.1 96)) := rfl
theorem cg_97 : (ch g T0 u0 T1 u1 K rf).2.2 97 = .inl (6, stf (K.2.2.1 97)) := rfl
theorem cg_98 : (ch g T0 u0 T1 u1 K rf).2.2 98 = .inl (6, stf (K.2.2.1 98)) := rfl
theorem cg_99 : (ch g T0 u0 T1 u1 K rf).2.2 99 = .inr (4, 3, .inr (.inr n_slots)) := rfl
theorem cg_100 : (ch g T0 u0 T1 u1 K rf).2.2 100 = .inl (8, [.ref (rf 3), .ref 101, .ref 102, .ref (rf 8), .ref 104, .int (K.1 18), .int (K.1 19)]) := rfl
theorem cg_101 : (ch g T0 u0 T1 u1 K rf).2.2 101 = .inr (5, 16, .inr (.inr K.2.2.2.2)) := rfl
theorem cg_102 : (ch g T0 u0 T1 u1 K rf).2.2 102 = .inr (0, 16, .inl (K.2.1 102)) := rfl
theorem cg_103 : (ch g T0 u0 T1 u1 K rf).2.2 103 = (g.2.2 103) := rfl
theorem cg_104 : (ch g T0 u0 T1 u1 K rf).2.2 104 = .inr (0, 96, .inl (K.2.1 104)) := rfl
theorem cg_105 : (ch g T0 u0 T1 u1 K rf).2.2 105 = .inl (0, [.ref 100, .ref (rf 4), .ref (rf 6), .ref (rf 7), .int (K.1 20), .int (K.1 21), .int (K.1 22), .int (K.1 23), .int (K.1 24)]) := rfl
theorem cg_106 : (ch g T0 u0 T1 u1 K rf).2.2 106 = .inr (0, 384, .inl (K.2.1 106)) := rfl
theorem cg_107 : (ch g T0 u0 T1 u1 K rf).2.2 107 = .inr (0, 384, .inl (K.2.1 107)) := rfl
theorem cg_108 : (ch g T0 u0 T1 u1 K rf).2.2 108 = .inl (3, [.ref 100, .ref (rf 5), .ref 109, .ref 110, .ref 111, .ref 112]) := rfl
theorem cg_109 : (ch g T0 u0 T1 u1 K rf).2.2 109 = .inr (0, 9312, .inl (K.2.1 109)) := rfl
theorem cg_110 : (ch g T0 u0 T1 u1 K rf).2.2 110 = .inr (0, 97, .inl (K.2.1 110)) := rfl
theorem cg_111 : (ch g T0 u0 T1 u1 K rf).2.2 111 = .inr (0, 96, .inl (K.2.1 111)) := rfl
theorem cg_112 : (ch g T0 u0 T1 u1 K rf).2.2 112 = .inr (0, 96, .inl (K.2.1 112)) := rfl
theorem cg_113 : (ch g T0 u0 T1 u1 K rf).2.2 113 = .inl (5, [.ref 114, .int (K.1 25), .ref 115, .int (K.1 26), .int (K.1 27), .ref 116, .ref 117]) := rfl
theorem cg_114 : (ch g T0 u0 T1 u1 K rf).2.2 114 = .inr (0, 5, .inl (K.2.1 114)) := rfl
theorem cg_115 : (ch g T0 u0 T1 u1 K rf).2.2 115 = .inr (0, 180, .inl (K.2.1 115)) := rfl
theorem cg_116 : (ch g T0 u0 T1 u1 K rf).2.2 116 = .inr (0, 3, .inl (K.2.1 116)) := rfl
theorem cg_117 : (ch g T0 u0 T1 u1 K rf).2.2 117 = .inr (0, 3, .inl (K.2.1 117)) := rfl
theorem cg_118 : (ch g T0 u0 T1 u1 K rf).2.2 118 = .inl (6, stf (K.2.2.1 118)) := rfl
theorem cg_119 : (ch g T0 u0 T1 u1 K rf).2.2 119 = .inl (6, stf (K.2.2.1 119)) := rfl
theorem cg_120 : (ch g T0 u0 T1 u1 K rf).2.2 120 = .inl (6, stf (K.2.2.1 120)) := rfl
theorem cu_9 {f : Nat → Int32} : am_up (ch g T0 u0 T1 u1 K rf) 9 (.inr (1, 2000, .inl f)) = ch g T0 u0 T1 u1 (K.1, va_up K.2.1 9 f, K.2.2) rf := chl_up (i := 1) (Nat.le_of_ble_eq_true rfl) (by decide)
theorem cu_43 {f : Nat → Int32} : am_up (ch g T0 u0 T1 u1 K rf) 43 (.inr (0, 401, .inl f)) = ch g T0 u0 T1 u1 (K.1, va_up K.2.1 43 f, K.2.2) rf := chl_up (i := 35) (Nat.le_of_ble_eq_true rfl) (by decide)
theorem cu_44 {f : Nat → Int32} : am_up (ch g T0 u0 T1 u1 K rf) 44 (.inr (0, 401, .inl f)) = ch g T0 u0 T1 u1 (K.1, va_up K.2.1 44 f, K.2.2) rf := chl_up (i := 36) (Nat.le_of_ble_eq_true rfl) (by decide)
theorem cu_45 {f : Nat → Int32} : am_up (ch g T0 u0 T1 u1 K rf) 45 (.inr (0, 401, .inl f)) = ch g T0 u0 T1 u1 (K.1, va_up K.2.1 45 f, K.2.2) rf := chl_up (i := 37) (Nat.le_of_ble_eq_true rfl) (by decide)
theorem cu_102 {f : Nat → Int32} : am_up (ch g T0 u0 T1 u1 K rf) 102 (.inr (0, 16, .inl f)) = ch g T0 u0 T1 u1 (K.1, va_up K.2.1 102 f, K.2.2) rf := chl_up (i := 94) (Nat.le_of_ble_eq_true rfl) (by decide)
theorem cu_104 {f : Nat → Int32} : am_up (ch g T0 u0 T1 u1 K rf) 104 (.inr (0, 96, .inl f)) = ch g T0 u0 T1 u1 (K.1, va_up K.2.1 104 f, K.2.2) rf := chl_up (i := 96) (Nat.le_of_ble_eq_true rfl) (by decide)
theorem cu_106 {f : Nat → Int32} : am_up (ch g T0 u0 T1 u1 K rf) 106 (.inr (0, 384, .inl f)) = ch g T0 u0 T1 u1 (K.1, va_up K.2.1 106 f, K.2.2) rf := chl_up (i := 98) (Nat.le_of_ble_eq_true rfl) (by decide)
theorem cu_107 {f : Nat → Int32} : am_up (ch g T0 u0 T1 u1 K rf) 107 (.inr (0, 384, .inl f)) = ch g T0 u0 T1 u1 (K.1, va_up K.2.1 107 f, K.2.2) rf := chl_up (i := 99) (Nat.le_of_ble_eq_true rfl) (by decide)
theorem cu_109 {f : Nat → Int32} : am_up (ch g T0 u0 T1 u1 K rf) 109 (.inr (0, 9312, .inl f)) = ch g T0 u0 T1 u1 (K.1, va_up K.2.1 109 f, K.2.2) rf := chl_up (i := 101) (Nat.le_of_ble_eq_true rfl) (by decide)
theorem cu_110 {f : Nat → Int32} : am_up (ch g T0 u0 T1 u1 K rf) 110 (.inr (0, 97, .inl f)) = ch g T0 u0 T1 u1 (K.1, va_up K.2.1 110 f, K.2.2) rf := chl_up (i := 102) (Nat.le_of_ble_eq_true rfl) (by decide)
theorem cu_111 {f : Nat → Int32} : am_up (ch g T0 u0 T1 u1 K rf) 111 (.inr (0, 96, .inl f)) = ch g T0 u0 T1 u1 (K.1, va_up K.2.1 111 f, K.2.2) rf := chl_up (i := 103) (Nat.le_of_ble_eq_true rfl) (by decide)
theorem cu_112 {f : Nat → Int32} : am_up (ch g T0 u0 T1 u1 K rf) 112 (.inr (0, 96, .inl f)) = ch g T0 u0 T1 u1 (K.1, va_up K.2.1 112 f, K.2.2) rf := chl_up (i := 104) (Nat.le_of_ble_eq_true rfl) (by decide)
theorem cu_114 {f : Nat → Int32} : am_up (ch g T0 u0 T1 u1 K rf) 114 (.inr (0, 5, .inl f)) = ch g T0 u0 T1 u1 (K.1, va_up K.2.1 114 f, K.2.2) rf := chl_up (i := 106) (Nat.le_of_ble_eq_true rfl) (by decide)
theorem cu_115 {f : Nat → Int32} : am_up (ch g T0 u0 T1 u1 K rf) 115 (.inr (0, 180, .inl f)) = ch g T0 u0 T1 u1 (K.1, va_up K.2.1 115 f, K.2.2) rf := chl_up (i := 107) (Nat.le_of_ble_eq_true rfl) (by decide)
theorem cu_116 {f : Nat → Int32} : am_up (ch g T0 u0 T1 u1 K rf) 116 (.inr (0, 3, .inl f)) = ch g T0 u0 T1 u1 (K.1, va_up K.2.1 116 f, K.2.2) rf := chl_up (i := 108) (Nat.le_of_ble_eq_true rfl) (by decide)
theorem cu_117 {f : Nat → Int32} : am_up (ch g T0 u0 T1 u1 K rf) 117 (.inr (0, 3, .inl f)) = ch g T0 u0 T1 u1 (K.1, va_up K.2.1 117 f, K.2.2) rf := chl_up (i := 109) (Nat.le_of_ble_eq_true rfl) (by decide)
theorem cu_41 {f : Nat → Int64} : am_up (ch g T0 u0 T1 u1 K rf) 41 (.inr (3, 4, .inr (.inl f))) = ch g T0 u0 T1 u1 (K.1, K.2.1, K.2.2.1, f, K.2.2.2.2) rf := chl_up (i := 33) (Nat.le_of_ble_eq_true rfl) (by decide)
theorem cu_101 {f : Nat → Option Nat} : am_up (ch g T0 u0 T1 u1 K rf) 101 (.inr (5, 16, .inr (.inr f))) = ch g T0 u0 T1 u1 (K.1, K.2.1, K.2.2.1, K.2.2.2.1, f) rf := chl_up (i := 93) (Nat.le_of_ble_eq_true rfl) (by decide)
theorem cp_8_1 {x : Int32} : am_up (ch g T0 u0 T1 u1 K rf) 8 (.inl (10, List.set [.ref 9, .int (K.1 0), .int (K.1 1), .ref (rf 0), .ref (rf 1), .ref 40, .ref 46, .ref 47, .ref 99, .ref 100, .ref 105, .ref 108, .ref 113] 1 (.int x))) = ch g T0 u0 T1 u1 (va_up K.1 0 x, K.2) rf := chl_up (i := 0) (Nat.le_of_ble_eq_true rfl) (by decide)
theorem cp_8_2 {x : Int32} : am_up (ch g T0 u0 T1 u1 K rf) 8 (.inl (10, List.set [.ref 9, .int (K.1 0), .int (K.1 1), .ref (rf 0), .ref (rf 1), .ref 40, .ref 46, .ref 47, .ref 99, .ref 100, .ref 105, .ref 108, .ref 113] 2 (.int x))) = ch g T0 u0 T1 u1 (va_up K.1 1 x, K.2) rf := chl_up (i := 0) (Nat.le_of_ble_eq_true rfl) (by decide)
theorem cp_40_2 {x : Int32} : am_up (ch g T0 u0 T1 u1 K rf) 40 (.inl (4, List.set [.ref 42, .ref (rf 2), .int (K.1 2), .int (K.1 3), .int (K.1 4), .int (K.1 5), .int (K.1 6), .ref 41, .int (K.1 8), .int (K.1 9), .int (K.1 10), .int (K.1 11)] 2 (.int x))) = ch g T0 u0 T1 u1 (va_up K.1 2 x, K.2) rf := chl_up (i := 32) (Nat.le_of_ble_eq_true rfl) (by decide)
theorem cp_40_3 {x : Int32} : am_up (ch g T0 u0 T1 u1 K rf) 40 (.inl (4, List.set [.ref 42, .ref (rf 2), .int (K.1 2), .int (K.1 3), .int (K.1 4), .int (K.1 5), .int (K.1 6), .ref 41, .int (K.1 8), .int (K.1 9), .int (K.1 10), .int (K.1 11)] 3 (.int x))) = ch g T0 u0 T1 u1 (va_up K.1 3 x, K.2) rf := chl_up (i := 32) (Nat.le_of_ble_eq_true rfl) (by decide)
theorem cp_40_4 {x : Int32} : am_up (ch g T0 u0 T1 u1 K rf) 40 (.inl (4, List.set [.ref 42, .ref (rf 2), .int (K.1 2), .int (K.1 3), .int (K.1 4), .int (K.1 5), .int (K.1 6), .ref 41, .int (K.1 8), .int (K.1 9), .int (K.1 10), .int (K.1 11)] 4 (.int x))) = ch g T0 u0 T1 u1 (va_up K.1 4 x, K.2) rf := chl_up (i := 32) (Nat.le_of_ble_eq_true rfl) (by decide)
theorem cp_40_5 {x : Int32} : am_up (ch g T0 u0 T1 u1 K rf) 40 (.inl (4, List.set [.ref 42, .ref (rf 2), .int (K.1 2), .int (K.1 3), .int (K.1 4), .int (K.1 5), .int (K.1 6), .ref 41, .int (K.1 8), .int (K.1 9), .int (K.1 10), .int (K.1 11)] 5 (.int x))) = ch g T0 u0 T1 u1 (va_up K.1 5 x, K.2) rf := chl_up (i := 32) (Nat.le_of_ble_eq_true rfl) (by decide)
theorem cp_40_6 {x : Int32} : am_up (ch g T0 u0 T1 u1 K rf) 40 (.inl (4, List.set [.ref 42, .ref (rf 2), .int (K.1 2), .int (K.1 3), .int (K.1 4), .int (K.1 5), .int (K.1 6), .ref 41, .int (K.1 8), .int (K.1 9), .int (K.1 10), .int (K.1 11)] 6 (.int x))) = ch g T0 u0 T1 u1 (va_up K.1 6 x, K.2) rf := chl_up (i := 32) (Nat.le_of_ble_eq_true rfl) (by decide)
theorem cp_40_8 {x : Int32} : am_up (ch g T0 u0 T1 u1 K rf) 40 (.inl (4, List.set [.ref 42, .ref (rf 2), .int (K.1 2), .int (K.1 3), .int (K.1 4), .int (K.1 5), .int (K.1 6), .ref 41, .int (K.1 8), .int (K.1 9), .int (K.1 10), .int (K.1 11)] 8 (.int x))) = ch g T0 u0 T1 u1 (va_up K.1 8 x, K.2) rf := chl_up (i := 32) (Nat.le_of_ble_eq_true rfl) (by decide)
theorem cp_40_9 {x : Int32} : am_up (ch g T0 u0 T1 u1 K rf) 40 (.inl (4, List.set [.ref 42, .ref (rf 2), .int (K.1 2), .int (K.1 3), .int (K.1 4), .int (K.1 5), .int (K.1 6), .ref 41, .int (K.1 8), .int (K.1 9), .int (K.1 10), .int (K.1 11)] 9 (.int x))) = ch g T0 u0 T1 u1 (va_up K.1 9 x, K.2) rf := chl_up (i := 32) (Nat.le_of_ble_eq_true rfl) (by decide)
theorem cp_40_10 {x : Int32} : am_up (ch g T0 u0 T1 u1 K rf) 40 (.inl (4, List.set [.ref 42, .ref (rf 2), .int (K.1 2), .int (K.1 3), .int (K.1 4), .int (K.1 5), .int (K.1 6), .ref 41, .int (K.1 8), .int (K.1 9), .int (K.1 10), .int (K.1 11)] 10 (.int x))) = ch g T0 u0 T1 u1 (va_up K.1 10 x, K.2) rf := chl_up (i := 32) (Nat.le_of_ble_eq_true rfl) (by decide)
theorem cp_40_11 {x : Int32} : am_up (ch g T0 u0 T1 u1 K rf) 40 (.inl (4, List.set [.ref 42, .ref (rf 2), .int (K.1 2), .int (K.1 3), .int (K.1 4), .int (K.1 5), .int (K.1 6), .ref 41, .int (K.1 8), .int (K.1 9), .int (K.1 10), .int (K.1 11)] 11 (.int x))) = ch g T0 u0 T1 u1 (va_up K.1 11 x, K.2) rf := chl_up (i := 32) (Nat.le_of_ble_eq_true rfl) (by decide)
theorem cp_42_4 {x : Int32} : am_up (ch g T0 u0 T1 u1 K rf) 42 (.inl (9, List.set [.ref 43, .ref 44, .ref 45, .ref 9, .int (K.1 12), .int (K.1 13), .int (K.1 14), .int (K.1 15)] 4 (.int x))) = ch g T0 u0 T1 u1 (va_up K.1 12 x, K.2) rf := chl_up (i := 34) (Nat.le_of_ble_eq_true rfl) (by decide)
theorem cp_42_5 {x : Int32} : am_up (ch g T0 u0 T1 u1 K rf) 42 (.inl (9, List.set [.ref 43, .ref 44, .ref 45, .ref 9, .int (K.1 12), .int (K.1 13), .int (K.1 14), .int (K.1 15)] 5 (.int x))) = ch g T0 u0 T1 u1 (va_up K.1 13 x, K.2) rf := chl_up (i := 34) (Nat.le_of_ble_eq_true rfl) (by decide)
theorem cp_42_6 {x : Int32} : am_up (ch g T0 u0 T1 u1 K rf) 42 (.inl (9, List.set [.ref 43, .ref 44, .ref 45, .ref 9, .int (K.1 12), .int (K.1 13), .int (K.1 14), .int (K.1 15)] 6 (.int x))) = ch g T0 u0 T1 u1 (va_up K.1 14 x, K.2) rf := chl_up (i := 34) (Nat.le_of_ble_eq_true rfl) (by decide)
theorem cp_42_7 {x : Int32} : am_up (ch g T0 u0 T1 u1 K rf) 42 (.inl (9, List.set [.ref 43, .ref 44, .ref 45, .ref 9, .int (K.1 12), .int (K.1 13), .int (K.1 14), .int (K.1 15)] 7 (.int x))) = ch g T0 u0 T1 u1 (va_up K.1 15 x, K.2) rf := chl_up (i := 34) (Nat.le_of_ble_eq_true rfl) (by decide)
theorem cp_47_1 {x : Int32} : am_up (ch g T0 u0 T1 u1 K rf) 47 (.inl (2, List.set [.ref 48, .int (K.1 16), .int (K.1 17)] 1 (.int x))) = ch g T0 u0 T1 u1 (va_up K.1 16 x, K.2) rf := chl_up (i := 39) (Nat.le_of_ble_eq_true rfl) (by decide)
theorem cp_47_2 {x : Int32} : am_up (ch g T0 u0 T1 u1 K rf) 47 (.inl (2, List.set [.ref 48, .int (K.1 16), .int (K.1 17)] 2 (.int x))) = ch g T0 u0 T1 u1 (va_up K.1 17 x, K.2) rf := chl_up (i := 39) (Nat.le_of_ble_eq_true rfl) (by decide)
theorem cp_100_5 {x : Int32} : am_up (ch g T0 u0 T1 u1 K rf) 100 (.inl (8, List.set [.ref (rf 3), .ref 101, .ref 102, .ref (rf 8), .ref 104, .int (K.1 18), .int (K.1 19)] 5 (.int x))) = ch g T0 u0 T1 u1 (va_up K.1 18 x, K.2) rf := chl_up (i := 92) (Nat.le_of_ble_eq_true rfl) (by decide)
theorem cp_100_6 {x : Int32} : am_up (ch g T0 u0 T1 u1 K rf) 100 (.inl (8, List.set [.ref (rf 3), .ref 101, .ref 102, .ref (rf 8), .ref 104, .int (K.1 18), .int (K.1 19)] 6 (.int x))) = ch g T0 u0 T1 u1 (va_up K.1 19 x, K.2) rf := chl_up (i := 92) (Nat.le_of_ble_eq_true rfl) (by decide)
theorem cp_105_4 {x : Int32} : am_up (ch g T0 u0 T1 u1 K rf) 105 (.inl (0, List.set [.ref 100, .ref (rf 4), .ref (rf 6), .ref (rf 7), .int (K.1 20), .int (K.1 21), .int (K.1 22), .int (K.1 23), .int (K.1 24)] 4 (.int x))) = ch g T0 u0 T1 u1 (va_up K.1 20 x, K.2) rf := chl_up (i := 97) (Nat.le_of_ble_eq_true rfl) (by decide)
theorem cp_105_5 {x : Int32} : am_up (ch g T0 u0 T1 u1 K rf) 105 (.inl (0, List.set [.ref 100, .ref (rf 4), .ref (rf 6), .ref (rf 7), .int (K.1 20), .int (K.1 21), .int (K.1 22), .int (K.1 23), .int (K.1 24)] 5 (.int x))) = ch g T0 u0 T1 u1 (va_up K.1 21 x, K.2) rf := chl_up (i := 97) (Nat.le_of_ble_eq_true rfl) (by decide)
theorem cp_105_6 {x : Int32} : am_up (ch g T0 u0 T1 u1 K rf) 105 (.inl (0, List.set [.ref 100, .ref (rf 4), .ref (rf 6), .ref (rf 7), .int (K.1 20), .int (K.1 21), .int (K.1 22), .int (K.1 23), .int (K.1 24)] 6 (.int x))) = ch g T0 u0 T1 u1 (va_up K.1 22 x, K.2) rf := chl_up (i := 97) (Nat.le_of_ble_eq_true rfl) (by decide)
theorem cp_105_7 {x : Int32} : am_up (ch g T0 u0 T1 u1 K rf) 105 (.inl (0, List.set [.ref 100, .ref (rf 4), .ref (rf 6), .ref (rf 7), .int (K.1 20), .int (K.1 21), .int (K.1 22), .int (K.1 23), .int (K.1 24)] 7 (.int x))) = ch g T0 u0 T1 u1 (va_up K.1 23 x, K.2) rf := chl_up (i := 97) (Nat.le_of_ble_eq_true rfl) (by decide)
theorem cp_105_8 {x : Int32} : am_up (ch g T0 u0 T1 u1 K rf) 105 (.inl (0, List.set [.ref 100, .ref (rf 4), .ref (rf 6), .ref (rf 7), .int (K.1 20), .int (K.1 21), .int (K.1 22), .int (K.1 23), .int (K.1 24)] 8 (.int x))) = ch g T0 u0 T1 u1 (va_up K.1 24 x, K.2) rf := chl_up (i := 97) (Nat.le_of_ble_eq_true rfl) (by decide)
theorem cp_113_1 {x : Int32} : am_up (ch g T0 u0 T1 u1 K rf) 113 (.inl (5, List.set [.ref 114, .int (K.1 25), .ref 115, .int (K.1 26), .int (K.1 27), .ref 116, .ref 117] 1 (.int x))) = ch g T0 u0 T1 u1 (va_up K.1 25 x, K.2) rf := chl_up (i := 105) (Nat.le_of_ble_eq_true rfl) (by decide)
theorem cp_113_3 {x : Int32} : am_up (ch g T0 u0 T1 u1 K rf) 113 (.inl (5, List.set [.ref 114, .int (K.1 25), .ref 115, .int (K.1 26), .int (K.1 27), .ref 116, .ref 117] 3 (.int x))) = ch g T0 u0 T1 u1 (va_up K.1 26 x, K.2) rf := chl_up (i := 105) (Nat.le_of_ble_eq_true rfl) (by decide)
theorem cp_113_4 {x : Int32} : am_up (ch g T0 u0 T1 u1 K rf) 113 (.inl (5, List.set [.ref 114, .int (K.1 25), .ref 115, .int (K.1 26), .int (K.1 27), .ref 116, .ref 117] 4 (.int x))) = ch g T0 u0 T1 u1 (va_up K.1 27 x, K.2) rf := chl_up (i := 105) (Nat.le_of_ble_eq_true rfl) (by decide)
theorem cp_8_3 {x : Nat} : am_up (ch g T0 u0 T1 u1 K rf) 8 (.inl (10, List.set [.ref 9, .int (K.1 0), .int (K.1 1), .ref (rf 0), .ref (rf 1), .ref 40, .ref 46, .ref 47, .ref 99, .ref 100, .ref 105, .ref 108, .ref 113] 3 (.ref x))) = ch g T0 u0 T1 u1 K (va_up rf 0 x) := chl_up (i := 0) (Nat.le_of_ble_eq_true rfl) (by decide)
theorem cp_8_4 {x : Nat} : am_up (ch g T0 u0 T1 u1 K rf) 8 (.inl (10, List.set [.ref 9, .int (K.1 0), .int (K.1 1), .ref (rf 0), .ref (rf 1), .ref 40, .ref 46, .ref 47, .ref 99, .ref 100, .ref 105, .ref 108, .ref 113] 4 (.ref x))) = ch g T0 u0 T1 u1 K (va_up rf 1 x) := chl_up (i := 0) (Nat.le_of_ble_eq_true rfl) (by decide)
theorem cp_40_1 {x : Nat} : am_up (ch g T0 u0 T1 u1 K rf) 40 (.inl (4, List.set [.ref 42, .ref (rf 2), .int (K.1 2), .int (K.1 3), .int (K.1 4), .int (K.1 5), .int (K.1 6), .ref 41, .int (K.1 8), .int (K.1 9), .int (K.1 10), .int (K.1 11)] 1 (.ref x))) = ch g T0 u0 T1 u1 K (va_up rf 2 x) := chl_up (i := 32) (Nat.le_of_ble_eq_true rfl) (by decide)
theorem cp_100_0 {x : Nat} : am_up (ch g T0 u0 T1 u1 K rf) 100 (.inl (8, List.set [.ref (rf 3), .ref 101, .ref 102, .ref (rf 8), .ref 104, .int (K.1 18), .int (K.1 19)] 0 (.ref x))) = ch g T0 u0 T1 u1 K (va_up rf 3 x) := chl_up (i := 92) (Nat.le_of_ble_eq_true rfl) (by decide)
theorem cp_100_3 {x : Nat} : am_up (ch g T0 u0 T1 u1 K rf) 100 (.inl (8, List.set [.ref (rf 3), .ref 101, .ref 102, .ref (rf 8), .ref 104, .int (K.1 18), .int (K.1 19)] 3 (.ref x))) = ch g T0 u0 T1 u1 K (va_up rf 8 x) := chl_up (i := 92) (Nat.le_of_ble_eq_true rfl) (by decide)
theorem cp_105_1 {x : Nat} : am_up (ch g T0 u0 T1 u1 K rf) 105 (.inl (0, List.set [.ref 100, .ref (rf 4), .ref (rf 6), .ref (rf 7), .int (K.1 20), .int (K.1 21), .int (K.1 22), .int (K.1 23), .int (K.1 24)] 1 (.ref x))) = ch g T0 u0 T1 u1 K (va_up rf 4 x) := chl_up (i := 97) (Nat.le_of_ble_eq_true rfl) (by decide)
theorem cp_105_2 {x : Nat} : am_up (ch g T0 u0 T1 u1 K rf) 105 (.inl (0, List.set [.ref 100, .ref (rf 4), .ref (rf 6), .ref (rf 7), .int (K.1 20), .int (K.1 21), .int (K.1 22), .int (K.1 23), .int (K.1 24)] 2 (.ref x))) = ch g T0 u0 T1 u1 K (va_up rf 6 x) := chl_up (i := 97) (Nat.le_of_ble_eq_true rfl) (by decide)
theorem cp_105_3 {x : Nat} : am_up (ch g T0 u0 T1 u1 K rf) 105 (.inl (0, List.set [.ref 100, .ref (rf 4), .ref (rf 6), .ref (rf 7), .int (K.1 20), .int (K.1 21), .int (K.1 22), .int (K.1 23), .int (K.1 24)] 3 (.ref x))) = ch g T0 u0 T1 u1 K (va_up rf 7 x) := chl_up (i := 97) (Nat.le_of_ble_eq_true rfl) (by decide)
theorem cp_108_1 {x : Nat} : am_up (ch g T0 u0 T1 u1 K rf) 108 (.inl (3, List.set [.ref 100, .ref (rf 5), .ref 109, .ref 110, .ref 111, .ref 112] 1 (.ref x))) = ch g T0 u0 T1 u1 K (va_up rf 5 x) := chl_up (i := 100) (Nat.le_of_ble_eq_true rfl) (by decide)
theorem cw_46 {f : Nat → Int32} : am_up (ch g T0 u0 T1 u1 K rf) 46 (.inl (6, stf f)) = ch g T0 u0 T1 u1 (K.1, K.2.1, va_up K.2.2.1 46 f, K.2.2.2) rf := chl_up (i := 38) (Nat.le_of_ble_eq_true rfl) (by decide)
theorem cw_49 {f : Nat → Int32} : am_up (ch g T0 u0 T1 u1 K rf) 49 (.inl (6, stf f)) = ch g T0 u0 T1 u1 (K.1, K.2.1, va_up K.2.2.1 49 f, K.2.2.2) rf := chl_up (i := 41) (Nat.le_of_ble_eq_true rfl) (by decide)
theorem cw_50 {f : Nat → Int32} : am_up (ch g T0 u0 T1 u1 K rf) 50 (.inl (6, stf f)) = ch g T0 u0 T1 u1 (K.1, K.2.1, va_up K.2.2.1 50 f, K.2.2.2) rf := chl_up (i := 42) (Nat.le_of_ble_eq_true rfl) (by decide)
theorem cw_51 {f : Nat → Int32} : am_up (ch g T0 u0 T1 u1 K rf) 51 (.inl (6, stf f)) = ch g T0 u0 T1 u1 (K.1, K.2.1, va_up K.2.2.1 51 f, K.2.2.2) rf := chl_up (i := 43) (Nat.le_of_ble_eq_true rfl) (by decide)
theorem cw_52 {f : Nat → Int32} : am_up (ch g T0 u0 T1 u1 K rf) 52 (.inl (6, stf f)) = ch g T0 u0 T1 u1 (K.1, K.2.1, va_up K.2.2.1 52 f, K.2.2.2) rf := chl_up (i := 44) (Nat.le_of_ble_eq_true rfl) (by decide)
theorem cw_53 {f : Nat → Int32} : am_up (ch g T0 u0 T1 u1 K rf) 53 (.inl (6, stf f)) = ch g T0 u0 T1 u1 (K.1, K.2.1, va_up K.2.2.1 53 f, K.2.2.2) rf := chl_up (i := 45) (Nat.le_of_ble_eq_true rfl) (by decide)
theorem cw_54 {f : Nat → Int32} : am_up (ch g T0 u0 T1 u1 K rf) 54 (.inl (6, stf f)) = ch g T0 u0 T1 u1 (K.1, K.2.1, va_up K.2.2.1 54 f, K.2.2.2) rf := chl_up (i := 46) (Nat.le_of_ble_eq_true rfl) (by decide)
theorem cw_55 {f : Nat → Int32} : am_up (ch g T0 u0 T1 u1 K rf) 55 (.inl (6, stf f)) = ch g T0 u0 T1 u1 (K.1, K.2.1, va_up K.2.2.1 55 f, K.2.2.2) rf := chl_up (i := 47) (Nat.le_of_ble_eq_true rfl) (by decide)
theorem cw_56 {f : Nat → Int32} : am_up (ch g T0 u0 T1 u1 K rf) 56 (.inl (6, stf f)) = ch g T0 u0 T1 u1 (K.1, K.2.1, va_up K.2.2.1 56 f, K.2.2.2) rf := chl_up (i := 48) (Nat.le_of_ble_eq_true rfl) (by decide)
theorem cw_57 {f : Nat → Int32} : am_up (ch g T0 u0 T1 u1 K rf) 57 (.inl (6, stf f)) = ch g T0 u0 T1 u1 (K.1, K.2.1, va_up K.2.2.1 57 f, K.2.2.2) rf := chl_up (i := 49) (Nat.le_of_ble_eq_true rfl) (by decide)
theorem cw_58 {f : Nat → Int32} : am_up (ch g T0 u0 T1 u1 K rf) 58 (.inl (6, stf f)) = ch g T0 u0 T1 u1 (K.1, K.2.1, va_up K.2.2.1 58 f, K.2.2.2) rf := chl_up (i := 50) (Nat.le_of_ble_eq_true rfl) (by decide)
theorem cw_59 {f : Nat → Int32} : am_up (ch g T0 u0 T1 u1 K rf) 59 (.inl (6, stf f)) = ch g T0 u0 T1 u1 (K.1, K.2.1, va_up K.2.2.1 59 f, K.2.2.2) rf := chl_up (i := 51) (Nat.le_of_ble_eq_true rfl) (by decide)
theorem cw_60 {f : Nat → Int32} : am_up (ch g T0 u0 T1 u1 K rf) 60 (.inl (6, stf f)) = ch g T0 u0 T1 u1 (K.1, K.2.1, va_up K.2.2.1 60 f, K.2.2.2) rf := chl_up (i := 52) (Nat.le_of_ble_eq_true rfl) (by decide)
theorem cw_61 {f : Nat → Int32} : am_up (ch g T0 u0 T1 u1 K rf) 61 (.inl (6, stf f)) = ch g T0 u0 T1 u1 (K.1, K.2.1, va_up K.2.2.1 61 f, K.2.2.2) rf := chl_up (i := 53) (Nat.le_of_ble_eq_true rfl) (by decide)
theorem cw_62 {f : Nat → Int32} : am_up (ch g T0 u0 T1 u1 K rf) 62 (.inl (6, stf f)) = ch g T0 u0 T1 u1 (K.1, K.2.1, va_up K.2.2.1 62 f, K.2.2.2) rf := chl_up (i := 54) (Nat.le_of_ble_eq_true rfl) (by decide)
theorem cw_63 {f : Nat → Int32} : am_up (ch g T0 u0 T1 u1 K rf) 63 (.inl (6, stf f)) = ch g T0 u0 T1 u1 (K.1, K.2.1, va_up K.2.2.1 63 f, K.2.2.2) rf := chl_up (i := 55) (Nat.le_of_ble_eq_true rfl) (by decide)
theorem cw_64 {f : Nat → Int32} : am_up (ch g T0 u0 T1 u1 K rf) 64 (.inl (6, stf f)) = ch g T0 u0 T1 u1 (K.1, K.2.1, va_up K.2.2.1 64 f, K.2.2.2) rf := chl_up (i := 56) (Nat.le_of_ble_eq_true rfl) (by decide)
theorem cw_65 {f : Nat → Int32} : am_up (ch g T0 u0 T1 u1 K rf) 65 (.inl (6, stf f)) = ch g T0 u0 T1 u1 (K.1, K.2.1, va_up K.2.2.1 65 f, K.2.2.2) rf := chl_up (i := 57) (Nat.le_of_ble_eq_true rfl) (by decide)
theorem cw_66 {f : Nat → Int32} : am_up (ch g T0 u0 T1 u1 K rf) 66 (.inl (6, stf f)) = ch g T0 u0 T1 u1 (K.1, K.2.1, va_up K.2.2.1 66 f, K.2.2.2) rf := chl_up (i := 58) (Nat.le_of_ble_eq_true rfl) (by decide)
theorem cw_67 {f : Nat → Int32} : am_up (ch g T0 u0 T1 u1 K rf) 67 (.inl (6, stf f)) = ch g T0 u0 T1 u1 (K.1, K.2.1, va_up K.2.2.1 67 f, K.2.2.2) rf := chl_up (i := 59) (Nat.le_of_ble_eq_true rfl) (by decide)
theorem cw_68 {f : Nat → Int32} : am_up (ch g T0 u0 T1 u1 K rf) 68 (.inl (6, stf f)) = ch g T0 u0 T1 u1 (K.1, K.2.1, va_up K.2.2.1 68 f, K.2.2.2) rf := chl_up (i := 60) (Nat.le_of_ble_eq_true rfl) (by decide)
theorem cw_69 {f : Nat → Int32} : am_up (ch g T0 u0 T1 u1 K rf) 69 (.inl (6, stf f)) = ch g T0 u0 T1 u1 (K.1, K.2.1, va_up K.2.2.1 69 f, K.2.2.2) rf := chl_up (i := 61) (Nat.le_of_ble_eq_true rfl) (by decide)
theorem cw_70 {f : Nat → Int32} : am_up (ch g T0 u0 T1 u1 K rf) 70 (.inl (6, stf f)) = ch g T0 u0 T1 u1 (K.1, K.2.1, va_up K.2.2.1 70 f, K.2.2.2) rf := chl_up (i := 62) (Nat.le_of_ble_eq_true rfl) (by decide)
theorem cw_71 {f : Nat → Int32} : am_up (ch g T0 u0 T1 u1 K rf) 71 (.inl (6, stf f)) = ch g T0 u0 T1 u1 (K.1, K.2.1, va_up K.2.2.1 71 f, K.2.2.2) rf := chl_up (i := 63) (Nat.le_of_ble_eq_true rfl) (by decide)
theorem cw_72 {f : Nat → Int32} : am_up (ch g T0 u0 T1 u1 K rf) 72 (.inl (6, stf f)) = ch g T0 u0 T1 u1 (K.1, K.2.1, va_up K.2.2.1 72 f, K.2.2.2) rf := chl_up (i := 64) (Nat.le_of_ble_eq_true rfl) (by decide)
theorem cw_73 {f : Nat → Int32} : am_up (ch g T0 u0 T1 u1 K rf) 73 (.inl (6, stf f)) = ch g T0 u0 T1 u1 (K.1, K.2.1, va_up K.2.2.1 73 f, K.2.2.2) rf := chl_up (i := 65) (Nat.le_of_ble_eq_true rfl) (by decide)
theorem cw_74 {f : Nat → Int32} : am_up (ch g T0 u0 T1 u1 K rf) 74 (.inl (6, stf f)) = ch g T0 u0 T1 u1 (K.1, K.2.1, va_up K.2.2.1 74 f, K.2.2.2) rf := chl_up (i := 66) (Nat.le_of_ble_eq_true rfl) (by decide)
theorem cw_75 {f : Nat → Int32} : am_up (ch g T0 u0 T1 u1 K rf) 75 (.inl (6, stf f)) = ch g T0 u0 T1 u1 (K.1, K.2.1, va_up K.2.2.1 75 f, K.2.2.2) rf := chl_up (i := 67) (Nat.le_of_ble_eq_true rfl) (by decide)
theorem cw_76 {f : Nat → Int32} : am_up (ch g T0 u0 T1 u1 K rf) 76 (.inl (6, stf f)) = ch g T0 u0 T1 u1 (K.1, K.2.1, va_up K.2.2.1 76 f, K.2.2.2) rf := chl_up (i := 68) (Nat.le_of_ble_eq_true rfl) (by decide)
theorem cw_77 {f : Nat → Int32} : am_up (ch g T0 u0 T1 u1 K rf) 77 (.inl (6, stf f)) = ch g T0 u0 T1 u1 (K.1, K.2.1, va_up K.2.2.1 77 f, K.2.2.2) rf := chl_up (i := 69) (Nat.le_of_ble_eq_true rfl) (by decide)
theorem cw_78 {f : Nat → Int32} : am_up (ch g T0 u0 T1 u1 K rf) 78 (.inl (6, stf f)) = ch g T0 u0 T1 u1 (K.1, K.2.1, va_up K.2.2.1 78 f, K.2.2.2) rf := chl_up (i := 70) (Nat.le_of_ble_eq_true rfl) (by decide)
theorem cw_79 {f : Nat → Int32} : am_up (ch g T0 u0 T1 u1 K rf) 79 (.inl (6, stf f)) = ch g T0 u0 T1 u1 (K.1, K.2.1, va_up K.2.2.1 79 f, K.2.2.2) rf := chl_up (i := 71) (Nat.le_of_ble_eq_true rfl) (by decide)
theorem cw_80 {f : Nat → Int32} : am_up (ch g T0 u0 T1 u1 K rf) 80 (.inl (6, stf f)) = ch g T0 u0 T1 u1 (K.1, K.2.1, va_up K.2.2.1 80 f, K.2.2.2) rf := chl_up (i := 72) (Nat.le_of_ble_eq_true rfl) (by decide)
theorem cw_81 {f : Nat → Int32} : am_up (ch g T0 u0 T1 u1 K rf) 81 (.inl (6, stf f)) = ch g T0 u0 T1 u1 (K.1, K.2.1, va_up K.2.2.1 81 f, K.2.2.2) rf := chl_up (i := 73) (Nat.le_of_ble_eq_true rfl) (by decide)
theorem cw_82 {f : Nat → Int32} : am_up (ch g T0 u0 T1 u1 K rf) 82 (.inl (6, stf f)) = ch g T0 u0 T1 u1 (K.1, K.2.1, va_up K.2.2.1 82 f, K.2.2.2) rf := chl_up (i := 74) (Nat.le_of_ble_eq_true rfl) (by decide)
theorem cw_83 {f : Nat → Int32} : am_up (ch g T0 u0 T1 u1 K rf) 83 (.inl (6, stf f)) = ch g T0 u0 T1 u1 (K.1, K.2.1, va_up K.2.2.1 83 f, K.2.2.2) rf := chl_up (i := 75) (Nat.le_of_ble_eq_true rfl) (by decide)
theorem cw_84 {f : Nat → Int32} : am_up (ch g T0 u0 T1 u1 K rf) 84 (.inl (6, stf f)) = ch g T0 u0 T1 u1 (K.1, K.2.1, va_up K.2.2.1 84 f, K.2.2.2) rf := chl_up (i := 76) (Nat.le_of_ble_eq_true rfl) (by decide)
theorem cw_85 {f : Nat → Int32} : am_up (ch g T0 u0 T1 u1 K rf) 85 (.inl (6, stf f)) = ch g T0 u0 T1 u1 (K.1, K.2.1, va_up K.2.2.1 85 f, K.2.2.2) rf := chl_up (i := 77) (Nat.le_of_ble_eq_true rfl) (by decide)
theorem cw_86 {f : Nat → Int32} : am_up (ch g T0 u0 T1 u1 K rf) 86 (.inl (6, stf f)) = ch g T0 u0 T1 u1 (K.1, K.2.1, va_up K.2.2.1 86 f, K.2.2.2) rf := chl_up (i := 78) (Nat.le_of_ble_eq_true rfl) (by decide)
theorem cw_87 {f : Nat → Int32} : am_up (ch g T0 u0 T1 u1 K rf) 87 (.inl (6, stf f)) = ch g T0 u0 T1 u1 (K.1, K.2.1, va_up K.2.2.1 87 f, K.2.2.2) rf := chl_up (i := 79) (Nat.le_of_ble_eq_true rfl) (by decide)
theorem cw_88 {f : Nat → Int32} : am_up (ch g T0 u0 T1 u1 K rf) 88 (.inl (6, stf f)) = ch g T0 u0 T1 u1 (K.1, K.2.1, va_up K.2.2.1 88 f, K.2.2.2) rf := chl_up (i := 80) (Nat.le_of_ble_eq_true rfl) (by decide)
theorem cw_89 {f : Nat → Int32} : am_up (ch g T0 u0 T1 u1 K rf) 89 (.inl (6, stf f)) = ch g T0 u0 T1 u1 (K.1, K.2.1, va_up K.2.2.1 89 f, K.2.2.2) rf := chl_up (i := 81) (Nat.le_of_ble_eq_true rfl) (by decide)
theorem cw_90 {f : Nat → Int32} : am_up (ch g T0 u0 T1 u1 K rf) 90 (.inl (6, stf f)) = ch g T0 u0 T1 u1 (K.1, K.2.1, va_up K.2.2.1 90 f, K.2.2.2) rf := chl_up (i := 82) (Nat.le_of_ble_eq_true rfl) (by decide)
theorem cw_91 {f : Nat → Int32} : am_up (ch g T0 u0 T1 u1 K rf) 91 (.inl (6, stf f)) = ch g T0 u0 T1 u1 (K.1, K.2.1, va_up K.2.2.1 91 f, K.2.2.2) rf := chl_up (i := 83) (Nat.le_of_ble_eq_true rfl) (by decide)
theorem cw_92 {f : Nat → Int32} : am_up (ch g T0 u0 T1 u1 K rf) 92 (.inl (6, stf f)) = ch g T0 u0 T1 u1 (K.1, K.2.1, va_up K.2.2.1 92 f, K.2.2.2) rf := chl_up (i := 84) (Nat.le_of_ble_eq_true rfl) (by decide)
theorem cw_93 {f : Nat → Int32} : am_up (ch g T0 u0 T1 u1 K rf) 93 (.inl (6, stf f)) = ch g T0 u0 T1 u1 (K.1, K.2.1, va_up K.2.2.1 93 f, K.2.2.2) rf := chl_up (i := 85) (Nat.le_of_ble_eq_true rfl) (by decide)
theorem cw_94 {f : Nat → Int32} : am_up (ch g T0 u0 T1 u1 K rf) 94 (.inl (6, stf f)) = ch g T0 u0 T1 u1 (K.1, K.2.1, va_up K.2.2.1 94 f, K.2.2.2) rf := chl_up (i := 86) (Nat.le_of_ble_eq_true rfl) (by decide)
theorem cw_95 {f : Nat → Int32} : am_up (ch g T0 u0 T1 u1 K rf) 95 (.inl (6, stf f)) = ch g T0 u0 T1 u1 (K.1, K.2.1, va_up K.2.2.1 95 f, K.2.2.2) rf := chl_up (i := 87) (Nat.le_of_ble_eq_true rfl) (by decide)
theorem cw_96 {f : Nat → Int32} : am_up (ch g T0 u0 T1 u1 K rf) 96 (.inl (6, stf f)) = ch g T0 u0 T1 u1 (K.1, K.2.1, va_up K.2.2.1 96 f, K.2.2.2) rf := chl_up (i := 88) (Nat.le_of_ble_eq_true rfl) (by decide)
theorem cw_97 {f : Nat → Int32} : am_up (ch g T0 u0 T1 u1 K rf) 97 (.inl (6, stf f)) = ch g T0 u0 T1 u1 (K.1, K.2.1, va_up K.2.2.1 97 f, K.2.2.2) rf := chl_up (i := 89) (Nat.le_of_ble_eq_true rfl) (by decide)
theorem cw_98 {f : Nat → Int32} : am_up (ch g T0 u0 T1 u1 K rf) 98 (.inl (6, stf f)) = ch g T0 u0 T1 u1 (K.1, K.2.1, va_up K.2.2.1 98 f, K.2.2.2) rf := chl_up (i := 90) (Nat.le_of_ble_eq_true rfl) (by decide)
theorem cw_118 {f : Nat → Int32} : am_up (ch g T0 u0 T1 u1 K rf) 118 (.inl (6, stf f)) = ch g T0 u0 T1 u1 (K.1, K.2.1, va_up K.2.2.1 118 f, K.2.2.2) rf := chl_up (i := 110) (Nat.le_of_ble_eq_true rfl) (by decide)
theorem cw_119 {f : Nat → Int32} : am_up (ch g T0 u0 T1 u1 K rf) 119 (.inl (6, stf f)) = ch g T0 u0 T1 u1 (K.1, K.2.1, va_up K.2.2.1 119 f, K.2.2.2) rf := chl_up (i := 111) (Nat.le_of_ble_eq_true rfl) (by decide)
theorem cw_120 {f : Nat → Int32} : am_up (ch g T0 u0 T1 u1 K rf) 120 (.inl (6, stf f)) = ch g T0 u0 T1 u1 (K.1, K.2.1, va_up K.2.2.1 120 f, K.2.2.2) rf := chl_up (i := 112) (Nat.le_of_ble_eq_true rfl) (by decide)
theorem cg_ring : ∀ i, i < 50 → (ch g T0 u0 T1 u1 K rf).2.2 (49 + i) = .inl (6, stf (K.2.2.1 (49 + i)))
  | 0, _ => rfl
  | 1, _ => rfl
  | 2, _ => rfl
  | 3, _ => rfl
  | 4, _ => rfl
  | 5, _ => rfl
  | 6, _ => rfl
  | 7, _ => rfl
  | 8, _ => rfl
  | 9, _ => rfl
  | 10, _ => rfl
  | 11, _ => rfl
  | 12, _ => rfl
  | 13, _ => rfl
  | 14, _ => rfl
  | 15, _ => rfl
  | 16, _ => rfl
  | 17, _ => rfl
  | 18, _ => rfl
  | 19, _ => rfl
  | 20, _ => rfl
  | 21, _ => rfl
  | 22, _ => rfl
  | 23, _ => rfl
  | 24, _ => rfl
  | 25, _ => rfl
  | 26, _ => rfl
  | 27, _ => rfl
  | 28, _ => rfl
  | 29, _ => rfl
  | 30, _ => rfl
  | 31, _ => rfl
  | 32, _ => rfl
  | 33, _ => rfl
  | 34, _ => rfl
  | 35, _ => rfl
  | 36, _ => rfl
  | 37, _ => rfl
  | 38, _ => rfl
  | 39, _ => rfl
  | 40, _ => rfl
  | 41, _ => rfl
  | 42, _ => rfl
  | 43, _ => rfl
  | 44, _ => rfl
  | 45, _ => rfl
  | 46, _ => rfl
  | 47, _ => rfl
  | 48, _ => rfl
  | 49, _ => rfl
  | n + 50, h => absurd h (by omega)
theorem cw_ring {f : Nat → Int32} : ∀ i, i < 50 → am_up (ch g T0 u0 T1 u1 K rf) (49 + i) (.inl (6, stf f)) = ch g T0 u0 T1 u1 (K.1, K.2.1, va_up K.2.2.1 (49 + i) f, K.2.2.2) rf
  | 0, _ => cw_49
  | 1, _ => cw_50
  | 2, _ => cw_51
  | 3, _ => cw_52
  | 4, _ => cw_53
  | 5, _ => cw_54
  | 6, _ => cw_55
  | 7, _ => cw_56
  | 8, _ => cw_57
  | 9, _ => cw_58
  | 10, _ => cw_59
  | 11, _ => cw_60
  | 12, _ => cw_61
  | 13, _ => cw_62
  | 14, _ => cw_63
  | 15, _ => cw_64
  | 16, _ => cw_65
  | 17, _ => cw_66
  | 18, _ => cw_67
  | 19, _ => cw_68
  | 20, _ => cw_69
  | 21, _ => cw_70
  | 22, _ => cw_71
  | 23, _ => cw_72
  | 24, _ => cw_73
  | 25, _ => cw_74
  | 26, _ => cw_75
  | 27, _ => cw_76
  | 28, _ => cw_77
  | 29, _ => cw_78
  | 30, _ => cw_79
  | 31, _ => cw_80
  | 32, _ => cw_81
  | 33, _ => cw_82
  | 34, _ => cw_83
  | 35, _ => cw_84
  | 36, _ => cw_85
  | 37, _ => cw_86
  | 38, _ => cw_87
  | 39, _ => cw_88
  | 40, _ => cw_89
  | 41, _ => cw_90
  | 42, _ => cw_91
  | 43, _ => cw_92
  | 44, _ => cw_93
  | 45, _ => cw_94
  | 46, _ => cw_95
  | 47, _ => cw_96
  | 48, _ => cw_97
  | 49, _ => cw_98
  | n + 50, h => absurd h (by omega)
theorem cg_slot : ∀ i, i < 3 → (ch g T0 u0 T1 u1 K rf).2.2 (118 + i) = .inl (6, stf (K.2.2.1 (118 + i)))
  | 0, _ => rfl
  | 1, _ => rfl
  | 2, _ => rfl
  | n + 3, h => absurd h (by omega)
theorem cw_slot {f : Nat → Int32} : ∀ i, i < 3 → am_up (ch g T0 u0 T1 u1 K rf) (118 + i) (.inl (6, stf f)) = ch g T0 u0 T1 u1 (K.1, K.2.1, va_up K.2.2.1 (118 + i) f, K.2.2.2) rf
  | 0, _ => cw_118
  | 1, _ => cw_119
  | 2, _ => cw_120
  | n + 3, h => absurd h (by omega)
theorem stf_up {f : Nat → Int32} {x : Int32} : ∀ j, j < 8 → List.set (stf f) j (.int x) = stf (va_up f j x)
  | 0, _ => rfl
  | 1, _ => rfl
  | 2, _ => rfl
  | 3, _ => rfl
  | 4, _ => rfl
  | 5, _ => rfl
  | 6, _ => rfl
  | 7, _ => rfl
  | n + 8, h => absurd h (by omega)
theorem cu_21 {f : Nat → Int32} : am_up (ch g T0 u0 T1 u1 K rf) 21 (.inr (0, 7, .inl f)) = ch g T0 (u0.1, u0.2.1, f, u0.2.2.2) T1 u1 K rf := chl_up (i := 13) (Nat.le_of_ble_eq_true rfl) (by decide)
theorem cu_22 {f : Nat → Int32} : am_up (ch g T0 u0 T1 u1 K rf) 22 (.inr (0, 32, .inl f)) = ch g T0 (u0.1, u0.2.1, u0.2.2.1, f) T1 u1 K rf := chl_up (i := 14) (Nat.le_of_ble_eq_true rfl) (by decide)
theorem sa_10 : SA (ch g T0 u0 T1 u1 K rf) 10 T0 := ⟨rfl, rfl, rfl, rfl, rfl, rfl, rfl, ⟨u0.1, rfl⟩, rfl, rfl, rfl, rfl⟩
theorem sx_10 : SX (ch g T0 u0 T1 u1 K rf) 10 := ⟨⟨_, rfl⟩, ⟨_, rfl⟩⟩
theorem cu_36 {f : Nat → Int32} : am_up (ch g T0 u0 T1 u1 K rf) 36 (.inr (0, 7, .inl f)) = ch g T0 u0 T1 (u1.1, u1.2.1, f, u1.2.2.2) K rf := chl_up (i := 28) (Nat.le_of_ble_eq_true rfl) (by decide)
theorem cu_37 {f : Nat → Int32} : am_up (ch g T0 u0 T1 u1 K rf) 37 (.inr (0, 32, .inl f)) = ch g T0 u0 T1 (u1.1, u1.2.1, u1.2.2.1, f) K rf := chl_up (i := 29) (Nat.le_of_ble_eq_true rfl) (by decide)
theorem sa_25 : SA (ch g T0 u0 T1 u1 K rf) 25 T1 := ⟨rfl, rfl, rfl, rfl, rfl, rfl, rfl, ⟨u1.1, rfl⟩, rfl, rfl, rfl, rfl⟩
theorem sx_25 : SX (ch g T0 u0 T1 u1 K rf) 25 := ⟨⟨_, rfl⟩, ⟨_, rfl⟩⟩
/-- the street p is T -/
def SP2 (p : Nat) (T T0 T1 : Sd) : Prop := (p = 10 ∧ T0 = T) ∨ (p = 25 ∧ T1 = T)
theorem sa {p : Nat} {T : Sd} (hp : SP2 p T T0 T1) : SA (ch g T0 u0 T1 u1 K rf) p T := by
  rcases hp with ⟨rfl, rfl⟩ | ⟨rfl, rfl⟩
  · exact sa_10
  · exact sa_25
theorem sx_c {p : Nat} {T : Sd} (hp : SP2 p T T0 T1) : SX (ch g T0 u0 T1 u1 K rf) p := by
  rcases hp with ⟨rfl, _⟩ | ⟨rfl, _⟩
  · exact sx_10
  · exact sx_25
theorem fx_c {p : Nat} {T : Sd} {h1 : am_H} (hp : SP2 p T T0 T1) (hx : FX p (ch g T0 u0 T1 u1 K rf) h1) : ∃ u0 u1, h1 = (ch g T0 u0 T1 u1 K rf) := by
  obtain ⟨f, sk, rfl⟩ := hx
  rcases hp with ⟨rfl, _⟩ | ⟨rfl, _⟩
  · exact ⟨_, _, by rw [show 10 + 11 = 21 from rfl, show 10 + 12 = 22 from rfl]; unfold am_ints; rw [cu_21, cu_22]⟩
  · exact ⟨_, _, by rw [show 25 + 11 = 36 from rfl, show 25 + 12 = 37 from rfl]; unfold am_ints; rw [cu_36, cu_37]⟩
theorem p_8 {p : Nat} {T : Sd} (hp : SP2 p T T0 T1) : 8 ≤ p := by rcases hp with ⟨rfl, _⟩ | ⟨rfl, _⟩ <;> decide
/-- rows of the table lie outside -/
theorem cw_row {q : Nat} {c : am_C} (hq : q = 103 ∨ 121 ≤ q) : am_up (ch g T0 u0 T1 u1 K rf) q c = ch (am_up g q c) T0 u0 T1 u1 K rf := by
  rcases hq with rfl | hq
  · exact chl_up (i := 95) (Nat.le_of_ble_eq_true rfl) (by decide) |>.trans (by
      unfold ch chl am_up
      refine congrArg (fun z => (g.1, g.2.1, z)) (funext fun n => ?_)
      dsimp only
      by_cases h1 : n < 8
      · rw [if_pos h1, if_pos h1, vu_ot (by omega)]
      · rw [if_neg h1, if_neg h1]
        by_cases h2 : n < 121
        · rw [if_pos h2, if_pos h2]; rfl
        · rw [if_neg h2, if_neg h2, vu_ot (by omega)])
  · unfold ch chl am_up
    refine congrArg (fun z => (g.1, g.2.1, z)) (funext fun n => ?_)
    dsimp only
    by_cases e : n = q
    · subst e; rw [vu_at, if_neg (by omega), if_neg (by omega), vu_at]
    · rw [vu_ot e, vu_ot e]
      have e3 : cl (g.1, g.2.1, va_up g.2.2 q c) T0 u0 T1 u1 K rf = cl g T0 u0 T1 u1 K rf := by
        unfold cl
        rw [show (g.1, g.2.1, va_up g.2.2 q c).2.2 103 = g.2.2 103 from vu_ot (by omega)]
      rw [e3]
theorem cn_row {n : Nat} {c : am_C} (hg : 121 ≤ g.1) : am_nw (ch g T0 u0 T1 u1 K rf) n c = ch (am_nw g n c) T0 u0 T1 u1 K rf := by
  have h := cw_row (g := g) (T0 := T0) (u0 := u0) (T1 := T1) (u1 := u1) (K := K) (rf := rf) (q := g.1) (c := c) (Or.inr hg)
  unfold am_up at h
  unfold am_nw
  have h2 := congrArg (fun z : am_H => z.2.2) h
  exact congrArg (fun z => (g.1 + 1, g.2.1 + n, z)) h2
theorem cg_row {q : Nat} (hq : q = 103 ∨ 121 ≤ q) : (ch g T0 u0 T1 u1 K rf).2.2 q = g.2.2 q := by
  rcases hq with rfl | hq
  · rfl
  · unfold ch chl
    dsimp only
    rw [if_neg (by omega), if_neg (by omega)]
theorem cg_low {q : Nat} (hq : q < 8) : (ch g T0 u0 T1 u1 K rf).2.2 q = g.2.2 q := by
  unfold ch chl
  dsimp only
  rw [if_pos hq]
end CH
