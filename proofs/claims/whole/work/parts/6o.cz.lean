/-! ===== the class while it reads: the street that is read into (T, u; at zq z), the other one (X) ===== -/
def zq (z : Bool) : Nat := bif z then 10 else 25
def cz (z : Bool) (g : am_H) (T : Sd) (u : Ua) (X : Sd × Ua) (K : Ck) (rf : Nat → Nat) : am_H := bif z then ch g T u X.1 X.2 K rf else ch g X.1 X.2 T u K rf
theorem zq_8 {z : Bool} {i : Nat} : 8 ≤ zq z + i := by cases z <;> simp [zq] <;> omega
theorem zq_88 {z : Bool} : 8 ≤ zq z := by cases z <;> decide
section CZ
variable {z : Bool} {g : am_H} {T : Sd} {u : Ua} {X : Sd × Ua} {K : Ck} {rf : Nat → Nat}
theorem zg_8 : (cz z g T u X K rf).2.2 8 = .inl (10, [.ref 9, .int (K.1 0), .int (K.1 1), .ref (rf 0), .ref (rf 1), .ref 40, .ref 46, .ref 47, .ref 99, .ref 100, .ref 105, .ref 108, .ref 113]) := by cases z <;> rfl
theorem zg_9 : (cz z g T u X K rf).2.2 9 = .inr (1, 2000, .inl (K.2.1 9)) := by cases z <;> rfl
theorem zg_40 : (cz z g T u X K rf).2.2 40 = .inl (4, [.ref 42, .ref (rf 2), .int (K.1 2), .int (K.1 3), .int (K.1 4), .int (K.1 5), .int (K.1 6), .ref 41, .int (K.1 8), .int (K.1 9), .int (K.1 10), .int (K.1 11)]) := by cases z <;> rfl
theorem zg_41 : (cz z g T u X K rf).2.2 41 = .inr (3, 4, .inr (.inl K.2.2.2.1)) := by cases z <;> rfl
theorem zg_42 : (cz z g T u X K rf).2.2 42 = .inl (9, [.ref 43, .ref 44, .ref 45, .ref 9, .int (K.1 12), .int (K.1 13), .int (K.1 14), .int (K.1 15)]) := by cases z <;> rfl
theorem zg_43 : (cz z g T u X K rf).2.2 43 = .inr (0, 401, .inl (K.2.1 43)) := by cases z <;> rfl
theorem zg_44 : (cz z g T u X K rf).2.2 44 = .inr (0, 401, .inl (K.2.1 44)) := by cases z <;> rfl
theorem zg_45 : (cz z g T u X K rf).2.2 45 = .inr (0, 401, .inl (K.2.1 45)) := by cases z <;> rfl
theorem zg_46 : (cz z g T u X K rf).2.2 46 = .inl (6, stf (K.2.2.1 46)) := by cases z <;> rfl
theorem zg_47 : (cz z g T u X K rf).2.2 47 = .inl (2, [.ref 48, .int (K.1 16), .int (K.1 17)]) := by cases z <;> rfl
theorem zg_48 : (cz z g T u X K rf).2.2 48 = .inr (4, 50, .inr (.inr n_ring)) := by cases z <;> rfl
theorem zg_49 : (cz z g T u X K rf).2.2 49 = .inl (6, stf (K.2.2.1 49)) := by cases z <;> rfl
theorem zg_50 : (cz z g T u X K rf).2.2 50 = .inl (6, stf (K.2.2.1 50)) := by cases z <;> rfl
theorem zg_51 : (cz z g T u X K rf).2.2 51 = .inl (6, stf (K.2.2.1 51)) := by cases z <;> rfl
theorem zg_52 : (cz z g T u X K rf).2.2 52 = .inl (6, stf (K.2.2.1 52)) := by cases z <;> rfl
theorem zg_53 : (cz z g T u X K rf).2.2 53 = .inl (6, stf (K.2.2.1 53)) := by cases z <;> rfl
theorem zg_54 : (cz z g T u X K rf).2.2 54 = .inl (6, stf (K.2.2.1 54)) := by cases z <;> rfl
theorem zg_55 : (cz z g T u X K rf).2.2 55 = .inl (6, stf (K.2.2.1 55)) := by cases z <;> rfl
theorem zg_56 : (cz z g T u X K rf).2.2 56 = .inl (6, stf (K.2.2.1 56)) := by cases z <;> rfl
theorem zg_57 : (cz z g T u X K rf).2.2 57 = .inl (6, stf (K.2.2.1 57)) := by cases z <;> rfl
theorem zg_58 : (cz z g T u X K rf).2.2 58 = .inl (6, stf (K.2.2.1 58)) := by cases z <;> rfl
theorem zg_59 : (cz z g T u X K rf).2.2 59 = .inl (6, stf (K.2.2.1 59)) := by cases z <;> rfl
theorem zg_60 : (cz z g T u X K rf).2.2 60 = .inl (6, stf (K.2.2.1 60)) := by cases z <;> rfl
theorem zg_61 : (cz z g T u X K rf).2.2 61 = .inl (6, stf (K.2.2.1 61)) := by cases z <;> rfl
theorem zg_62 : (cz z g T u X K rf).2.2 62 = .inl (6, stf (K.2.2.1 62)) := by cases z <;> rfl
theorem zg_63 : (cz z g T u X K rf).2.2 63 = .inl (6, stf (K.2.2.1 63)) := by cases z <;> rfl
theorem zg_64 : (cz z g T u X K rf).2.2 64 = .inl (6, stf (K.2.2.1 64)) := by cases z <;> rfl
theorem zg_65 : (cz z g T u X K rf).2.2 65 = .inl (6, stf (K.2.2.1 65)) := by cases z <;> rfl
theorem zg_66 : (cz z g T u X K rf).2.2 66 = .inl (6, stf (K.2.2.1 66)) := by cases z <;> rfl
theorem zg_67 : (cz z g T u X K rf).2.2 67 = .inl (6, stf (K.2.2.1 67)) := by cases z <;> rfl
theorem zg_68 : (cz z g T u X K rf).2.2 68 = .inl (6, stf (K.2.2.1 68)) := by cases z <;> rfl
theorem zg_69 : (cz z g T u X K rf).2.2 69 = .inl (6, stf (K.2.2.1 69)) := by cases z <;> rfl
theorem zg_70 : (cz z g T u X K rf).2.2 70 = .inl (6, stf (K.2.2.1 70)) := by cases z <;> rfl
theorem zg_71 : (cz z g T u X K rf).2.2 71 = .inl (6, stf (K.2.2.1 71)) := by cases z <;> rfl
theorem zg_72 : (cz z g T u X K rf).2.2 72 = .inl (6, stf (K.2.2.1 72)) := by cases z <;> rfl
theorem zg_73 : (cz z g T u X K rf).2.2 73 = .inl (6, stf (K.2.2.1 73)) := by cases z <;> rfl
theorem zg_74 : (cz z g T u X K rf).2.2 74 = .inl (6, stf (K.2.2.1 74)) := by cases z <;> rfl
theorem zg_75 : (cz z g T u X K rf).2.2 75 = .inl (6, stf (K.2.2.1 75)) := by cases z <;> rfl
theorem zg_76 : (cz z g T u X K rf).2.2 76 = .inl (6, stf (K.2.2.1 76)) := by cases z <;> rfl
theorem zg_77 : (cz z g T u X K rf).2.2 77 = .inl (6, stf (K.2.2.1 77)) := by cases z <;> rfl
theorem zg_78 : (cz z g T u X K rf).2.2 78 = .inl (6, stf (K.2.2.1 78)) := by cases z <;> rfl
theorem zg_79 : (cz z g T u X K rf).2.2 79 = .inl (6, stf (K.2.2.1 79)) := by cases z <;> rfl
theorem zg_80 : (cz z g T u X K rf).2.2 80 = .inl (6, stf (K.2.2.1 80)) := by cases z <;> rfl
theorem zg_81 : (cz z g T u X K rf).2.2 81 = .inl (6, stf (K.2.2.1 81)) := by cases z <;> rfl
theorem zg_82 : (cz z g T u X K rf).2.2 82 = .inl (6, stf (K.2.2.1 82)) := by cases z <;> rfl
theorem zg_83 : (cz z g T u X K rf).2.2 83 = .inl (6, stf (K.2.2.1 83)) := by cases z <;> rfl
theorem zg_84 : (cz z g T u X K rf).2.2 84 = .inl (6, stf (K.2.2.1 84)) := by cases z <;> rfl
theorem zg_85 : (cz z g T u X K rf).2.2 85 = .inl (6, stf (K.2.2.1 85)) := by cases z <;> rfl
theorem zg_86 : (cz z g T u X K rf).2.2 86 = .inl (6, stf (K.2.2.1 86)) := by cases z <;> rfl
theorem zg_87 : (cz z g T u X K rf).2.2 87 = .inl (6, stf (K.2.2.1 87)) := by cases z <;> rfl
theorem zg_88 : (cz z g T u X K rf).2.2 88 = .inl (6, stf (K.2.2.1 88)) := by cases z <;> rfl
theorem zg_89 : (cz z g T u X K rf).2.2 89 = .inl (6, stf (K.2.2.1 89)) := by cases z <;> rfl
theorem zg_90 : (cz z g T u X K rf).2.2 90 = .inl (6, stf (K.2.2.1 90)) := by cases z <;> rfl
theorem zg_91 : (cz z g T u X K rf).2.2 91 = .inl (6, stf (K.2.2.1 91)) := by cases z <;> rfl
theorem zg_92 : (cz z g T u X K rf).2.2 92 = .inl (6, stf (K.2.2.1 92)) := by cases z <;> rfl
theorem zg_93 : (cz z g T u X K rf).2.2 93 = .inl (6, stf (K.2.2.1 93)) := by cases z <;> rfl
theorem zg_94 : (cz z g T u X K rf).2.2 94 = .inl (6, stf (K.2.2.1 94)) := by cases z <;> rfl
theorem zg_95 : (cz z g T u X K rf).2.2 95 = .inl (6, stf (K.2.2.1 95)) := by cases z <;> rfl
theorem zg_96 : (cz z g T u X K rf).2.2 96 = .inl (6, stf (K.2.2.1 96)) := by cases z <;> rfl
theorem zg_97 : (cz z g T u X K rf).2.2 97 = .inl (6, stf (K.2.2.1 97)) := by cases z <;> rfl
theorem zg_98 : (cz z g T u X K rf).2.2 98 = .inl (6, stf (K.2.2.1 98)) := by cases z <;> rfl
theorem zg_99 : (cz z g T u X K rf).2.2 99 = .inr (4, 3, .inr (.inr n_slots)) := by cases z <;> rfl
theorem zg_100 : (cz z g T u X K rf).2.2 100 = .inl (8, [.ref (rf 3), .ref 101, .ref 102, .ref (rf 8), .ref 104, .int (K.1 18), .int (K.1 19)]) := by cases z <;> rfl
theorem zg_101 : (cz z g T u X K rf).2.2 101 = .inr (5, 16, .inr (.inr K.2.2.2.2)) := by cases z <;> rfl
theorem zg_102 : (cz z g T u X K rf).2.2 102 = .inr (0, 16, .inl (K.2.1 102)) := by cases z <;> rfl
theorem zg_104 : (cz z g T u X K rf).2.2 104 = .inr (0, 96, .inl (K.2.1 104)) := by cases z <;> rfl
theorem zg_105 : (cz z g T u X K rf).2.2 105 = .inl (0, [.ref 100, .ref (rf 4), .ref (rf 6), .ref (rf 7), .int (K.1 20), .int (K.1 21), .int (K.1 22), .int (K.1 23), .int (K.1 24)]) := by cases z <;> rfl
theorem zg_106 : (cz z g T u X K rf).2.2 106 = .inr (0, 384, .inl (K.2.1 106)) := by cases z <;> rfl
theorem zg_107 : (cz z g T u X K rf).2.2 107 = .inr (0, 384, .inl (K.2.1 107)) := by cases z <;> rfl
theorem zg_108 : (cz z g T u X K rf).2.2 108 = .inl (3, [.ref 100, .ref (rf 5), .ref 109, .ref 110, .ref 111, .ref 112]) := by cases z <;> rfl
theorem zg_109 : (cz z g T u X K rf).2.2 109 = .inr (0, 9312, .inl (K.2.1 109)) := by cases z <;> rfl
theorem zg_110 : (cz z g T u X K rf).2.2 110 = .inr (0, 97, .inl (K.2.1 110)) := by cases z <;> rfl
theorem zg_111 : (cz z g T u X K rf).2.2 111 = .inr (0, 96, .inl (K.2.1 111)) := by cases z <;> rfl
theorem zg_112 : (cz z g T u X K rf).2.2 112 = .inr (0, 96, .inl (K.2.1 112)) := by cases z <;> rfl
theorem zg_113 : (cz z g T u X K rf).2.2 113 = .inl (5, [.ref 114, .int (K.1 25), .ref 115, .int (K.1 26), .int (K.1 27), .ref 116, .ref 117]) := by cases z <;> rfl
theorem zg_114 : (cz z g T u X K rf).2.2 114 = .inr (0, 5, .inl (K.2.1 114)) := by cases z <;> rfl
theorem zg_115 : (cz z g T u X K rf).2.2 115 = .inr (0, 180, .inl (K.2.1 115)) := by cases z <;> rfl
theorem zg_116 : (cz z g T u X K rf).2.2 116 = .inr (0, 3, .inl (K.2.1 116)) := by cases z <;> rfl
theorem zg_117 : (cz z g T u X K rf).2.2 117 = .inr (0, 3, .inl (K.2.1 117)) := by cases z <;> rfl
theorem zg_118 : (cz z g T u X K rf).2.2 118 = .inl (6, stf (K.2.2.1 118)) := by cases z <;> rfl
theorem zg_119 : (cz z g T u X K rf).2.2 119 = .inl (6, stf (K.2.2.1 119)) := by cases z <;> rfl
theorem zg_120 : (cz z g T u X K rf).2.2 120 = .inl (6, stf (K.2.2.1 120)) := by cases z <;> rfl
theorem zs_0 : (cz z g T u X K rf).2.2 (zq z) = .inl (7, [.int (nI (T.1 0)), .int (nI (T.1 1)), .ref (zq z + 1), .int (nI (T.1 2)), .int (nI (T.1 3)), .ref (zq z + 2), .ref (zq z + 3), .ref (zq z + 4), .ref (zq z + 5), .ref (zq z + 6), .ref (zq z + 7), .ref (zq z + 13), .ref (zq z + 14), .int (nI (T.1 4)), .int (nI (T.1 5)), .int (nI (T.1 6))]) := by cases z <;> rfl
theorem zs_1 : (cz z g T u X K rf).2.2 (zq z + 1) = .inr (0, 32, .inl (T.2 0)) := by cases z <;> rfl
theorem zs_2 : (cz z g T u X K rf).2.2 (zq z + 2) = .inr (0, 4, .inl (T.2 1)) := by cases z <;> rfl
theorem zs_3 : (cz z g T u X K rf).2.2 (zq z + 3) = .inr (0, 25, .inl (T.2 2)) := by cases z <;> rfl
theorem zs_4 : (cz z g T u X K rf).2.2 (zq z + 4) = .inr (0, 25, .inl (T.2 3)) := by cases z <;> rfl
theorem zs_5 : (cz z g T u X K rf).2.2 (zq z + 5) = .inr (0, 25, .inl (T.2 4)) := by cases z <;> rfl
theorem zs_6 : (cz z g T u X K rf).2.2 (zq z + 6) = .inr (0, 25, .inl (T.2 5)) := by cases z <;> rfl
theorem zs_7 : (cz z g T u X K rf).2.2 (zq z + 7) = .inl (1, [.ref (zq z + 8), .int (nI (T.1 7)), .ref (zq z + 9), .int (nI (T.1 8)), .ref (zq z + 10), .int u.1, .ref (zq z + 11), .ref (zq z + 12)]) := by cases z <;> rfl
theorem zs_8 : (cz z g T u X K rf).2.2 (zq z + 8) = .inr (0, 400, .inl (T.2 8)) := by cases z <;> rfl
theorem zs_9 : (cz z g T u X K rf).2.2 (zq z + 9) = .inr (0, 3, .inl (T.2 9)) := by cases z <;> rfl
theorem zs_10 : (cz z g T u X K rf).2.2 (zq z + 10) = .inr (0, 32, .inl u.2.1) := by cases z <;> rfl
theorem zs_11 : (cz z g T u X K rf).2.2 (zq z + 11) = .inr (0, 7, .inl u.2.2.1) := by cases z <;> rfl
theorem zs_12 : (cz z g T u X K rf).2.2 (zq z + 12) = .inr (0, 32, .inl u.2.2.2) := by cases z <;> rfl
theorem zs_13 : (cz z g T u X K rf).2.2 (zq z + 13) = .inr (0, 3, .inl (T.2 6)) := by cases z <;> rfl
theorem zs_14 : (cz z g T u X K rf).2.2 (zq z + 14) = .inr (0, 3, .inl (T.2 7)) := by cases z <;> rfl
theorem zu_9 {f : Nat → Int32} : am_up (cz z g T u X K rf) 9 (.inr (1, 2000, .inl f)) = cz z g T u X (K.1, va_up K.2.1 9 f, K.2.2) rf := by cases z <;> exact cu_9
theorem zu_43 {f : Nat → Int32} : am_up (cz z g T u X K rf) 43 (.inr (0, 401, .inl f)) = cz z g T u X (K.1, va_up K.2.1 43 f, K.2.2) rf := by cases z <;> exact cu_43
theorem zu_44 {f : Nat → Int32} : am_up (cz z g T u X K rf) 44 (.inr (0, 401, .inl f)) = cz z g T u X (K.1, va_up K.2.1 44 f, K.2.2) rf := by cases z <;> exact cu_44
theorem zu_45 {f : Nat → Int32} : am_up (cz z g T u X K rf) 45 (.inr (0, 401, .inl f)) = cz z g T u X (K.1, va_up K.2.1 45 f, K.2.2) rf := by cases z <;> exact cu_45
theorem zu_114 {f : Nat → Int32} : am_up (cz z g T u X K rf) 114 (.inr (0, 5, .inl f)) = cz z g T u X (K.1, va_up K.2.1 114 f, K.2.2) rf := by cases z <;> exact cu_114
theorem zu_41 {f : Nat → Int64} : am_up (cz z g T u X K rf) 41 (.inr (3, 4, .inr (.inl f))) = cz z g T u X (K.1, K.2.1, K.2.2.1, f, K.2.2.2.2) rf := by cases z <;> exact cu_41
theorem zp_8_1 {x : Int32} : am_up (cz z g T u X K rf) 8 (.inl (10, List.set [.ref 9, .int (K.1 0), .int (K.1 1), .ref (rf 0), .ref (rf 1), .ref 40, .ref 46, .ref 47, .ref 99, .ref 100, .ref 105, .ref 108, .ref 113] 1 (.int x))) = cz z g T u X (va_up K.1 0 x, K.2) rf := by cases z <;> exact cp_8_1
theorem zp_8_2 {x : Int32} : am_up (cz z g T u X K rf) 8 (.inl (10, List.set [.ref 9, .int (K.1 0), .int (K.1 1), .ref (rf 0), .ref (rf 1), .ref 40, .ref 46, .ref 47, .ref 99, .ref 100, .ref 105, .ref 108, .ref 113] 2 (.int x))) = cz z g T u X (va_up K.1 1 x, K.2) rf := by cases z <;> exact cp_8_2
theorem zp_40_2 {x : Int32} : am_up (cz z g T u X K rf) 40 (.inl (4, List.set [.ref 42, .ref (rf 2), .int (K.1 2), .int (K.1 3), .int (K.1 4), .int (K.1 5), .int (K.1 6), .ref 41, .int (K.1 8), .int (K.1 9), .int (K.1 10), .int (K.1 11)] 2 (.int x))) = cz z g T u X (va_up K.1 2 x, K.2) rf := by cases z <;> exact cp_40_2
theorem zp_40_3 {x : Int32} : am_up (cz z g T u X K rf) 40 (.inl (4, List.set [.ref 42, .ref (rf 2), .int (K.1 2), .int (K.1 3), .int (K.1 4), .int (K.1 5), .int (K.1 6), .ref 41, .int (K.1 8), .int (K.1 9), .int (K.1 10), .int (K.1 11)] 3 (.int x))) = cz z g T u X (va_up K.1 3 x, K.2) rf := by cases z <;> exact cp_40_3
theorem zp_40_4 {x : Int32} : am_up (cz z g T u X K rf) 40 (.inl (4, List.set [.ref 42, .ref (rf 2), .int (K.1 2), .int (K.1 3), .int (K.1 4), .int (K.1 5), .int (K.1 6), .ref 41, .int (K.1 8), .int (K.1 9), .int (K.1 10), .int (K.1 11)] 4 (.int x))) = cz z g T u X (va_up K.1 4 x, K.2) rf := by cases z <;> exact cp_40_4
theorem zp_40_5 {x : Int32} : am_up (cz z g T u X K rf) 40 (.inl (4, List.set [.ref 42, .ref (rf 2), .int (K.1 2), .int (K.1 3), .int (K.1 4), .int (K.1 5), .int (K.1 6), .ref 41, .int (K.1 8), .int (K.1 9), .int (K.1 10), .int (K.1 11)] 5 (.int x))) = cz z g T u X (va_up K.1 5 x, K.2) rf := by cases z <;> exact cp_40_5
theorem zp_40_6 {x : Int32} : am_up (cz z g T u X K rf) 40 (.inl (4, List.set [.ref 42, .ref (rf 2), .int (K.1 2), .int (K.1 3), .int (K.1 4), .int (K.1 5), .int (K.1 6), .ref 41, .int (K.1 8), .int (K.1 9), .int (K.1 10), .int (K.1 11)] 6 (.int x))) = cz z g T u X (va_up K.1 6 x, K.2) rf := by cases z <;> exact cp_40_6
theorem zp_40_8 {x : Int32} : am_up (cz z g T u X K rf) 40 (.inl (4, List.set [.ref 42, .ref (rf 2), .int (K.1 2), .int (K.1 3), .int (K.1 4), .int (K.1 5), .int (K.1 6), .ref 41, .int (K.1 8), .int (K.1 9), .int (K.1 10), .int (K.1 11)] 8 (.int x))) = cz z g T u X (va_up K.1 8 x, K.2) rf := by cases z <;> exact cp_40_8
theorem zp_40_9 {x : Int32} : am_up (cz z g T u X K rf) 40 (.inl (4, List.set [.ref 42, .ref (rf 2), .int (K.1 2), .int (K.1 3), .int (K.1 4), .int (K.1 5), .int (K.1 6), .ref 41, .int (K.1 8), .int (K.1 9), .int (K.1 10), .int (K.1 11)] 9 (.int x))) = cz z g T u X (va_up K.1 9 x, K.2) rf := by cases z <;> exact cp_40_9
theorem zp_40_10 {x : Int32} : am_up (cz z g T u X K rf) 40 (.inl (4, List.set [.ref 42, .ref (rf 2), .int (K.1 2), .int (K.1 3), .int (K.1 4), .int (K.1 5), .int (K.1 6), .ref 41, .int (K.1 8), .int (K.1 9), .int (K.1 10), .int (K.1 11)] 10 (.int x))) = cz z g T u X (va_up K.1 10 x, K.2) rf := by cases z <;> exact cp_40_10
theorem zp_40_11 {x : Int32} : am_up (cz z g T u X K rf) 40 (.inl (4, List.set [.ref 42, .ref (rf 2), .int (K.1 2), .int (K.1 3), .int (K.1 4), .int (K.1 5), .int (K.1 6), .ref 41, .int (K.1 8), .int (K.1 9), .int (K.1 10), .int (K.1 11)] 11 (.int x))) = cz z g T u X (va_up K.1 11 x, K.2) rf := by cases z <;> exact cp_40_11
theorem zp_42_4 {x : Int32} : am_up (cz z g T u X K rf) 42 (.inl (9, List.set [.ref 43, .ref 44, .ref 45, .ref 9, .int (K.1 12), .int (K.1 13), .int (K.1 14), .int (K.1 15)] 4 (.int x))) = cz z g T u X (va_up K.1 12 x, K.2) rf := by cases z <;> exact cp_42_4
theorem zp_42_5 {x : Int32} : am_up (cz z g T u X K rf) 42 (.inl (9, List.set [.ref 43, .ref 44, .ref 45, .ref 9, .int (K.1 12), .int (K.1 13), .int (K.1 14), .int (K.1 15)] 5 (.int x))) = cz z g T u X (va_up K.1 13 x, K.2) rf := by cases z <;> exact cp_42_5
theorem zp_42_6 {x : Int32} : am_up (cz z g T u X K rf) 42 (.inl (9, List.set [.ref 43, .ref 44, .ref 45, .ref 9, .int (K.1 12), .int (K.1 13), .int (K.1 14), .int (K.1 15)] 6 (.int x))) = cz z g T u X (va_up K.1 14 x, K.2) rf := by cases z <;> exact cp_42_6
theorem zp_42_7 {x : Int32} : am_up (cz z g T u X K rf) 42 (.inl (9, List.set [.ref 43, .ref 44, .ref 45, .ref 9, .int (K.1 12), .int (K.1 13), .int (K.1 14), .int (K.1 15)] 7 (.int x))) = cz z g T u X (va_up K.1 15 x, K.2) rf := by cases z <;> exact cp_42_7
theorem zp_8_3 {x : Nat} : am_up (cz z g T u X K rf) 8 (.inl (10, List.set [.ref 9, .int (K.1 0), .int (K.1 1), .ref (rf 0), .ref (rf 1), .ref 40, .ref 46, .ref 47, .ref 99, .ref 100, .ref 105, .ref 108, .ref 113] 3 (.ref x))) = cz z g T u X K (va_up rf 0 x) := by cases z <;> exact cp_8_3
theorem zp_8_4 {x : Nat} : am_up (cz z g T u X K rf) 8 (.inl (10, List.set [.ref 9, .int (K.1 0), .int (K.1 1), .ref (rf 0), .ref (rf 1), .ref 40, .ref 46, .ref 47, .ref 99, .ref 100, .ref 105, .ref 108, .ref 113] 4 (.ref x))) = cz z g T u X K (va_up rf 1 x) := by cases z <;> exact cp_8_4
theorem zp_40_1 {x : Nat} : am_up (cz z g T u X K rf) 40 (.inl (4, List.set [.ref 42, .ref (rf 2), .int (K.1 2), .int (K.1 3), .int (K.1 4), .int (K.1 5), .int (K.1 6), .ref 41, .int (K.1 8), .int (K.1 9), .int (K.1 10), .int (K.1 11)] 1 (.ref x))) = cz z g T u X K (va_up rf 2 x) := by cases z <;> exact cp_40_1
theorem nI_ob {x : Int32} : nI x.toBitVec.toNat = x := (nI_self x).symm
theorem zt_0_0 {n : Nat} : am_up (cz z g T u X K rf) (zq z) (.inl (7, List.set [.int (nI (T.1 0)), .int (nI (T.1 1)), .ref (zq z + 1), .int (nI (T.1 2)), .int (nI (T.1 3)), .ref (zq z + 2), .ref (zq z + 3), .ref (zq z + 4), .ref (zq z + 5), .ref (zq z + 6), .ref (zq z + 7), .ref (zq z + 13), .ref (zq z + 14), .int (nI (T.1 4)), .int (nI (T.1 5)), .int (nI (T.1 6))] 0 (.int (nI n)))) = cz z g (va_up T.1 0 n, T.2) u X K rf := by
  cases z
  · exact chl_up (i := 17) (Nat.le_of_ble_eq_true rfl) (by decide)
  · exact chl_up (i := 2) (Nat.le_of_ble_eq_true rfl) (by decide)
theorem zo_0_0 {x : Int32} : am_up (cz z g T u X K rf) (zq z) (.inl (7, List.set [.int (nI (T.1 0)), .int (nI (T.1 1)), .ref (zq z + 1), .int (nI (T.1 2)), .int (nI (T.1 3)), .ref (zq z + 2), .ref (zq z + 3), .ref (zq z + 4), .ref (zq z + 5), .ref (zq z + 6), .ref (zq z + 7), .ref (zq z + 13), .ref (zq z + 14), .int (nI (T.1 4)), .int (nI (T.1 5)), .int (nI (T.1 6))] 0 (.int x))) = cz z g (va_up T.1 0 x.toBitVec.toNat, T.2) u X K rf := by
  conv => lhs; rw [nI_self x]
  exact zt_0_0
theorem zt_0_1 {n : Nat} : am_up (cz z g T u X K rf) (zq z) (.inl (7, List.set [.int (nI (T.1 0)), .int (nI (T.1 1)), .ref (zq z + 1), .int (nI (T.1 2)), .int (nI (T.1 3)), .ref (zq z + 2), .ref (zq z + 3), .ref (zq z + 4), .ref (zq z + 5), .ref (zq z + 6), .ref (zq z + 7), .ref (zq z + 13), .ref (zq z + 14), .int (nI (T.1 4)), .int (nI (T.1 5)), .int (nI (T.1 6))] 1 (.int (nI n)))) = cz z g (va_up T.1 1 n, T.2) u X K rf := by
  cases z
  · exact chl_up (i := 17) (Nat.le_of_ble_eq_true rfl) (by decide)
  · exact chl_up (i := 2) (Nat.le_of_ble_eq_true rfl) (by decide)
theorem zo_0_1 {x : Int32} : am_up (cz z g T u X K rf) (zq z) (.inl (7, List.set [.int (nI (T.1 0)), .int (nI (T.1 1)), .ref (zq z + 1), .int (nI (T.1 2)), .int (nI (T.1 3)), .ref (zq z + 2), .ref (zq z + 3), .ref (zq z + 4), .ref (zq z + 5), .ref (zq z + 6), .ref (zq z + 7), .ref (zq z + 13), .ref (zq z + 14), .int (nI (T.1 4)), .int (nI (T.1 5)), .int (nI (T.1 6))] 1 (.int x))) = cz z g (va_up T.1 1 x.toBitVec.toNat, T.2) u X K rf := by
  conv => lhs; rw [nI_self x]
  exact zt_0_1
theorem zt_0_3 {n : Nat} : am_up (cz z g T u X K rf) (zq z) (.inl (7, List.set [.int (nI (T.1 0)), .int (nI (T.1 1)), .ref (zq z + 1), .int (nI (T.1 2)), .int (nI (T.1 3)), .ref (zq z + 2), .ref (zq z + 3), .ref (zq z + 4), .ref (zq z + 5), .ref (zq z + 6), .ref (zq z + 7), .ref (zq z + 13), .ref (zq z + 14), .int (nI (T.1 4)), .int (nI (T.1 5)), .int (nI (T.1 6))] 3 (.int (nI n)))) = cz z g (va_up T.1 2 n, T.2) u X K rf := by
  cases z
  · exact chl_up (i := 17) (Nat.le_of_ble_eq_true rfl) (by decide)
  · exact chl_up (i := 2) (Nat.le_of_ble_eq_true rfl) (by decide)
theorem zo_0_3 {x : Int32} : am_up (cz z g T u X K rf) (zq z) (.inl (7, List.set [.int (nI (T.1 0)), .int (nI (T.1 1)), .ref (zq z + 1), .int (nI (T.1 2)), .int (nI (T.1 3)), .ref (zq z + 2), .ref (zq z + 3), .ref (zq z + 4), .ref (zq z + 5), .ref (zq z + 6), .ref (zq z + 7), .ref (zq z + 13), .ref (zq z + 14), .int (nI (T.1 4)), .int (nI (T.1 5)), .int (nI (T.1 6))] 3 (.int x))) = cz z g (va_up T.1 2 x.toBitVec.toNat, T.2) u X K rf := by
  conv => lhs; rw [nI_self x]
  exact zt_0_3
theorem zt_0_4 {n : Nat} : am_up (cz z g T u X K rf) (zq z) (.inl (7, List.set [.int (nI (T.1 0)), .int (nI (T.1 1)), .ref (zq z + 1), .int (nI (T.1 2)), .int (nI (T.1 3)), .ref (zq z + 2), .ref (zq z + 3), .ref (zq z + 4), .ref (zq z + 5), .ref (zq z + 6), .ref (zq z + 7), .ref (zq z + 13), .ref (zq z + 14), .int (nI (T.1 4)), .int (nI (T.1 5)), .int (nI (T.1 6))] 4 (.int (nI n)))) = cz z g (va_up T.1 3 n, T.2) u X K rf := by
  cases z
  · exact chl_up (i := 17) (Nat.le_of_ble_eq_true rfl) (by decide)
  · exact chl_up (i := 2) (Nat.le_of_ble_eq_true rfl) (by decide)
theorem zo_0_4 {x : Int32} : am_up (cz z g T u X K rf) (zq z) (.inl (7, List.set [.int (nI (T.1 0)), .int (nI (T.1 1)), .ref (zq z + 1), .int (nI (T.1 2)), .int (nI (T.1 3)), .ref (zq z + 2), .ref (zq z + 3), .ref (zq z + 4), .ref (zq z + 5), .ref (zq z + 6), .ref (zq z + 7), .ref (zq z + 13), .ref (zq z + 14), .int (nI (T.1 4)), .int (nI (T.1 5)), .int (nI (T.1 6))] 4 (.int x))) = cz z g (va_up T.1 3 x.toBitVec.toNat, T.2) u X K rf := by
  conv => lhs; rw [nI_self x]
  exact zt_0_4
theorem zt_0_13 {n : Nat} : am_up (cz z g T u X K rf) (zq z) (.inl (7, List.set [.int (nI (T.1 0)), .int (nI (T.1 1)), .ref (zq z + 1), .int (nI (T.1 2)), .int (nI (T.1 3)), .ref (zq z + 2), .ref (zq z + 3), .ref (zq z + 4), .ref (zq z + 5), .ref (zq z + 6), .ref (zq z + 7), .ref (zq z + 13), .ref (zq z + 14), .int (nI (T.1 4)), .int (nI (T.1 5)), .int (nI (T.1 6))] 13 (.int (nI n)))) = cz z g (va_up T.1 4 n, T.2) u X K rf := by
  cases z
  · exact chl_up (i := 17) (Nat.le_of_ble_eq_true rfl) (by decide)
  · exact chl_up (i := 2) (Nat.le_of_ble_eq_true rfl) (by decide)
theorem zo_0_13 {x : Int32} : am_up (cz z g T u X K rf) (zq z) (.inl (7, List.set [.int (nI (T.1 0)), .int (nI (T.1 1)), .ref (zq z + 1), .int (nI (T.1 2)), .int (nI (T.1 3)), .ref (zq z + 2), .ref (zq z + 3), .ref (zq z + 4), .ref (zq z + 5), .ref (zq z + 6), .ref (zq z + 7), .ref (zq z + 13), .ref (zq z + 14), .int (nI (T.1 4)), .int (nI (T.1 5)), .int (nI (T.1 6))] 13 (.int x))) = cz z g (va_up T.1 4 x.toBitVec.toNat, T.2) u X K rf := by
  conv => lhs; rw [nI_self x]
  exact zt_0_13
theorem zt_0_14 {n : Nat} : am_up (cz z g T u X K rf) (zq z) (.inl (7, List.set [.int (nI (T.1 0)), .int (nI (T.1 1)), .ref (zq z + 1), .int (nI (T.1 2)), .int (nI (T.1 3)), .ref (zq z + 2), .ref (zq z + 3), .ref (zq z + 4), .ref (zq z + 5), .ref (zq z + 6), .ref (zq z + 7), .ref (zq z + 13), .ref (zq z + 14), .int (nI (T.1 4)), .int (nI (T.1 5)), .int (nI (T.1 6))] 14 (.int (nI n)))) = cz z g (va_up T.1 5 n, T.2) u X K rf := by
  cases z
  · exact chl_up (i := 17) (Nat.le_of_ble_eq_true rfl) (by decide)
  · exact chl_up (i := 2) (Nat.le_of_ble_eq_true rfl) (by decide)
theorem zo_0_14 {x : Int32} : am_up (cz z g T u X K rf) (zq z) (.inl (7, List.set [.int (nI (T.1 0)), .int (nI (T.1 1)), .ref (zq z + 1), .int (nI (T.1 2)), .int (nI (T.1 3)), .ref (zq z + 2), .ref (zq z + 3), .ref (zq z + 4), .ref (zq z + 5), .ref (zq z + 6), .ref (zq z + 7), .ref (zq z + 13), .ref (zq z + 14), .int (nI (T.1 4)), .int (nI (T.1 5)), .int (nI (T.1 6))] 14 (.int x))) = cz z g (va_up T.1 5 x.toBitVec.toNat, T.2) u X K rf := by
  conv => lhs; rw [nI_self x]
  exact zt_0_14
theorem zt_0_15 {n : Nat} : am_up (cz z g T u X K rf) (zq z) (.inl (7, List.set [.int (nI (T.1 0)), .int (nI (T.1 1)), .ref (zq z + 1), .int (nI (T.1 2)), .int (nI (T.1 3)), .ref (zq z + 2), .ref (zq z + 3), .ref (zq z + 4), .ref (zq z + 5), .ref (zq z + 6), .ref (zq z + 7), .ref (zq z + 13), .ref (zq z + 14), .int (nI (T.1 4)), .int (nI (T.1 5)), .int (nI (T.1 6))] 15 (.int (nI n)))) = cz z g (va_up T.1 6 n, T.2) u X K rf := by
  cases z
  · exact chl_up (i := 17) (Nat.le_of_ble_eq_true rfl) (by decide)
  · exact chl_up (i := 2) (Nat.le_of_ble_eq_true rfl) (by decide)
theorem zo_0_15 {x : Int32} : am_up (cz z g T u X K rf) (zq z) (.inl (7, List.set [.int (nI (T.1 0)), .int (nI (T.1 1)), .ref (zq z + 1), .int (nI (T.1 2)), .int (nI (T.1 3)), .ref (zq z + 2), .ref (zq z + 3), .ref (zq z + 4), .ref (zq z + 5), .ref (zq z + 6), .ref (zq z + 7), .ref (zq z + 13), .ref (zq z + 14), .int (nI (T.1 4)), .int (nI (T.1 5)), .int (nI (T.1 6))] 15 (.int x))) = cz z g (va_up T.1 6 x.toBitVec.toNat, T.2) u X K rf := by
  conv => lhs; rw [nI_self x]
  exact zt_0_15
theorem zt_7_1 {n : Nat} : am_up (cz z g T u X K rf) (zq z + 7) (.inl (1, List.set [.ref (zq z + 8), .int (nI (T.1 7)), .ref (zq z + 9), .int (nI (T.1 8)), .ref (zq z + 10), .int u.1, .ref (zq z + 11), .ref (zq z + 12)] 1 (.int (nI n)))) = cz z g (va_up T.1 7 n, T.2) u X K rf := by
  cases z
  · exact chl_up (i := 24) (Nat.le_of_ble_eq_true rfl) (by decide)
  · exact chl_up (i := 9) (Nat.le_of_ble_eq_true rfl) (by decide)
theorem zo_7_1 {x : Int32} : am_up (cz z g T u X K rf) (zq z + 7) (.inl (1, List.set [.ref (zq z + 8), .int (nI (T.1 7)), .ref (zq z + 9), .int (nI (T.1 8)), .ref (zq z + 10), .int u.1, .ref (zq z + 11), .ref (zq z + 12)] 1 (.int x))) = cz z g (va_up T.1 7 x.toBitVec.toNat, T.2) u X K rf := by
  conv => lhs; rw [nI_self x]
  exact zt_7_1
theorem zt_7_3 {n : Nat} : am_up (cz z g T u X K rf) (zq z + 7) (.inl (1, List.set [.ref (zq z + 8), .int (nI (T.1 7)), .ref (zq z + 9), .int (nI (T.1 8)), .ref (zq z + 10), .int u.1, .ref (zq z + 11), .ref (zq z + 12)] 3 (.int (nI n)))) = cz z g (va_up T.1 8 n, T.2) u X K rf := by
  cases z
  · exact chl_up (i := 24) (Nat.le_of_ble_eq_true rfl) (by decide)
  · exact chl_up (i := 9) (Nat.le_of_ble_eq_true rfl) (by decide)
theorem zo_7_3 {x : Int32} : am_up (cz z g T u X K rf) (zq z + 7) (.inl (1, List.set [.ref (zq z + 8), .int (nI (T.1 7)), .ref (zq z + 9), .int (nI (T.1 8)), .ref (zq z + 10), .int u.1, .ref (zq z + 11), .ref (zq z + 12)] 3 (.int x))) = cz z g (va_up T.1 8 x.toBitVec.toNat, T.2) u X K rf := by
  conv => lhs; rw [nI_self x]
  exact zt_7_3
theorem zt_7_5 {x : Int32} : am_up (cz z g T u X K rf) (zq z + 7) (.inl (1, List.set [.ref (zq z + 8), .int (nI (T.1 7)), .ref (zq z + 9), .int (nI (T.1 8)), .ref (zq z + 10), .int u.1, .ref (zq z + 11), .ref (zq z + 12)] 5 (.int x))) = cz z g T (x, u.2) X K rf := by
  cases z
  · exact chl_up (i := 24) (Nat.le_of_ble_eq_true rfl) (by decide)
  · exact chl_up (i := 9) (Nat.le_of_ble_eq_true rfl) (by decide)
theorem zv_1 {f : Nat → Int32} : am_up (cz z g T u X K rf) (zq z + 1) (.inr (0, 32, .inl f)) = cz z g (T.1, va_up T.2 0 f) u X K rf := by
  cases z
  · exact chl_up (i := 18) (Nat.le_of_ble_eq_true rfl) (by decide)
  · exact chl_up (i := 3) (Nat.le_of_ble_eq_true rfl) (by decide)
theorem zv_2 {f : Nat → Int32} : am_up (cz z g T u X K rf) (zq z + 2) (.inr (0, 4, .inl f)) = cz z g (T.1, va_up T.2 1 f) u X K rf := by
  cases z
  · exact chl_up (i := 19) (Nat.le_of_ble_eq_true rfl) (by decide)
  · exact chl_up (i := 4) (Nat.le_of_ble_eq_true rfl) (by decide)
theorem zv_3 {f : Nat → Int32} : am_up (cz z g T u X K rf) (zq z + 3) (.inr (0, 25, .inl f)) = cz z g (T.1, va_up T.2 2 f) u X K rf := by
  cases z
  · exact chl_up (i := 20) (Nat.le_of_ble_eq_true rfl) (by decide)
  · exact chl_up (i := 5) (Nat.le_of_ble_eq_true rfl) (by decide)
theorem zv_4 {f : Nat → Int32} : am_up (cz z g T u X K rf) (zq z + 4) (.inr (0, 25, .inl f)) = cz z g (T.1, va_up T.2 3 f) u X K rf := by
  cases z
  · exact chl_up (i := 21) (Nat.le_of_ble_eq_true rfl) (by decide)
  · exact chl_up (i := 6) (Nat.le_of_ble_eq_true rfl) (by decide)
theorem zv_5 {f : Nat → Int32} : am_up (cz z g T u X K rf) (zq z + 5) (.inr (0, 25, .inl f)) = cz z g (T.1, va_up T.2 4 f) u X K rf := by
  cases z
  · exact chl_up (i := 22) (Nat.le_of_ble_eq_true rfl) (by decide)
  · exact chl_up (i := 7) (Nat.le_of_ble_eq_true rfl) (by decide)
theorem zv_6 {f : Nat → Int32} : am_up (cz z g T u X K rf) (zq z + 6) (.inr (0, 25, .inl f)) = cz z g (T.1, va_up T.2 5 f) u X K rf := by
  cases z
  · exact chl_up (i := 23) (Nat.le_of_ble_eq_true rfl) (by decide)
  · exact chl_up (i := 8) (Nat.le_of_ble_eq_true rfl) (by decide)
theorem zv_8 {f : Nat → Int32} : am_up (cz z g T u X K rf) (zq z + 8) (.inr (0, 400, .inl f)) = cz z g (T.1, va_up T.2 8 f) u X K rf := by
  cases z
  · exact chl_up (i := 25) (Nat.le_of_ble_eq_true rfl) (by decide)
  · exact chl_up (i := 10) (Nat.le_of_ble_eq_true rfl) (by decide)
theorem zv_9 {f : Nat → Int32} : am_up (cz z g T u X K rf) (zq z + 9) (.inr (0, 3, .inl f)) = cz z g (T.1, va_up T.2 9 f) u X K rf := by
  cases z
  · exact chl_up (i := 26) (Nat.le_of_ble_eq_true rfl) (by decide)
  · exact chl_up (i := 11) (Nat.le_of_ble_eq_true rfl) (by decide)
theorem zv_13 {f : Nat → Int32} : am_up (cz z g T u X K rf) (zq z + 13) (.inr (0, 3, .inl f)) = cz z g (T.1, va_up T.2 6 f) u X K rf := by
  cases z
  · exact chl_up (i := 30) (Nat.le_of_ble_eq_true rfl) (by decide)
  · exact chl_up (i := 15) (Nat.le_of_ble_eq_true rfl) (by decide)
theorem zv_14 {f : Nat → Int32} : am_up (cz z g T u X K rf) (zq z + 14) (.inr (0, 3, .inl f)) = cz z g (T.1, va_up T.2 7 f) u X K rf := by
  cases z
  · exact chl_up (i := 31) (Nat.le_of_ble_eq_true rfl) (by decide)
  · exact chl_up (i := 16) (Nat.le_of_ble_eq_true rfl) (by decide)
theorem zv_10 {f : Nat → Int32} : am_up (cz z g T u X K rf) (zq z + 10) (.inr (0, 32, .inl f)) = cz z g T (u.1, f, u.2.2) X K rf := by
  cases z
  · exact chl_up (i := 27) (Nat.le_of_ble_eq_true rfl) (by decide)
  · exact chl_up (i := 12) (Nat.le_of_ble_eq_true rfl) (by decide)
end CZ
