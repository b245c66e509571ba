/-! ===== the reference's cells as one state: k (kept), and what queries write over: variables, pile, isBroken, isLosing, chance, chanceThen, pair, pairThen, cameTo, byFace, byFaceThen ===== -/
abbrev Mk : Type := (Nat → Int32) × (Nat → Nat → Int32) × (Nat → Nat → Int64)
def mfs (k : Mk) (br lo : Int32) : List Value := [.int (k.1 0), .ref 122, .int (k.1 2), .ref 123, .int (k.1 4), .ref 124, .ref 125, .ref 126, .ref 127, .ref 128, .int (k.1 10), .int (k.1 11), .int (k.1 12), .int (k.1 13), .int (k.1 14), .int (k.1 15), .int (k.1 16), .int (k.1 17), .int (k.1 18), .int (k.1 19), .int (k.1 20), .ref 129, .ref 130, .ref 131, .ref 132, .ref 133, .ref 134, .ref 135, .ref 136, .ref 137, .ref 138, .ref 139, .ref 140, .ref 141, .ref 142, .ref 143, .ref 144, .ref 145, .ref 146, .int (k.1 39), .ref 147, .ref 148, .ref 149, .ref 150, .ref 151, .int (k.1 45), .ref 152, .ref 153, .ref 154, .int (k.1 49), .ref 155, .ref 156, .int br, .ref 157, .ref 158, .int lo, .ref 159, .ref 160, .int (k.1 58), .ref 161, .ref 162, .ref 163, .ref 164, .int (k.1 63), .ref 165, .ref 166, .ref 167, .ref 168, .ref 169, .ref 170]
def ml (k : Mk) (v pl : Nat → Int32) (br lo : Int32) (c ct pr pt cm bf bt : Nat → Int32) : List am_C := [.inl (11, mfs k br lo), .inr (1, 2000, .inl (k.2.1 1)), .inr (1, 2000, .inl (k.2.1 3)), .inr (0, 403, .inl (k.2.1 5)), .inr (0, 403, .inl (k.2.1 6)), .inr (0, 403, .inl (k.2.1 7)), .inr (3, 403, .inr (.inl (k.2.2 8))), .inr (3, 23, .inr (.inl (k.2.2 9))), .inr (3, 4, .inr (.inl (k.2.2 21))), .inr (0, 2, .inl (k.2.1 22)), .inr (0, 2, .inl (k.2.1 23)), .inr (0, 64, .inl (k.2.1 24)), .inr (0, 2, .inl (k.2.1 25)), .inr (0, 2, .inl (k.2.1 26)), .inr (0, 8, .inl (k.2.1 27)), .inr (0, 48, .inl (k.2.1 28)), .inr (0, 48, .inl (k.2.1 29)), .inr (0, 48, .inl (k.2.1 30)), .inr (0, 48, .inl (k.2.1 31)), .inr (0, 6, .inl (k.2.1 32)), .inr (0, 6, .inl (k.2.1 33)), .inr (0, 2, .inl (k.2.1 34)), .inr (0, 2, .inl (k.2.1 35)), .inr (0, 2, .inl (k.2.1 36)), .inr (0, 6, .inl (k.2.1 37)), .inr (0, 6, .inl (k.2.1 38)), .inr (2, 260, .inl (k.2.1 40)), .inr (0, 260, .inl (k.2.1 41)), .inr (0, 260, .inl (k.2.1 42)), .inr (0, 260, .inl (k.2.1 43)), .inr (0, 260, .inl (k.2.1 44)), .inr (0, 840, .inl (k.2.1 46)), .inr (0, 840, .inl (k.2.1 47)), .inr (0, 64, .inl (k.2.1 48)), .inr (0, 7, .inl v), .inr (0, 400, .inl pl), .inr (0, 10, .inl (k.2.1 53)), .inr (0, 10, .inl (k.2.1 54)), .inr (0, 385, .inl c), .inr (0, 385, .inl ct), .inr (0, 500, .inl (k.2.1 59)), .inr (0, 9409, .inl pr), .inr (0, 9409, .inl pt), .inr (0, 2880, .inl cm), .inr (0, 5, .inl (k.2.1 64)), .inr (0, 5, .inl (k.2.1 65)), .inr (0, 3, .inl bf), .inr (0, 3, .inl bt), .inr (2, 3, .inl (k.2.1 68)), .inr (0, 30, .inl (k.2.1 69))]
def mhl (g : am_H) (l : List am_C) : am_H := (g.1, g.2.1, fun p => if p < 121 then g.2.2 p else am_nth l (p - 121) (g.2.2 p))
def mh (g : am_H) (k : Mk) (v pl : Nat → Int32) (br lo : Int32) (c ct pr pt cm bf bt : Nat → Int32) : am_H := mhl g (ml k v pl br lo c ct pr pt cm bf bt)
theorem am_nth_set {α : Type} : ∀ (l : List α) (i j : Nat) (x d : α), i < l.length → am_nth (l.set i x) j d = if j = i then x else am_nth l j d := by
  intro l
  induction l with
  | nil => intro i j x d hi; exact absurd hi (Nat.not_lt_zero _)
  | cons a t ih =>
    intro i j x d hi
    cases i with
    | zero =>
      cases j with
      | zero => rfl
      | succ j => rfl
    | succ i =>
      cases j with
      | zero => rfl
      | succ j =>
        show am_nth (t.set i x) j d = if j + 1 = i + 1 then x else am_nth t j d
        rw [ih i j x d (Nat.lt_of_succ_lt_succ hi)]
        by_cases e : j = i
        · rw [if_pos e, if_pos (by omega)]
        · rw [if_neg e, if_neg (by omega)]
theorem mhl_up {g : am_H} {l : List am_C} {i : Nat} {c : am_C} (hi : i < l.length) : am_up (mhl g l) (121 + i) c = mhl g (l.set i c) := by
  unfold am_up mhl va_up
  refine congrArg (fun z => (g.1, g.2.1, z)) (funext fun p => ?_)
  by_cases e : p = 121 + i
  · subst e
    rw [if_pos rfl, if_neg (by omega), am_nth_set _ _ _ _ _ hi, if_pos (by omega)]
  · rw [if_neg e]
    show (if p < 121 then g.2.2 p else am_nth l (p - 121) (g.2.2 p)) = if p < 121 then g.2.2 p else am_nth (l.set i c) (p - 121) (g.2.2 p)
    by_cases h1 : p < 121
    · rw [if_pos h1, if_pos h1]
    · rw [if_neg h1, if_neg h1, am_nth_set _ _ _ _ _ hi, if_neg (by omega)]
section MH
variable {g : am_H} {k : Mk} {v pl : Nat → Int32} {br lo : Int32} {c ct pr pt cm bf bt : Nat → Int32}
theorem mg_121 : (mh g k v pl br lo c ct pr pt cm bf bt).2.2 121 = .inl (11, mfs k br lo) := rfl
theorem mg_122 : (mh g k v pl br lo c ct pr pt cm bf bt).2.2 122 = .inr (1, 2000, .inl (k.2.1 1)) := rfl
theorem mg_123 : (mh g k v pl br lo c ct pr pt cm bf bt).2.2 123 = .inr (1, 2000, .inl (k.2.1 3)) := rfl
theorem mg_124 : (mh g k v pl br lo c ct pr pt cm bf bt).2.2 124 = .inr (0, 403, .inl (k.2.1 5)) := rfl
theorem mg_125 : (mh g k v pl br lo c ct pr pt cm bf bt).2.2 125 = .inr (0, 403, .inl (k.2.1 6)) := rfl
theorem mg_126 : (mh g k v pl br lo c ct pr pt cm bf bt).2.2 126 = .inr (0, 403, .inl (k.2.1 7)) := rfl
theorem mg_127 : (mh g k v pl br lo c ct pr pt cm bf bt).2.2 127 = .inr (3, 403, .inr (.inl (k.2.2 8))) := rfl
theorem mg_128 : (mh g k v pl br lo c ct pr pt cm bf bt).2.2 128 = .inr (3, 23, .inr (.inl (k.2.2 9))) := rfl
theorem mg_129 : (mh g k v pl br lo c ct pr pt cm bf bt).2.2 129 = .inr (3, 4, .inr (.inl (k.2.2 21))) := rfl
theorem mg_130 : (mh g k v pl br lo c ct pr pt cm bf bt).2.2 130 = .inr (0, 2, .inl (k.2.1 22)) := rfl
theorem mg_131 : (mh g k v pl br lo c ct pr pt cm bf bt).2.2 131 = .inr (0, 2, .inl (k.2.1 23)) := rfl
theorem mg_132 : (mh g k v pl br lo c ct pr pt cm bf bt).2.2 132 = .inr (0, 64, .inl (k.2.1 24)) := rfl
theorem mg_133 : (mh g k v pl br lo c ct pr pt cm bf bt).2.2 133 = .inr (0, 2, .inl (k.2.1 25)) := rfl
theorem mg_134 : (mh g k v pl br lo c ct pr pt cm bf bt).2.2 134 = .inr (0, 2, .inl (k.2.1 26)) := rfl
theorem mg_135 : (mh g k v pl br lo c ct pr pt cm bf bt).2.2 135 = .inr (0, 8, .inl (k.2.1 27)) := rfl
theorem mg_136 : (mh g k v pl br lo c ct pr pt cm bf bt).2.2 136 = .inr (0, 48, .inl (k.2.1 28)) := rfl
theorem mg_137 : (mh g k v pl br lo c ct pr pt cm bf bt).2.2 137 = .inr (0, 48, .inl (k.2.1 29)) := rfl
theorem mg_138 : (mh g k v pl br lo c ct pr pt cm bf bt).2.2 138 = .inr (0, 48, .inl (k.2.1 30)) := rfl
theorem mg_139 : (mh g k v pl br lo c ct pr pt cm bf bt).2.2 139 = .inr (0, 48, .inl (k.2.1 31)) := rfl
theorem mg_140 : (mh g k v pl br lo c ct pr pt cm bf bt).2.2 140 = .inr (0, 6, .inl (k.2.1 32)) := rfl
theorem mg_141 : (mh g k v pl br lo c ct pr pt cm bf bt).2.2 141 = .inr (0, 6, .inl (k.2.1 33)) := rfl
theorem mg_142 : (mh g k v pl br lo c ct pr pt cm bf bt).2.2 142 = .inr (0, 2, .inl (k.2.1 34)) := rfl
theorem mg_143 : (mh g k v pl br lo c ct pr pt cm bf bt).2.2 143 = .inr (0, 2, .inl (k.2.1 35)) := rfl
theorem mg_144 : (mh g k v pl br lo c ct pr pt cm bf bt).2.2 144 = .inr (0, 2, .inl (k.2.1 36)) := rfl
theorem mg_145 : (mh g k v pl br lo c ct pr pt cm bf bt).2.2 145 = .inr (0, 6, .inl (k.2.1 37)) := rfl
theorem mg_146 : (mh g k v pl br lo c ct pr pt cm bf bt).2.2 146 = .inr (0, 6, .inl (k.2.1 38)) := rfl
theorem mg_147 : (mh g k v pl br lo c ct pr pt cm bf bt).2.2 147 = .inr (2, 260, .inl (k.2.1 40)) := rfl
theorem mg_148 : (mh g k v pl br lo c ct pr pt cm bf bt).2.2 148 = .inr (0, 260, .inl (k.2.1 41)) := rfl
theorem mg_149 : (mh g k v pl br lo c ct pr pt cm bf bt).2.2 149 = .inr (0, 260, .inl (k.2.1 42)) := rfl
theorem mg_150 : (mh g k v pl br lo c ct pr pt cm bf bt).2.2 150 = .inr (0, 260, .inl (k.2.1 43)) := rfl
theorem mg_151 : (mh g k v pl br lo c ct pr pt cm bf bt).2.2 151 = .inr (0, 260, .inl (k.2.1 44)) := rfl
theorem mg_152 : (mh g k v pl br lo c ct pr pt cm bf bt).2.2 152 = .inr (0, 840, .inl (k.2.1 46)) := rfl
theorem mg_153 : (mh g k v pl br lo c ct pr pt cm bf bt).2.2 153 = .inr (0, 840, .inl (k.2.1 47)) := rfl
theorem mg_154 : (mh g k v pl br lo c ct pr pt cm bf bt).2.2 154 = .inr (0, 64, .inl (k.2.1 48)) := rfl
theorem mg_155 : (mh g k v pl br lo c ct pr pt cm bf bt).2.2 155 = .inr (0, 7, .inl v) := rfl
theorem mg_156 : (mh g k v pl br lo c ct pr pt cm bf bt).2.2 156 = .inr (0, 400, .inl pl) := rfl
theorem mg_157 : (mh g k v pl br lo c ct pr pt cm bf bt).2.2 157 = .inr (0, 10, .inl (k.2.1 53)) := rfl
theorem mg_158 : (mh g k v pl br lo c ct pr pt cm bf bt).2.2 158 = .inr (0, 10, .inl (k.2.1 54)) := rfl
theorem mg_159 : (mh g k v pl br lo c ct pr pt cm bf bt).2.2 159 = .inr (0, 385, .inl c) := rfl
theorem mg_160 : (mh g k v pl br lo c ct pr pt cm bf bt).2.2 160 = .inr (0, 385, .inl ct) := rfl
theorem mg_161 : (mh g k v pl br lo c ct pr pt cm bf bt).2.2 161 = .inr (0, 500, .inl (k.2.1 59)) := rfl
theorem mg_162 : (mh g k v pl br lo c ct pr pt cm bf bt).2.2 162 = .inr (0, 9409, .inl pr) := rfl
theorem mg_163 : (mh g k v pl br lo c ct pr pt cm bf bt).2.2 163 = .inr (0, 9409, .inl pt) := rfl
theorem mg_164 : (mh g k v pl br lo c ct pr pt cm bf bt).2.2 164 = .inr (0, 2880, .inl cm) := rfl
theorem mg_165 : (mh g k v pl br lo c ct pr pt cm bf bt).2.2 165 = .inr (0, 5, .inl (k.2.1 64)) := rfl
theorem mg_166 : (mh g k v pl br lo c ct pr pt cm bf bt).2.2 166 = .inr (0, 5, .inl (k.2.1 65)) := rfl
theorem mg_167 : (mh g k v pl br lo c ct pr pt cm bf bt).2.2 167 = .inr (0, 3, .inl bf) := rfl
theorem mg_168 : (mh g k v pl br lo c ct pr pt cm bf bt).2.2 168 = .inr (0, 3, .inl bt) := rfl
theorem mg_169 : (mh g k v pl br lo c ct pr pt cm bf bt).2.2 169 = .inr (2, 3, .inl (k.2.1 68)) := rfl
theorem mg_170 : (mh g k v pl br lo c ct pr pt cm bf bt).2.2 170 = .inr (0, 30, .inl (k.2.1 69)) := rfl
theorem mu_122 {f : Nat → Int32} : am_up (mh g k v pl br lo c ct pr pt cm bf bt) 122 (.inr (1, 2000, .inl f)) = mh g (k.1, va_up k.2.1 1 f, k.2.2) v pl br lo c ct pr pt cm bf bt := mhl_up (i := 1) (Nat.le_of_ble_eq_true rfl)
theorem mu_123 {f : Nat → Int32} : am_up (mh g k v pl br lo c ct pr pt cm bf bt) 123 (.inr (1, 2000, .inl f)) = mh g (k.1, va_up k.2.1 3 f, k.2.2) v pl br lo c ct pr pt cm bf bt := mhl_up (i := 2) (Nat.le_of_ble_eq_true rfl)
theorem mu_124 {f : Nat → Int32} : am_up (mh g k v pl br lo c ct pr pt cm bf bt) 124 (.inr (0, 403, .inl f)) = mh g (k.1, va_up k.2.1 5 f, k.2.2) v pl br lo c ct pr pt cm bf bt := mhl_up (i := 3) (Nat.le_of_ble_eq_true rfl)
theorem mu_125 {f : Nat → Int32} : am_up (mh g k v pl br lo c ct pr pt cm bf bt) 125 (.inr (0, 403, .inl f)) = mh g (k.1, va_up k.2.1 6 f, k.2.2) v pl br lo c ct pr pt cm bf bt := mhl_up (i := 4) (Nat.le_of_ble_eq_true rfl)
theorem mu_126 {f : Nat → Int32} : am_up (mh g k v pl br lo c ct pr pt cm bf bt) 126 (.inr (0, 403, .inl f)) = mh g (k.1, va_up k.2.1 7 f, k.2.2) v pl br lo c ct pr pt cm bf bt := mhl_up (i := 5) (Nat.le_of_ble_eq_true rfl)
theorem mu_127 {f : Nat → Int64} : am_up (mh g k v pl br lo c ct pr pt cm bf bt) 127 (.inr (3, 403, .inr (.inl f))) = mh g (k.1, k.2.1, va_up k.2.2 8 f) v pl br lo c ct pr pt cm bf bt := mhl_up (i := 6) (Nat.le_of_ble_eq_true rfl)
theorem mu_128 {f : Nat → Int64} : am_up (mh g k v pl br lo c ct pr pt cm bf bt) 128 (.inr (3, 23, .inr (.inl f))) = mh g (k.1, k.2.1, va_up k.2.2 9 f) v pl br lo c ct pr pt cm bf bt := mhl_up (i := 7) (Nat.le_of_ble_eq_true rfl)
theorem mu_129 {f : Nat → Int64} : am_up (mh g k v pl br lo c ct pr pt cm bf bt) 129 (.inr (3, 4, .inr (.inl f))) = mh g (k.1, k.2.1, va_up k.2.2 21 f) v pl br lo c ct pr pt cm bf bt := mhl_up (i := 8) (Nat.le_of_ble_eq_true rfl)
theorem mu_130 {f : Nat → Int32} : am_up (mh g k v pl br lo c ct pr pt cm bf bt) 130 (.inr (0, 2, .inl f)) = mh g (k.1, va_up k.2.1 22 f, k.2.2) v pl br lo c ct pr pt cm bf bt := mhl_up (i := 9) (Nat.le_of_ble_eq_true rfl)
theorem mu_131 {f : Nat → Int32} : am_up (mh g k v pl br lo c ct pr pt cm bf bt) 131 (.inr (0, 2, .inl f)) = mh g (k.1, va_up k.2.1 23 f, k.2.2) v pl br lo c ct pr pt cm bf bt := mhl_up (i := 10) (Nat.le_of_ble_eq_true rfl)
theorem mu_132 {f : Nat → Int32} : am_up (mh g k v pl br lo c ct pr pt cm bf bt) 132 (.inr (0, 64, .inl f)) = mh g (k.1, va_up k.2.1 24 f, k.2.2) v pl br lo c ct pr pt cm bf bt := mhl_up (i := 11) (Nat.le_of_ble_eq_true rfl)
theorem mu_133 {f : Nat → Int32} : am_up (mh g k v pl br lo c ct pr pt cm bf bt) 133 (.inr (0, 2, .inl f)) = mh g (k.1, va_up k.2.1 25 f, k.2.2) v pl br lo c ct pr pt cm bf bt := mhl_up (i := 12) (Nat.le_of_ble_eq_true rfl)
theorem mu_134 {f : Nat → Int32} : am_up (mh g k v pl br lo c ct pr pt cm bf bt) 134 (.inr (0, 2, .inl f)) = mh g (k.1, va_up k.2.1 26 f, k.2.2) v pl br lo c ct pr pt cm bf bt := mhl_up (i := 13) (Nat.le_of_ble_eq_true rfl)
theorem mu_135 {f : Nat → Int32} : am_up (mh g k v pl br lo c ct pr pt cm bf bt) 135 (.inr (0, 8, .inl f)) = mh g (k.1, va_up k.2.1 27 f, k.2.2) v pl br lo c ct pr pt cm bf bt := mhl_up (i := 14) (Nat.le_of_ble_eq_true rfl)
theorem mu_136 {f : Nat → Int32} : am_up (mh g k v pl br lo c ct pr pt cm bf bt) 136 (.inr (0, 48, .inl f)) = mh g (k.1, va_up k.2.1 28 f, k.2.2) v pl br lo c ct pr pt cm bf bt := mhl_up (i := 15) (Nat.le_of_ble_eq_true rfl)
theorem mu_137 {f : Nat → Int32} : am_up (mh g k v pl br lo c ct pr pt cm bf bt) 137 (.inr (0, 48, .inl f)) = mh g (k.1, va_up k.2.1 29 f, k.2.2) v pl br lo c ct pr pt cm bf bt := mhl_up (i := 16) (Nat.le_of_ble_eq_true rfl)
theorem mu_138 {f : Nat → Int32} : am_up (mh g k v pl br lo c ct pr pt cm bf bt) 138 (.inr (0, 48, .inl f)) = mh g (k.1, va_up k.2.1 30 f, k.2.2) v pl br lo c ct pr pt cm bf bt := mhl_up (i := 17) (Nat.le_of_ble_eq_true rfl)
theorem mu_139 {f : Nat → Int32} : am_up (mh g k v pl br lo c ct pr pt cm bf bt) 139 (.inr (0, 48, .inl f)) = mh g (k.1, va_up k.2.1 31 f, k.2.2) v pl br lo c ct pr pt cm bf bt := mhl_up (i := 18) (Nat.le_of_ble_eq_true rfl)
theorem mu_140 {f : Nat → Int32} : am_up (mh g k v pl br lo c ct pr pt cm bf bt) 140 (.inr (0, 6, .inl f)) = mh g (k.1, va_up k.2.1 32 f, k.2.2) v pl br lo c ct pr pt cm bf bt := mhl_up (i := 19) (Nat.le_of_ble_eq_true rfl)
theorem mu_141 {f : Nat → Int32} : am_up (mh g k v pl br lo c ct pr pt cm bf bt) 141 (.inr (0, 6, .inl f)) = mh g (k.1, va_up k.2.1 33 f, k.2.2) v pl br lo c ct pr pt cm bf bt := mhl_up (i := 20) (Nat.le_of_ble_eq_true rfl)
theorem mu_142 {f : Nat → Int32} : am_up (mh g k v pl br lo c ct pr pt cm bf bt) 142 (.inr (0, 2, .inl f)) = mh g (k.1, va_up k.2.1 34 f, k.2.2) v pl br lo c ct pr pt cm bf bt := mhl_up (i := 21) (Nat.le_of_ble_eq_true rfl)
theorem mu_143 {f : Nat → Int32} : am_up (mh g k v pl br lo c ct pr pt cm bf bt) 143 (.inr (0, 2, .inl f)) = mh g (k.1, va_up k.2.1 35 f, k.2.2) v pl br lo c ct pr pt cm bf bt := mhl_up (i := 22) (Nat.le_of_ble_eq_true rfl)
theorem mu_144 {f : Nat → Int32} : am_up (mh g k v pl br lo c ct pr pt cm bf bt) 144 (.inr (0, 2, .inl f)) = mh g (k.1, va_up k.2.1 36 f, k.2.2) v pl br lo c ct pr pt cm bf bt := mhl_up (i := 23) (Nat.le_of_ble_eq_true rfl)
theorem mu_145 {f : Nat → Int32} : am_up (mh g k v pl br lo c ct pr pt cm bf bt) 145 (.inr (0, 6, .inl f)) = mh g (k.1, va_up k.2.1 37 f, k.2.2) v pl br lo c ct pr pt cm bf bt := mhl_up (i := 24) (Nat.le_of_ble_eq_true rfl)
theorem mu_146 {f : Nat → Int32} : am_up (mh g k v pl br lo c ct pr pt cm bf bt) 146 (.inr (0, 6, .inl f)) = mh g (k.1, va_up k.2.1 38 f, k.2.2) v pl br lo c ct pr pt cm bf bt := mhl_up (i := 25) (Nat.le_of_ble_eq_true rfl)
theorem mu_147 {f : Nat → Int32} : am_up (mh g k v pl br lo c ct pr pt cm bf bt) 147 (.inr (2, 260, .inl f)) = mh g (k.1, va_up k.2.1 40 f, k.2.2) v pl br lo c ct pr pt cm bf bt := mhl_up (i := 26) (Nat.le_of_ble_eq_true rfl)
theorem mu_148 {f : Nat → Int32} : am_up (mh g k v pl br lo c ct pr pt cm bf bt) 148 (.inr (0, 260, .inl f)) = mh g (k.1, va_up k.2.1 41 f, k.2.2) v pl br lo c ct pr pt cm bf bt := mhl_up (i := 27) (Nat.le_of_ble_eq_true rfl)
theorem mu_149 {f : Nat → Int32} : am_up (mh g k v pl br lo c ct pr pt cm bf bt) 149 (.inr (0, 260, .inl f)) = mh g (k.1, va_up k.2.1 42 f, k.2.2) v pl br lo c ct pr pt cm bf bt := mhl_up (i := 28) (Nat.le_of_ble_eq_true rfl)
theorem mu_150 {f : Nat → Int32} : am_up (mh g k v pl br lo c ct pr pt cm bf bt) 150 (.inr (0, 260, .inl f)) = mh g (k.1, va_up k.2.1 43 f, k.2.2) v pl br lo c ct pr pt cm bf bt := mhl_up (i := 29) (Nat.le_of_ble_eq_true rfl)
theorem mu_151 {f : Nat → Int32} : am_up (mh g k v pl br lo c ct pr pt cm bf bt) 151 (.inr (0, 260, .inl f)) = mh g (k.1, va_up k.2.1 44 f, k.2.2) v pl br lo c ct pr pt cm bf bt := mhl_up (i := 30) (Nat.le_of_ble_eq_true rfl)
theorem mu_152 {f : Nat → Int32} : am_up (mh g k v pl br lo c ct pr pt cm bf bt) 152 (.inr (0, 840, .inl f)) = mh g (k.1, va_up k.2.1 46 f, k.2.2) v pl br lo c ct pr pt cm bf bt := mhl_up (i := 31) (Nat.le_of_ble_eq_true rfl)
theorem mu_153 {f : Nat → Int32} : am_up (mh g k v pl br lo c ct pr pt cm bf bt) 153 (.inr (0, 840, .inl f)) = mh g (k.1, va_up k.2.1 47 f, k.2.2) v pl br lo c ct pr pt cm bf bt := mhl_up (i := 32) (Nat.le_of_ble_eq_true rfl)
theorem mu_154 {f : Nat → Int32} : am_up (mh g k v pl br lo c ct pr pt cm bf bt) 154 (.inr (0, 64, .inl f)) = mh g (k.1, va_up k.2.1 48 f, k.2.2) v pl br lo c ct pr pt cm bf bt := mhl_up (i := 33) (Nat.le_of_ble_eq_true rfl)
theorem mu_155 {f : Nat → Int32} : am_up (mh g k v pl br lo c ct pr pt cm bf bt) 155 (.inr (0, 7, .inl f)) = mh g k f pl br lo c ct pr pt cm bf bt := mhl_up (i := 34) (Nat.le_of_ble_eq_true rfl)
theorem mu_156 {f : Nat → Int32} : am_up (mh g k v pl br lo c ct pr pt cm bf bt) 156 (.inr (0, 400, .inl f)) = mh g k v f br lo c ct pr pt cm bf bt := mhl_up (i := 35) (Nat.le_of_ble_eq_true rfl)
theorem mu_157 {f : Nat → Int32} : am_up (mh g k v pl br lo c ct pr pt cm bf bt) 157 (.inr (0, 10, .inl f)) = mh g (k.1, va_up k.2.1 53 f, k.2.2) v pl br lo c ct pr pt cm bf bt := mhl_up (i := 36) (Nat.le_of_ble_eq_true rfl)
theorem mu_158 {f : Nat → Int32} : am_up (mh g k v pl br lo c ct pr pt cm bf bt) 158 (.inr (0, 10, .inl f)) = mh g (k.1, va_up k.2.1 54 f, k.2.2) v pl br lo c ct pr pt cm bf bt := mhl_up (i := 37) (Nat.le_of_ble_eq_true rfl)
theorem mu_159 {f : Nat → Int32} : am_up (mh g k v pl br lo c ct pr pt cm bf bt) 159 (.inr (0, 385, .inl f)) = mh g k v pl br lo f ct pr pt cm bf bt := mhl_up (i := 38) (Nat.le_of_ble_eq_true rfl)
theorem mu_160 {f : Nat → Int32} : am_up (mh g k v pl br lo c ct pr pt cm bf bt) 160 (.inr (0, 385, .inl f)) = mh g k v pl br lo c f pr pt cm bf bt := mhl_up (i := 39) (Nat.le_of_ble_eq_true rfl)
theorem mu_161 {f : Nat → Int32} : am_up (mh g k v pl br lo c ct pr pt cm bf bt) 161 (.inr (0, 500, .inl f)) = mh g (k.1, va_up k.2.1 59 f, k.2.2) v pl br lo c ct pr pt cm bf bt := mhl_up (i := 40) (Nat.le_of_ble_eq_true rfl)
theorem mu_162 {f : Nat → Int32} : am_up (mh g k v pl br lo c ct pr pt cm bf bt) 162 (.inr (0, 9409, .inl f)) = mh g k v pl br lo c ct f pt cm bf bt := mhl_up (i := 41) (Nat.le_of_ble_eq_true rfl)
theorem mu_163 {f : Nat → Int32} : am_up (mh g k v pl br lo c ct pr pt cm bf bt) 163 (.inr (0, 9409, .inl f)) = mh g k v pl br lo c ct pr f cm bf bt := mhl_up (i := 42) (Nat.le_of_ble_eq_true rfl)
theorem mu_164 {f : Nat → Int32} : am_up (mh g k v pl br lo c ct pr pt cm bf bt) 164 (.inr (0, 2880, .inl f)) = mh g k v pl br lo c ct pr pt f bf bt := mhl_up (i := 43) (Nat.le_of_ble_eq_true rfl)
theorem mu_165 {f : Nat → Int32} : am_up (mh g k v pl br lo c ct pr pt cm bf bt) 165 (.inr (0, 5, .inl f)) = mh g (k.1, va_up k.2.1 64 f, k.2.2) v pl br lo c ct pr pt cm bf bt := mhl_up (i := 44) (Nat.le_of_ble_eq_true rfl)
theorem mu_166 {f : Nat → Int32} : am_up (mh g k v pl br lo c ct pr pt cm bf bt) 166 (.inr (0, 5, .inl f)) = mh g (k.1, va_up k.2.1 65 f, k.2.2) v pl br lo c ct pr pt cm bf bt := mhl_up (i := 45) (Nat.le_of_ble_eq_true rfl)
theorem mu_167 {f : Nat → Int32} : am_up (mh g k v pl br lo c ct pr pt cm bf bt) 167 (.inr (0, 3, .inl f)) = mh g k v pl br lo c ct pr pt cm f bt := mhl_up (i := 46) (Nat.le_of_ble_eq_true rfl)
theorem mu_168 {f : Nat → Int32} : am_up (mh g k v pl br lo c ct pr pt cm bf bt) 168 (.inr (0, 3, .inl f)) = mh g k v pl br lo c ct pr pt cm bf f := mhl_up (i := 47) (Nat.le_of_ble_eq_true rfl)
theorem mu_169 {f : Nat → Int32} : am_up (mh g k v pl br lo c ct pr pt cm bf bt) 169 (.inr (2, 3, .inl f)) = mh g (k.1, va_up k.2.1 68 f, k.2.2) v pl br lo c ct pr pt cm bf bt := mhl_up (i := 48) (Nat.le_of_ble_eq_true rfl)
theorem mu_170 {f : Nat → Int32} : am_up (mh g k v pl br lo c ct pr pt cm bf bt) 170 (.inr (0, 30, .inl f)) = mh g (k.1, va_up k.2.1 69 f, k.2.2) v pl br lo c ct pr pt cm bf bt := mhl_up (i := 49) (Nat.le_of_ble_eq_true rfl)
theorem mp_0 {x : Int32} : am_up (mh g k v pl br lo c ct pr pt cm bf bt) 121 (.inl (11, (mfs k br lo).set 0 (.int x))) = mh g (va_up k.1 0 x, k.2.1, k.2.2) v pl br lo c ct pr pt cm bf bt := mhl_up (i := 0) (Nat.le_of_ble_eq_true rfl)
theorem mp_2 {x : Int32} : am_up (mh g k v pl br lo c ct pr pt cm bf bt) 121 (.inl (11, (mfs k br lo).set 2 (.int x))) = mh g (va_up k.1 2 x, k.2.1, k.2.2) v pl br lo c ct pr pt cm bf bt := mhl_up (i := 0) (Nat.le_of_ble_eq_true rfl)
theorem mp_4 {x : Int32} : am_up (mh g k v pl br lo c ct pr pt cm bf bt) 121 (.inl (11, (mfs k br lo).set 4 (.int x))) = mh g (va_up k.1 4 x, k.2.1, k.2.2) v pl br lo c ct pr pt cm bf bt := mhl_up (i := 0) (Nat.le_of_ble_eq_true rfl)
theorem mp_10 {x : Int32} : am_up (mh g k v pl br lo c ct pr pt cm bf bt) 121 (.inl (11, (mfs k br lo).set 10 (.int x))) = mh g (va_up k.1 10 x, k.2.1, k.2.2) v pl br lo c ct pr pt cm bf bt := mhl_up (i := 0) (Nat.le_of_ble_eq_true rfl)
theorem mp_11 {x : Int32} : am_up (mh g k v pl br lo c ct pr pt cm bf bt) 121 (.inl (11, (mfs k br lo).set 11 (.int x))) = mh g (va_up k.1 11 x, k.2.1, k.2.2) v pl br lo c ct pr pt cm bf bt := mhl_up (i := 0) (Nat.le_of_ble_eq_true rfl)
theorem mp_12 {x : Int32} : am_up (mh g k v pl br lo c ct pr pt cm bf bt) 121 (.inl (11, (mfs k br lo).set 12 (.int x))) = mh g (va_up k.1 12 x, k.2.1, k.2.2) v pl br lo c ct pr pt cm bf bt := mhl_up (i := 0) (Nat.le_of_ble_eq_true rfl)
theorem mp_13 {x : Int32} : am_up (mh g k v pl br lo c ct pr pt cm bf bt) 121 (.inl (11, (mfs k br lo).set 13 (.int x))) = mh g (va_up k.1 13 x, k.2.1, k.2.2) v pl br lo c ct pr pt cm bf bt := mhl_up (i := 0) (Nat.le_of_ble_eq_true rfl)
theorem mp_14 {x : Int32} : am_up (mh g k v pl br lo c ct pr pt cm bf bt) 121 (.inl (11, (mfs k br lo).set 14 (.int x))) = mh g (va_up k.1 14 x, k.2.1, k.2.2) v pl br lo c ct pr pt cm bf bt := mhl_up (i := 0) (Nat.le_of_ble_eq_true rfl)
theorem mp_15 {x : Int32} : am_up (mh g k v pl br lo c ct pr pt cm bf bt) 121 (.inl (11, (mfs k br lo).set 15 (.int x))) = mh g (va_up k.1 15 x, k.2.1, k.2.2) v pl br lo c ct pr pt cm bf bt := mhl_up (i := 0) (Nat.le_of_ble_eq_true rfl)
theorem mp_16 {x : Int32} : am_up (mh g k v pl br lo c ct pr pt cm bf bt) 121 (.inl (11, (mfs k br lo).set 16 (.int x))) = mh g (va_up k.1 16 x, k.2.1, k.2.2) v pl br lo c ct pr pt cm bf bt := mhl_up (i := 0) (Nat.le_of_ble_eq_true rfl)
theorem mp_17 {x : Int32} : am_up (mh g k v pl br lo c ct pr pt cm bf bt) 121 (.inl (11, (mfs k br lo).set 17 (.int x))) = mh g (va_up k.1 17 x, k.2.1, k.2.2) v pl br lo c ct pr pt cm bf bt := mhl_up (i := 0) (Nat.le_of_ble_eq_true rfl)
theorem mp_18 {x : Int32} : am_up (mh g k v pl br lo c ct pr pt cm bf bt) 121 (.inl (11, (mfs k br lo).set 18 (.int x))) = mh g (va_up k.1 18 x, k.2.1, k.2.2) v pl br lo c ct pr pt cm bf bt := mhl_up (i := 0) (Nat.le_of_ble_eq_true rfl)
theorem mp_19 {x : Int32} : am_up (mh g k v pl br lo c ct pr pt cm bf bt) 121 (.inl (11, (mfs k br lo).set 19 (.int x))) = mh g (va_up k.1 19 x, k.2.1, k.2.2) v pl br lo c ct pr pt cm bf bt := mhl_up (i := 0) (Nat.le_of_ble_eq_true rfl)
theorem mp_20 {x : Int32} : am_up (mh g k v pl br lo c ct pr pt cm bf bt) 121 (.inl (11, (mfs k br lo).set 20 (.int x))) = mh g (va_up k.1 20 x, k.2.1, k.2.2) v pl br lo c ct pr pt cm bf bt := mhl_up (i := 0) (Nat.le_of_ble_eq_true rfl)
theorem mp_39 {x : Int32} : am_up (mh g k v pl br lo c ct pr pt cm bf bt) 121 (.inl (11, (mfs k br lo).set 39 (.int x))) = mh g (va_up k.1 39 x, k.2.1, k.2.2) v pl br lo c ct pr pt cm bf bt := mhl_up (i := 0) (Nat.le_of_ble_eq_true rfl)
theorem mp_45 {x : Int32} : am_up (mh g k v pl br lo c ct pr pt cm bf bt) 121 (.inl (11, (mfs k br lo).set 45 (.int x))) = mh g (va_up k.1 45 x, k.2.1, k.2.2) v pl br lo c ct pr pt cm bf bt := mhl_up (i := 0) (Nat.le_of_ble_eq_true rfl)
theorem mp_49 {x : Int32} : am_up (mh g k v pl br lo c ct pr pt cm bf bt) 121 (.inl (11, (mfs k br lo).set 49 (.int x))) = mh g (va_up k.1 49 x, k.2.1, k.2.2) v pl br lo c ct pr pt cm bf bt := mhl_up (i := 0) (Nat.le_of_ble_eq_true rfl)
theorem mp_52 {x : Int32} : am_up (mh g k v pl br lo c ct pr pt cm bf bt) 121 (.inl (11, (mfs k br lo).set 52 (.int x))) = mh g k v pl x lo c ct pr pt cm bf bt := mhl_up (i := 0) (Nat.le_of_ble_eq_true rfl)
theorem mp_55 {x : Int32} : am_up (mh g k v pl br lo c ct pr pt cm bf bt) 121 (.inl (11, (mfs k br lo).set 55 (.int x))) = mh g k v pl br x c ct pr pt cm bf bt := mhl_up (i := 0) (Nat.le_of_ble_eq_true rfl)
theorem mp_58 {x : Int32} : am_up (mh g k v pl br lo c ct pr pt cm bf bt) 121 (.inl (11, (mfs k br lo).set 58 (.int x))) = mh g (va_up k.1 58 x, k.2.1, k.2.2) v pl br lo c ct pr pt cm bf bt := mhl_up (i := 0) (Nat.le_of_ble_eq_true rfl)
theorem mp_63 {x : Int32} : am_up (mh g k v pl br lo c ct pr pt cm bf bt) 121 (.inl (11, (mfs k br lo).set 63 (.int x))) = mh g (va_up k.1 63 x, k.2.1, k.2.2) v pl br lo c ct pr pt cm bf bt := mhl_up (i := 0) (Nat.le_of_ble_eq_true rfl)
end MH
section MR
variable {d L M pc nx a b : Nat} {ls ls' : List (Option Value)} {st : List Value} {h h' : am_H} {Q : Option Value → am_H → Prop}
theorem aw_iastU {q k n : Nat} {j x : Int32} {f : Nat → Int32} {r : List Value} (hf : am_at (am_P M).2.2.2 pc = some (.iastore, nx, a, b)) (hc : h.2.2 q = .inr (0, n, .inl f)) (hj : j = nI k) (hk : k < n) (hn : n < 2147483648) (h8 : 8 ≤ q) (hu : am_up h q (.inr (0, n, .inl (upd f k x))) = h') (kk : AW am_P d L M nx ls r h' Q) : AW am_P d L M pc ls (.int x :: .int j :: .ref q :: r) h Q := by
  subst hu
  exact aw_iast hf hc hj hk hn h8 kk
theorem aw_bastU {q k n : Nat} {j x : Int32} {f : Nat → Int32} {r : List Value} (hf : am_at (am_P M).2.2.2 pc = some (.bastore, nx, a, b)) (hc : h.2.2 q = .inr (a, n, .inl f)) (hj : j = nI k) (hk : k < n) (hn : n < 2147483648) (h8 : 8 ≤ q) (hu : am_up h q (.inr (a, n, .inl (upd f k (vp_nar (bif Nat.beq a 1 then .byte else .boolean) x)))) = h') (kk : AW am_P d L M nx ls r h' Q) : AW am_P d L M pc ls (.int x :: .int j :: .ref q :: r) h Q := by
  subst hu
  exact aw_bast hf hc hj hk hn h8 kk
theorem aw_lastU {q k n : Nat} {j : Int32} {x : Int64} {f : Nat → Int64} {r : List Value} (hf : am_at (am_P M).2.2.2 pc = some (.lastore, nx, a, b)) (hc : h.2.2 q = .inr (3, n, .inr (.inl f))) (hj : j = nI k) (hk : k < n) (hn : n < 2147483648) (h8 : 8 ≤ q) (hu : am_up h q (.inr (3, n, .inr (.inl (vp_updL f k x)))) = h') (kk : AW am_P d L M nx ls r h' Q) : AW am_P d L M pc ls (.long x :: .int j :: .ref q :: r) h Q := by
  subst hu
  exact aw_last hf hc hj hk hn h8 kk
theorem aw_putfU {idx q : Nat} {fs : List Value} {v : Value} {r : List Value} (hf : am_at (am_P M).2.2.2 pc = some (.putfield idx, nx, a, b)) (hc : h.2.2 q = .inl (a, fs)) (hl : Nat.blt (b / 8) fs.length = true) (hft : am_fit (b % 4) v = true) (h8 : 8 ≤ q) (hu : am_up h q (.inl (a, fs.set (b / 8) v)) = h') (k : AW am_P d L M nx ls r h' Q) : AW am_P d L M pc ls (v :: .ref q :: r) h Q := by
  subst hu
  exact aw_putf hf hc hl hft rfl h8 k
theorem aw_ialdE {q k n : Nat} {j y : Int32} {f : Nat → Int32} {r : List Value} (hf : am_at (am_P M).2.2.2 pc = some (.iaload, nx, a, b)) (hc : h.2.2 q = .inr (0, n, .inl f)) (hj : j = nI k) (hk : k < n) (hn : n < 2147483648) (hv : f k = y) (kk : AW am_P d L M nx ls (.int y :: r) h Q) : AW am_P d L M pc ls (.int j :: .ref q :: r) h Q := by
  subst hv
  exact aw_iald hf hc hj hk hn kk
theorem aw_getfE {idx q : Nat} {fs : List Value} {v v' : Value} {r : List Value} (hf : am_at (am_P M).2.2.2 pc = some (.getfield idx, nx, a, b)) (hc : h.2.2 q = .inl (a, fs)) (hv : fs[b]? = some v) (he : v = v') (k : AW am_P d L M nx ls (v' :: r) h Q) : AW am_P d L M pc ls (.ref q :: r) h Q := by
  subst he
  exact aw_getf hf hc hv k
end MR
