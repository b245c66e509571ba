/-! ===== heaps ===== -/
theorem am_up_up {h : am_H} {a : Nat} {c d : am_C} : am_up (am_up h a c) a d = am_up h a d := by
  simp only [am_up]
  congr 2
  funext j
  by_cases e : j = a
  · simp [va_up, e]
  · simp [va_up, e]
abbrev am_ints (n : Nat) (f : Nat → Int32) : am_C := .inr (0, n, .inl f)
/-- a switch: its number z is known *-/
def am_tg (a : Nat) (lo hi : Int) (offs : Array Int) (pc : Nat) (z : Int) : Option Nat := if z < lo ∨ hi < z then some a else match offs[(z - lo).toNat]? with
  | some off => if (pc : Int) + off < 0 then none else some ((pc : Int) + off).toNat
  | none => none
theorem aw_ts {d L M pc nx a b tgt : Nat} {ls : List (Option Value)} {h : am_H} {Q : Option Value → am_H → Prop} {dflt lo hi z : Int} {offs : Array Int} {x : Int32} {r : List Value} (hf : am_at (am_P M).2.2.2 pc = some (.tableswitch dflt lo hi offs, nx, a, b)) (hz : x.toInt = z) (ht : am_tg a lo hi offs pc z = some tgt) (k : AW am_P d L M tgt ls r h Q) : AW am_P d L M pc ls (.int x :: r) h Q := by
  subst hz
  refine aw hf ?_ k
  show (if x.toInt < lo ∨ hi < x.toInt then some (.inl (a, ls, r, h)) else match offs[(x.toInt - lo).toNat]? with
      | some off => if (pc : Int) + off < 0 then none else some (.inl (((pc : Int) + off).toNat, ls, r, h))
      | none => (none : am_O)) = _
  unfold am_tg at ht
  split
  · rename_i hc
    rw [if_pos hc] at ht
    cases ht
    rfl
  · rename_i hc
    rw [if_neg hc] at ht
    split at ht
    · rename_i off ho
      split at ht
      · cases ht
      · rename_i hn
        rw [if_neg hn]
        cases ht
        rfl
    · cases ht
/-! ===== Laws: facts and values ===== -/
def am_laws (p : Nat) (z t w : Int32) : am_C := .inl (1, [.ref (p + 8), .int z, .ref (p + 9), .int t, .ref (p + 10), .int w, .ref (p + 11), .ref (p + 12)])
theorem c_X1_setWhere {h : am_H} {Q : Option Value → am_H → Prop} {p : Nat} {z t w : Int32} {f : Nat → Int32} (h8 : 8 ≤ p) (hl : h.2.2 (p + 7) = .inl (1, [.ref (p + 8), .int z, .ref (p + 9), .int t, .ref (p + 10), .int w, .ref (p + 11), .ref (p + 12)])) (hf : h.2.2 (p + 11) = am_ints 7 f) {x0 x1 x2 x3 : Int32} (q : Q none (am_up h (p + 11) (am_ints 7 (upd (upd (upd (upd f 0 x0) 1 x1) 2 x2) 3 x3)))) : AC am_P 0 0 22 [.ref (p + 7), .int x0, .int x1, .int x2, .int x3] h Q := by
  refine AC.of (ls := [_, _, _, _, _]) rfl ?_
  refine aw rfl rfl ?_
  refine aw_getf rfl (by repeat first | assumption | exact hg_eq | refine hg_ne (by first | assumption | omega) ?_) rfl ?_
  refine aw_c (v := nI 0) rfl (by decide) ?_
  refine aw rfl rfl ?_
  refine aw_iast (k := 0) rfl (by repeat first | assumption | exact hg_eq | refine hg_ne (by first | assumption | omega) ?_) rfl (by decide) (by decide) (by omega) ?_
  refine aw rfl rfl ?_
  refine aw_getf rfl (by repeat first | assumption | exact hg_eq | refine hg_ne (by first | assumption | omega) ?_) rfl ?_
  refine aw_c (v := nI 1) rfl (by decide) ?_
  refine aw rfl rfl ?_
  refine aw_iast (k := 1) rfl (by repeat first | assumption | exact hg_eq | refine hg_ne (by first | assumption | omega) ?_) rfl (by decide) (by decide) (by omega) ?_
  refine aw rfl rfl ?_
  refine aw_getf rfl (by repeat first | assumption | exact hg_eq | refine hg_ne (by first | assumption | omega) ?_) rfl ?_
  refine aw_c (v := nI 2) rfl (by decide) ?_
  refine aw rfl rfl ?_
  refine aw_iast (k := 2) rfl (by repeat first | assumption | exact hg_eq | refine hg_ne (by first | assumption | omega) ?_) rfl (by decide) (by decide) (by omega) ?_
  refine aw rfl rfl ?_
  refine aw_getf rfl (by repeat first | assumption | exact hg_eq | refine hg_ne (by first | assumption | omega) ?_) rfl ?_
  refine aw_c (v := nI 3) rfl (by decide) ?_
  refine aw rfl rfl ?_
  refine aw_iast (k := 3) rfl (by repeat first | assumption | exact hg_eq | refine hg_ne (by first | assumption | omega) ?_) rfl (by decide) (by decide) (by omega) ?_
  exact aw_vret rfl rfl (by simp only [am_up_up]; exact q)
theorem c_X1_setHow {h : am_H} {Q : Option Value → am_H → Prop} {p : Nat} {z t w : Int32} {f : Nat → Int32} (h8 : 8 ≤ p) (hl : h.2.2 (p + 7) = .inl (1, [.ref (p + 8), .int z, .ref (p + 9), .int t, .ref (p + 10), .int w, .ref (p + 11), .ref (p + 12)])) (hf : h.2.2 (p + 11) = am_ints 7 f) {x0 x1 x2 : Int32} (q : Q none (am_up h (p + 11) (am_ints 7 (upd (upd (upd f 4 x0) 5 x1) 6 x2)))) : AC am_P 0 0 23 [.ref (p + 7), .int x0, .int x1, .int x2] h Q := by
  refine AC.of (ls := [_, _, _, _]) rfl ?_
  refine aw rfl rfl ?_
  refine aw_getf rfl (by repeat first | assumption | exact hg_eq | refine hg_ne (by first | assumption | omega) ?_) rfl ?_
  refine aw_c (v := nI 4) rfl (by decide) ?_
  refine aw rfl rfl ?_
  refine aw_iast (k := 4) rfl (by repeat first | assumption | exact hg_eq | refine hg_ne (by first | assumption | omega) ?_) rfl (by decide) (by decide) (by omega) ?_
  refine aw rfl rfl ?_
  refine aw_getf rfl (by repeat first | assumption | exact hg_eq | refine hg_ne (by first | assumption | omega) ?_) rfl ?_
  refine aw_c (v := nI 5) rfl (by decide) ?_
  refine aw rfl rfl ?_
  refine aw_iast (k := 5) rfl (by repeat first | assumption | exact hg_eq | refine hg_ne (by first | assumption | omega) ?_) rfl (by decide) (by decide) (by omega) ?_
  refine aw rfl rfl ?_
  refine aw_getf rfl (by repeat first | assumption | exact hg_eq | refine hg_ne (by first | assumption | omega) ?_) rfl ?_
  refine aw_c (v := nI 6) rfl (by decide) ?_
  refine aw rfl rfl ?_
  refine aw_iast (k := 6) rfl (by repeat first | assumption | exact hg_eq | refine hg_ne (by first | assumption | omega) ?_) rfl (by decide) (by decide) (by omega) ?_
  exact aw_vret rfl rfl (by simp only [am_up_up]; exact q)
def n_fact (f : Nat → Int32) (x : Int32) : Int32 := if x < 0 ∨ nI 7 ≤ x then nI 0 else f x.toNatClampNeg
theorem c_X1_factAt {h : am_H} {Q : Option Value → am_H → Prop} {p : Nat} {z t w : Int32} {f : Nat → Int32} (h8 : 8 ≤ p) (hl : h.2.2 (p + 7) = .inl (1, [.ref (p + 8), .int z, .ref (p + 9), .int t, .ref (p + 10), .int w, .ref (p + 11), .ref (p + 12)])) (hf : h.2.2 (p + 11) = am_ints 7 f) {x : Int32} (q : Q (some (.int (n_fact f x))) h) : AC am_P 0 0 25 [.ref (p + 7), .int x] h Q := by
  refine AC.of (ls := [_, _]) rfl ?_
  refine aw rfl rfl ?_
  refine aw_lt rfl (fun c1 => ?_) (fun c1 => ?_)
  · refine aw_c (v := nI 0) rfl (by decide) ?_
    exact aw_iret rfl rfl (by rw [n_fact, if_pos (Or.inl c1)] at q; exact q)
  · refine aw rfl rfl ?_
    refine aw rfl rfl ?_
    refine aw_getf rfl (by repeat first | assumption | exact hg_eq | refine hg_ne (by first | assumption | omega) ?_) rfl ?_
    refine aw_alen rfl (by repeat first | assumption | exact hg_eq | refine hg_ne (by first | assumption | omega) ?_) rfl ?_
    refine aw_ige rfl (fun c10 => ?_) (fun c10 => ?_)
    · refine aw_c (v := nI 0) rfl (by decide) ?_
      exact aw_iret rfl rfl (by rw [n_fact, if_pos (Or.inr c10)] at q; exact q)
    · refine aw rfl rfl ?_
      refine aw_getf rfl (by repeat first | assumption | exact hg_eq | refine hg_ne (by first | assumption | omega) ?_) rfl ?_
      refine aw rfl rfl ?_
      refine aw_iald (k := x.toNatClampNeg) rfl (by repeat first | assumption | exact hg_eq | refine hg_ne (by first | assumption | omega) ?_) (by obtain ⟨j, hj, e⟩ := pk_mu c1 c10 (by decide); rw [e.1, nI_clamp (by omega)]) (by obtain ⟨j, hj, e⟩ := pk_mu c1 c10 (by decide); rw [e.1, nI_clamp (by omega)]; exact hj) (by decide) ?_
      refine aw rfl rfl ?_
      exact aw_iret rfl rfl (by rw [n_fact, if_neg (fun z => z.elim c1 c10)] at q; exact q)
def n_join (s a b : Int32) : Int32 := if s = nI 2 then a + b else if s = nI 3 then a - b else if s = nI 4 then a * b else if b = 0 then nI 0 else a / b
theorem c_X1_joined {h : am_H} {Q : Option Value → am_H → Prop} {s a b : Int32} (q : Q (some (.int (n_join s a b))) h) : AC am_P 0 0 26 [.int s, .int a, .int b] h Q := by
  refine AC.of (ls := [_, _, _]) rfl ?_
  refine aw rfl rfl ?_
  unfold n_join at q
  by_cases e2 : s = nI 2
  · subst e2
    refine aw_ts (z := 2) (tgt := 28) rfl (by decide) (by decide) ?_
    refine aw rfl rfl ?_
    refine aw rfl rfl ?_
    refine aw rfl rfl ?_
    exact aw_iret rfl rfl (by rw [if_pos rfl] at q; exact q)
  rw [if_neg e2] at q
  by_cases e3 : s = nI 3
  · subst e3
    refine aw_ts (z := 3) (tgt := 32) rfl (by decide) (by decide) ?_
    refine aw rfl rfl ?_
    refine aw rfl rfl ?_
    refine aw rfl rfl ?_
    exact aw_iret rfl rfl (by rw [if_pos rfl] at q; exact q)
  rw [if_neg e3] at q
  by_cases e4 : s = nI 4
  · subst e4
    refine aw_ts (z := 4) (tgt := 36) rfl (by decide) (by decide) ?_
    refine aw rfl rfl ?_
    refine aw rfl rfl ?_
    refine aw rfl rfl ?_
    exact aw_iret rfl rfl (by rw [if_pos rfl] at q; exact q)
  rw [if_neg e4] at q
  refine aw_ts (tgt := 40) rfl rfl ?_ ?_
  · unfold am_tg
    rw [if_pos]
    rcases Int.lt_or_le s.toInt 2 with g | g
    · exact Or.inl g
    · right
      rcases Int.lt_or_le 4 s.toInt with g2 | g2
      · exact g2
      · exfalso
        rcases (show s.toInt = 2 ∨ s.toInt = 3 ∨ s.toInt = 4 by omega) with g3 | g3 | g3
        · exact e2 (Int32.toInt_inj.mp (g3.trans (by decide)))
        · exact e3 (Int32.toInt_inj.mp (g3.trans (by decide)))
        · exact e4 (Int32.toInt_inj.mp (g3.trans (by decide)))
  refine aw rfl rfl ?_
  refine aw_ne rfl (fun c => ?_) (fun c => ?_)
  · refine aw rfl rfl ?_
    refine aw rfl rfl ?_
    refine aw_idiv rfl c ?_
    exact aw_iret rfl rfl (by rw [if_neg c] at q; exact q)
  · refine aw_c (v := nI 0) rfl (by decide) ?_
    refine aw rfl rfl ?_
    exact aw_iret rfl rfl (by rw [if_pos c] at q; exact q)

/-- the law's value: steps from i on, top numbers on the stack *-/
def n_vl (steps f : Nat → Int32) (size : Nat) : Nat → Nat → Nat → (Nat → Int32) → Int32 × (Nat → Int32)
  | 0, _, _, sk => (nI 0, sk)
  | n + 1, i, top, sk => if size ≤ i then (nI 0, sk) else
    if steps i &&& nI 7 = nI 7 then (sk 0, sk)
    else if steps i &&& nI 7 = 0 then (if 32 ≤ top then (nI 0, sk) else n_vl steps f size n (i + 1) (top + 1) (upd sk top (steps i >>> (nI 3 &&& 31))))
    else if steps i &&& nI 7 = nI 1 then (if 32 ≤ top then (nI 0, sk) else n_vl steps f size n (i + 1) (top + 1) (upd sk top (n_fact f (steps i >>> (nI 3 &&& 31)))))
    else if top < 2 then (nI 0, sk)
    else if steps i &&& nI 7 = nI 5 ∧ sk (top - 1) = 0 then (nI 0, sk)
    else if steps i &&& nI 7 = nI 6 then (if sk (top - 2) < sk (top - 1) then n_vl steps f size n (i + 1) (top - 2) sk else n_vl steps f size n ((if nI i < (steps i >>> (nI 3 &&& 31)) - nI 1 then (steps i >>> (nI 3 &&& 31)) - nI 1 else nI i).toNatClampNeg + 1) (top - 2) sk)
    else n_vl steps f size n (i + 1) (top - 1) (upd sk (top - 2) (n_join (steps i &&& nI 7) (sk (top - 2)) (sk (top - 1))))
theorem n_shr3 (w : Int32) : (w >>> (nI 3 &&& 31)).toInt < 268435456 := by
  have h1 := pk_shr w (nI 3 &&& 31) 3 (by decide)
  rw [h1]
  have h2 : w.toInt < 2147483648 := by have := Int32.toInt_lt w; omega
  rw [Int.shiftRight_eq_div_pow]
  omega
