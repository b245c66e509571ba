/-! ===== the reference's reader: tellRow, its loops ===== -/
theorem l27d {c n : Nat} (hc : c < 27) (h : n * 27 + c < 1000000000000) : Int64.ofNat (n * 27 + c) / Int64.ofNat 27 = Int64.ofNat n := by
  rw [← Int64.ofNat_div (by omega) (by decide)]
  congr 1
  omega
theorem l27m {c n : Nat} (hc : c < 27) (h : n * 27 + c < 1000000000000) : Int64.ofNat (n * 27 + c) - Int64.ofNat (n * 27 + c) / Int64.ofNat 27 * Int64.ofNat 27 = Int64.ofNat c := by
  rw [l27d hc h, ← Int64.ofNat_mul, ← Int64.ofNat_sub _ _ (by omega)]
  congr 1
  omega
theorem l27i : ∀ c, c < 27 → (Int64.ofNat c).toInt32 = nI c := by decide +kernel
theorem l27p {n : Nat} (h : 0 < n) (h2 : n < 1000000000000) : ¬ Int64.ofNat n ≤ Int64.ofNat 0 := by
  rw [Int64.ofNat_le_iff_le (by omega) (by decide)]
  omega
theorem n27_lt {l : List Nat} (h : ∀ c ∈ l, 1 ≤ c ∧ c < 27) (hl : l.length ≤ 8) : nr 27 l < 1000000000000 := by
  have b1 := nr_lt (b := 27) (by decide) l (fun c hc => (h c hc).2)
  have p1 : 27 ^ l.length ≤ 27 ^ 8 := Nat.pow_le_pow_right (by decide) hl
  have p2 : (27 : Nat) ^ 8 = 282429536481 := by decide
  omega
def mn1 : Nat → Int32
  | 0 => -1
  | n + 1 => nI n
theorem mn1_d : ∀ n, nI n + (-1) = mn1 n
  | 0 => by decide
  | n + 1 => by show nI (n + 1) + (-1) = nI n; rw [← nI_add, Int32.add_assoc, show nI 1 + (-1) = 0 by decide, Int32.add_zero]
/-- what the letters of a row leave -/
def KRo (b hi : Nat) (k k' : Mk) : Prop := (∀ n, ¬ (n = 11 ∨ (13 ≤ n ∧ n ≤ 16)) → k'.1 n = k.1 n) ∧ (∀ n, ¬ n = 24 → k'.2.1 n = k.2.1 n) ∧ (∀ i, i < b ∨ hi ≤ i → k'.2.1 24 i = k.2.1 24 i) ∧ k'.2.2 = k.2.2
theorem KM.ro {b hi : Nat} {k k' : Mk} (h : KM k k') : KRo b hi k k' := ⟨h.1, fun n _ => by rw [h.2], fun i _ => by rw [h.2], by rw [h.2]⟩
theorem KRo.tr {b hi h1 : Nat} {k k1 k2 : Mk} (h : KRo b hi k k1) (h' : KRo b h1 k1 k2) (hl : h1 ≤ hi) : KRo b hi k k2 := ⟨fun n hn => (h'.1 n hn).trans (h.1 n hn), fun n hn => (h'.2.1 n hn).trans (h.2.1 n hn), fun i a => (h'.2.2.1 i (by omega)).trans (h.2.2.1 i a), h'.2.2.2.trans h.2.2.2⟩
theorem KRo.kp {b hi : Nat} {k k' : Mk} (h : KRo b hi k k') : KP k k' := ⟨fun n hn => h.1 n (by omega), fun n hn => h.2.1 n (by omega), fun n _ => by rw [h.2.2.2]⟩
section C1
variable {g : am_H} {k : Mk} {v pl : Nat → Int32} {br lo : Int32} {c ct pr pt cm bf bt : Nat → Int32}
variable {Y : Tk} {s : Ps}
theorem c_X11_sortBy {Q : Option Value → am_H → Prop} {h : am_H} {c : Nat} (hc : c < 27) (q : Q (some (.int (soL c))) h) : AC am_P 0 0 208 [.int (nI (96 + c))] h Q := by
  refine AC.of (ls := [_]) rfl ?_
  have hh : c = 0 ∨ c = 1 ∨ c = 2 ∨ c = 3 ∨ c = 4 ∨ c = 5 ∨ c = 6 ∨ c = 7 ∨ c = 8 ∨ c = 9 ∨ c = 10 ∨ c = 11 ∨ c = 12 ∨ c = 13 ∨ c = 14 ∨ c = 15 ∨ c = 16 ∨ c = 17 ∨ c = 18 ∨ c = 19 ∨ c = 20 ∨ c = 21 ∨ c = 22 ∨ c = 23 ∨ c = 24 ∨ c = 25 ∨ c = 26 := by omega
  rcases hh with rfl | rfl | rfl | rfl | rfl | rfl | rfl | rfl | rfl | rfl | rfl | rfl | rfl | rfl | rfl | rfl | rfl | rfl | rfl | rfl | rfl | rfl | rfl | rfl | rfl | rfl | rfl
  · skip
    refine aw rfl rfl ?_
    refine aw_ts (z := 96) (tgt := 115) rfl (by decide) (by decide) ?_
    refine aw_c (v := -1) rfl (by decide) ?_
    exact aw_iret rfl rfl q
  · skip
    refine aw rfl rfl ?_
    refine aw_ts (z := 97) (tgt := 115) rfl (by decide) (by decide) ?_
    refine aw_c (v := -1) rfl (by decide) ?_
    exact aw_iret rfl rfl q
  · skip
    refine aw rfl rfl ?_
    refine aw_ts (z := 98) (tgt := 115) rfl (by decide) (by decide) ?_
    refine aw_c (v := -1) rfl (by decide) ?_
    exact aw_iret rfl rfl q
  · skip
    refine aw rfl rfl ?_
    refine aw_ts (z := 99) (tgt := 102) rfl (by decide) (by decide) ?_
    refine aw_c (v := nI 1) rfl (by decide) ?_
    exact aw_iret rfl rfl q
  · skip
    refine aw rfl rfl ?_
    refine aw_ts (z := 100) (tgt := 115) rfl (by decide) (by decide) ?_
    refine aw_c (v := -1) rfl (by decide) ?_
    exact aw_iret rfl rfl q
  · skip
    refine aw rfl rfl ?_
    refine aw_ts (z := 101) (tgt := 115) rfl (by decide) (by decide) ?_
    refine aw_c (v := -1) rfl (by decide) ?_
    exact aw_iret rfl rfl q
  · skip
    refine aw rfl rfl ?_
    refine aw_ts (z := 102) (tgt := 115) rfl (by decide) (by decide) ?_
    refine aw_c (v := -1) rfl (by decide) ?_
    exact aw_iret rfl rfl q
  · skip
    refine aw rfl rfl ?_
    refine aw_ts (z := 103) (tgt := 108) rfl (by decide) (by decide) ?_
    refine aw_c (v := nI 4) rfl (by decide) ?_
    exact aw_iret rfl rfl q
  · skip
    refine aw rfl rfl ?_
    refine aw_ts (z := 104) (tgt := 112) rfl (by decide) (by decide) ?_
    refine aw_c (v := nI 6) rfl (by decide) ?_
    exact aw_iret rfl rfl q
  · skip
    refine aw rfl rfl ?_
    refine aw_ts (z := 105) (tgt := 115) rfl (by decide) (by decide) ?_
    refine aw_c (v := -1) rfl (by decide) ?_
    exact aw_iret rfl rfl q
  · skip
    refine aw rfl rfl ?_
    refine aw_ts (z := 106) (tgt := 115) rfl (by decide) (by decide) ?_
    refine aw_c (v := -1) rfl (by decide) ?_
    exact aw_iret rfl rfl q
  · skip
    refine aw rfl rfl ?_
    refine aw_ts (z := 107) (tgt := 115) rfl (by decide) (by decide) ?_
    refine aw_c (v := -1) rfl (by decide) ?_
    exact aw_iret rfl rfl q
  · skip
    refine aw rfl rfl ?_
    refine aw_ts (z := 108) (tgt := 115) rfl (by decide) (by decide) ?_
    refine aw_c (v := -1) rfl (by decide) ?_
    exact aw_iret rfl rfl q
  · skip
    refine aw rfl rfl ?_
    refine aw_ts (z := 109) (tgt := 115) rfl (by decide) (by decide) ?_
    refine aw_c (v := -1) rfl (by decide) ?_
    exact aw_iret rfl rfl q
  · skip
    refine aw rfl rfl ?_
    refine aw_ts (z := 110) (tgt := 115) rfl (by decide) (by decide) ?_
    refine aw_c (v := -1) rfl (by decide) ?_
    exact aw_iret rfl rfl q
  · skip
    refine aw rfl rfl ?_
    refine aw_ts (z := 111) (tgt := 115) rfl (by decide) (by decide) ?_
    refine aw_c (v := -1) rfl (by decide) ?_
    exact aw_iret rfl rfl q
  · skip
    refine aw rfl rfl ?_
    refine aw_ts (z := 112) (tgt := 106) rfl (by decide) (by decide) ?_
    refine aw_c (v := nI 3) rfl (by decide) ?_
    exact aw_iret rfl rfl q
  · skip
    refine aw rfl rfl ?_
    refine aw_ts (z := 113) (tgt := 115) rfl (by decide) (by decide) ?_
    refine aw_c (v := -1) rfl (by decide) ?_
    exact aw_iret rfl rfl q
  · skip
    refine aw rfl rfl ?_
    refine aw_ts (z := 114) (tgt := 115) rfl (by decide) (by decide) ?_
    refine aw_c (v := -1) rfl (by decide) ?_
    exact aw_iret rfl rfl q
  · skip
    refine aw rfl rfl ?_
    refine aw_ts (z := 115) (tgt := 104) rfl (by decide) (by decide) ?_
    refine aw_c (v := nI 2) rfl (by decide) ?_
    exact aw_iret rfl rfl q
  · skip
    refine aw rfl rfl ?_
    refine aw_ts (z := 116) (tgt := 100) rfl (by decide) (by decide) ?_
    refine aw_c (v := nI 0) rfl (by decide) ?_
    exact aw_iret rfl rfl q
  · skip
    refine aw rfl rfl ?_
    refine aw_ts (z := 117) (tgt := 115) rfl (by decide) (by decide) ?_
    refine aw_c (v := -1) rfl (by decide) ?_
    exact aw_iret rfl rfl q
  · skip
    refine aw rfl rfl ?_
    refine aw_ts (z := 118) (tgt := 115) rfl (by decide) (by decide) ?_
    refine aw_c (v := -1) rfl (by decide) ?_
    exact aw_iret rfl rfl q
  · skip
    refine aw rfl rfl ?_
    refine aw_ts (z := 119) (tgt := 110) rfl (by decide) (by decide) ?_
    refine aw_c (v := nI 5) rfl (by decide) ?_
    exact aw_iret rfl rfl q
  · skip
    refine aw rfl rfl ?_
    refine aw_ts (z := 120) (tgt := 115) rfl (by decide) (by decide) ?_
    refine aw_c (v := -1) rfl (by decide) ?_
    exact aw_iret rfl rfl q
  · skip
    refine aw rfl rfl ?_
    refine aw_ts (z := 121) (tgt := 115) rfl (by decide) (by decide) ?_
    refine aw_c (v := -1) rfl (by decide) ?_
    exact aw_iret rfl rfl q
  · skip
    refine aw rfl rfl ?_
    refine aw_ts (z := 122) (tgt := 115) rfl (by decide) (by decide) ?_
    refine aw_c (v := -1) rfl (by decide) ?_
    exact aw_iret rfl rfl q
theorem l_mrc {Q : Option Value → am_H → Prop} {k : Mk} {tk : Nat} {X : Int64} : ∀ (l : List Nat) (n : Nat) (_ : ∀ c ∈ l, 1 ≤ c ∧ c < 27) (_ : l.length ≤ 8) (_ : n + l.length ≤ 8) (_ : AW am_P 3 62 204 55 [some (.ref 121), some (.int (nI tk)), some (.long X), none, some (.int (nI (n + l.length))), some (.long (Int64.ofNat 0)), none] [] (mh g k v pl br lo c ct pr pt cm bf bt) Q), AW am_P 3 62 204 34 [some (.ref 121), some (.int (nI tk)), some (.long X), none, some (.int (nI n)), some (.long (Int64.ofNat (nr 27 l))), none] [] (mh g k v pl br lo c ct pr pt cm bf bt) Q := by
  intro l
  induction l with
  | nil =>
    intro n hl h8 hn q
    refine aw rfl rfl ?_
    refine aw rfl rfl ?_
    refine aw rfl rfl ?_
    refine aw_le rfl (fun c38 => ?_) (fun c38 => False.elim (c38 ((lg_cmp_le _ _).mpr (Int64.le_refl _))))
    exact q
  | cons c r ih =>
    intro n hl h8 hn q
    have hL : (c :: r).length = r.length + 1 := rfl
    have hc := hl c (List.mem_cons_self ..)
    have hlt : nr 27 r * 27 + c < 1000000000000 := n27_lt hl h8
    refine aw rfl rfl ?_
    refine aw rfl rfl ?_
    refine aw rfl rfl ?_
    refine aw_le rfl (fun c38 => absurd ((lg_cmp_le _ _).mp c38) (l27p (n := nr 27 r * 27 + c) (by omega) hlt)) (fun c38 => ?_)
    refine aw_incn (c := 1) (ls' := [_, _, _, _, _, _, _]) rfl rfl (by decide) rfl ?_
    refine aw rfl rfl ?_
    refine aw rfl rfl ?_
    refine aw_ldiv rfl (by decide) ?_
    refine aw_lst (ls' := [_, _, _, _, _, _, _]) rfl rfl ?_
    refine aw rfl rfl ?_
    rw [show nr 27 (c :: r) = nr 27 r * 27 + c from rfl, l27d hc.2 hlt]
    refine ih (n + 1) (fun c h => hl c (List.mem_cons_of_mem _ h)) (by omega) (by omega) ?_
    rw [show n + 1 + r.length = n + (c :: r).length by omega]
    exact q
end C1
