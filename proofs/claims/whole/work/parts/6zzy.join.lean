/-! ===== both in one heap ===== -/
theorem am_nth_d {α : Type} : ∀ (l : List α) (i : Nat) (d d' : α), i < l.length → am_nth l i d = am_nth l i d' := by
  intro l
  induction l with
  | nil => intro i d d' h; exact absurd h (Nat.not_lt_zero i)
  | cons x t ih =>
    intro i d d' h
    cases i with
    | zero => rfl
    | succ i => exact ih i d d' (Nat.lt_of_succ_lt_succ h)
theorem am_nth_o {α : Type} : ∀ (l : List α) (i : Nat) (d : α), l.length ≤ i → am_nth l i d = d := by
  intro l
  induction l with
  | nil => intro i d _; rfl
  | cons x t ih =>
    intro i d h
    cases i with
    | zero => exact absurd h (Nat.not_succ_le_zero _)
    | succ i => exact ih i d (Nat.le_of_succ_le_succ h)
def onC (h : am_H) (T0 : Sd) (u0 : Ua) (T1 : Sd) (u1 : Ua) (K : Ck) (rf : Nat → Nat) : Prop := h = ch h T0 u0 T1 u1 K rf
def onM (h : am_H) (k : Mk) (v pl : Nat → Int32) (br lo : Int32) (c ct pr pt cm bf bt : Nat → Int32) : Prop := h = mh h k v pl br lo c ct pr pt cm bf bt
section J1
variable {h g g' : am_H} {T0 : Sd} {u0 : Ua} {T1 : Sd} {u1 : Ua} {K : Ck} {rf : Nat → Nat} {k : Mk} {v pl : Nat → Int32} {br lo : Int32} {c ct pr pt cm bf bt : Nat → Int32}
theorem hH_ext {h h' : am_H} (h1 : h.1 = h'.1) (h2 : h.2.1 = h'.2.1) (h3 : ∀ q, h.2.2 q = h'.2.2 q) : h = h' := by
  obtain ⟨a, b, f⟩ := h
  obtain ⟨a', b', f'⟩ := h'
  have e1 : a = a' := h1
  have e2 : b = b' := h2
  have e3 : f = f' := funext h3
  rw [e1, e2, e3]
theorem ch_lo {q : Nat} (hq : q < 8) : (ch g T0 u0 T1 u1 K rf).2.2 q = g.2.2 q := if_pos hq
theorem ch_hi {q : Nat} (hq : 121 ≤ q) : (ch g T0 u0 T1 u1 K rf).2.2 q = g.2.2 q := by
  show (if q < 8 then g.2.2 q else if q < 121 then am_nth (cl g T0 u0 T1 u1 K rf) (q - 8) am_nil else g.2.2 q) = _
  rw [if_neg (by omega), if_neg (by omega)]
theorem ch_mi {q : Nat} (h8 : 8 ≤ q) (hq : q < 121) : (ch g T0 u0 T1 u1 K rf).2.2 q = am_nth (cl g T0 u0 T1 u1 K rf) (q - 8) am_nil := by
  show (if q < 8 then g.2.2 q else if q < 121 then am_nth (cl g T0 u0 T1 u1 K rf) (q - 8) am_nil else g.2.2 q) = _
  rw [if_neg (by omega), if_pos hq]
theorem cl_cg (e : g'.2.2 103 = g.2.2 103) : cl g' T0 u0 T1 u1 K rf = cl g T0 u0 T1 u1 K rf := by unfold cl; rw [e]
theorem ch_103 : (ch g T0 u0 T1 u1 K rf).2.2 103 = g.2.2 103 := rfl
theorem mh_lo {q : Nat} (hq : q < 121) : (mh g k v pl br lo c ct pr pt cm bf bt).2.2 q = g.2.2 q := if_pos hq
theorem mh_mi {q : Nat} (hq : 121 ≤ q) : (mh g k v pl br lo c ct pr pt cm bf bt).2.2 q = am_nth (ml k v pl br lo c ct pr pt cm bf bt) (q - 121) (g.2.2 q) := if_neg (by omega)
theorem ml_len : (ml k v pl br lo c ct pr pt cm bf bt).length = 50 := rfl
theorem mh_hi {q : Nat} (hq : 171 ≤ q) : (mh g k v pl br lo c ct pr pt cm bf bt).2.2 q = g.2.2 q := by
  rw [mh_mi (by omega), am_nth_o _ _ _ (by rw [ml_len]; omega)]
theorem onC_ch : onC (ch g T0 u0 T1 u1 K rf) T0 u0 T1 u1 K rf := by
  refine hH_ext rfl rfl (fun q => ?_)
  by_cases h8 : q < 8
  · rw [ch_lo h8, ch_lo h8, ch_lo h8]
  · by_cases h1 : q < 121
    · rw [ch_mi (by omega) h1, ch_mi (by omega) h1, cl_cg ch_103]
    · rw [ch_hi (by omega), ch_hi (by omega), ch_hi (by omega)]
theorem onM_mh : onM (mh g k v pl br lo c ct pr pt cm bf bt) k v pl br lo c ct pr pt cm bf bt := by
  refine hH_ext rfl rfl (fun q => ?_)
  by_cases h1 : q < 121
  · rw [mh_lo h1, mh_lo h1, mh_lo h1]
  · by_cases h2 : q < 171
    · rw [mh_mi (by omega), mh_mi (by omega)]
      exact am_nth_d _ _ _ _ (by rw [ml_len]; omega)
    · rw [mh_hi (by omega), mh_hi (by omega), mh_hi (by omega)]
/-- the class's cells change, the reference's stay -/
theorem onM.ch (hM : onM h k v pl br lo c ct pr pt cm bf bt) (hg : ∀ q, q < 171 → q ≠ 103 → g'.2.2 q = h.2.2 q) : onM (ch g' T0 u0 T1 u1 K rf) k v pl br lo c ct pr pt cm bf bt := by
  refine hH_ext rfl rfl (fun q => ?_)
  by_cases h1 : q < 121
  · rw [mh_lo h1]
  · rw [mh_mi (by omega), ch_hi (by omega)]
    by_cases h2 : q < 171
    · rw [hg q h2 (by omega)]
      have e : h.2.2 q = (mh h k v pl br lo c ct pr pt cm bf bt).2.2 q := congrArg (fun z : am_H => z.2.2 q) hM
      rw [mh_mi (by omega)] at e
      exact e
    · rw [am_nth_o _ _ _ (by rw [ml_len]; omega)]
/-- the reference's cells change, the class's stay -/
theorem onC.mh (hC : onC h T0 u0 T1 u1 K rf) : onC (mh h k v pl br lo c ct pr pt cm bf bt) T0 u0 T1 u1 K rf := by
  refine hH_ext rfl rfl (fun q => ?_)
  by_cases h1 : q < 121
  · have e : h.2.2 q = (ch h T0 u0 T1 u1 K rf).2.2 q := congrArg (fun z : am_H => z.2.2 q) hC
    rw [mh_lo h1]
    by_cases h8 : q < 8
    · rw [ch_lo h8, mh_lo h1]
    · rw [ch_mi (by omega) h1, cl_cg (mh_lo (by decide)), ← ch_mi (by omega) h1]
      exact e
  · rw [ch_hi (by omega)]
theorem CS.cg {p : Nat} {T : Sd} {W : Nat → Lw} {S : Nat → Nat} {u td nt cc : Nat} {P Z : Nat → Nat → Nat} {TD : Nat → Nat} {hd : Nat → Bool} {tp : Nat → Int32} {pc : Int32} {u0' u1' : Ua} (hS : CS g T0 u0 T1 u1 K rf p T W S u P td TD hd Z nt tp pc cc) (h1 : g'.1 = g.1) (h2 : ∀ q, q = 1 ∨ q = 103 ∨ 171 ≤ q → g'.2.2 q = g.2.2 q) : CS g' T0 u0' T1 u1' K rf p T W S u P td TD hd Z nt tp pc cc := by
  obtain ⟨⟨a1, a2, a3, a4, a5, a6, a7, a8, a9, b1, b2, b3, b4⟩, c1, c2, ⟨d1, d2, d3, d4⟩, c4⟩ := hS
  refine ⟨⟨a1, a2, a3, a4, a5, a6, a7, a8, a9, ?_, b2, b3, b4⟩, c1, c2, ⟨by rw [h1]; exact d1, fun a ha q hq => ?_, d3, d4⟩, c4⟩
  · unfold am_six
    rw [h2 1 (by omega)]
    exact b1
  · obtain ⟨e1, e2, f, e3, e4⟩ := d2 a ha q hq
    exact ⟨e1, by rw [h1]; exact e2, f, by rw [h2 q (Or.inr e1)]; exact e3, e4⟩
end J1
/-- a run's state: the class's, the reference's, of one street; A, B: places, slots with the rows that are still to be made; n calls were made at most -/
def J (N : Nat) (f : Nat → Int32) (A B n : Nat) (h : am_H) : Prop := ∃ (T0 : Sd) (u0 : Ua) (T1 : Sd) (u1 : Ua) (K : Ck) (rf : Nat → Nat) (p : Nat) (k : Mk) (v pl : Nat → Int32) (br lo : Int32) (c ct pr pt cm bf bt : Nat → Int32) (T : Sd) (W : Nat → Lw) (S : Nat → Nat) (u : Nat) (P : Nat → Nat → Nat) (td : Nat) (TD : Nat → Nat) (hd : Nat → Bool) (Z : Nat → Nat → Nat) (nt : Nat) (tp : Nat → Int32) (pc : Int32) (cc : Nat), onC h T0 u0 T1 u1 K rf ∧ onM h k v pl br lo c ct pr pt cm bf bt ∧ CS h T0 u0 T1 u1 K rf p T W S u P td TD hd Z nt tp pc cc ∧ MS k T W S u P td TD hd Z nt tp pc cc ∧ (∀ j, j < nt → b8 (tp j)) ∧ (STr h ∧ h.2.2 0 = .inr (0, N, .inl f)) ∧ (h.1 + nn K.2.2.2.2 = A ∧ h.2.1 + 2400 * nn K.2.2.2.2 = B) ∧ cc ≤ n
/-- what the law reads: the script, two objects -/
def SK (N : Nat) (f : Nat → Int32) (h : am_H) : Prop := h.2.2 0 = .inr (0, N, .inl f) ∧ (∃ fs, h.2.2 8 = .inl (10, fs)) ∧ ∃ fs, h.2.2 121 = .inl (11, fs)
section J2
variable {N A B n : Nat} {f : Nat → Int32} {h g g' : am_H} {T0 : Sd} {u0 u0' : Ua} {T1 : Sd} {u1 u1' : Ua} {K K' : Ck} {rf rf' : Nat → Nat} {k k' : Mk} {v pl : Nat → Int32} {br lo : Int32} {c ct pr pt cm bf bt : Nat → Int32} {p : Nat} {T : Sd} {W : Nat → Lw} {S : Nat → Nat} {u td nt cc : Nat} {P Z : Nat → Nat → Nat} {TD : Nat → Nat} {hd : Nat → Bool} {tp : Nat → Int32} {pc : Int32}
theorem SK.of (hC : onC h T0 u0 T1 u1 K rf) (hM : onM h k v pl br lo c ct pr pt cm bf bt) (h0 : h.2.2 0 = .inr (0, N, .inl f)) : SK N f h := ⟨h0, ⟨_, (congrArg (fun z : am_H => z.2.2 8) hC).trans rfl⟩, ⟨_, (congrArg (fun z : am_H => z.2.2 121) hM).trans rfl⟩⟩
theorem J.sk (hJ : J N f A B n h) : SK N f h := by
  obtain ⟨T0, u0, T1, u1, K, rf, p, k, v, pl, br, lo, c, ct, pr, pt, cm, bf, bt, T, W, S, u, P, td, TD, hd, Z, nt, tp, pc, cc, hC, hM, hCS, hMS, hb, ⟨hst, h0⟩, hAB, hcc⟩ := hJ
  exact SK.of hC hM h0
theorem J.rm (hJ : J N f A B n h) : h.1 ≤ A ∧ h.2.1 ≤ B := by
  obtain ⟨T0, u0, T1, u1, K, rf, p, k, v, pl, br, lo, c, ct, pr, pt, cm, bf, bt, T, W, S, u, P, td, TD, hd, Z, nt, tp, pc, cc, hC, hM, hCS, hMS, hb, ⟨hst, h0⟩, ⟨hA, hB⟩, hcc⟩ := hJ
  exact ⟨by omega, by omega⟩
theorem J.lift {n' : Nat} (hJ : J N f A B n h) (hn : n ≤ n') : J N f A B n' h := by
  obtain ⟨T0, u0, T1, u1, K, rf, p, k, v, pl, br, lo, c, ct, pr, pt, cm, bf, bt, T, W, S, u, P, td, TD, hd, Z, nt, tp, pc, cc, hC, hM, hCS, hMS, hb, hst, hAB, hcc⟩ := hJ
  exact ⟨T0, u0, T1, u1, K, rf, p, k, v, pl, br, lo, c, ct, pr, pt, cm, bf, bt, T, W, S, u, P, td, TD, hd, Z, nt, tp, pc, cc, hC, hM, hCS, hMS, hb, hst, hAB, by omega⟩
/-- behind a call of the class -/
theorem j_cls (hM : onM h k v pl br lo c ct pr pt cm bf bt) (hst : STr h ∧ h.2.2 0 = .inr (0, N, .inl f)) (hAB : h.1 + nn K.2.2.2.2 = A ∧ h.2.1 + 2400 * nn K.2.2.2.2 = B) (hX : GX h g' K.2.2.2.2 K'.2.2.2.2) (hS : CS g' T0 u0 T1 u1 K' rf' p T W S u P td TD hd Z nt tp pc cc) : onC (ch g' T0 u0' T1 u1' K' rf') T0 u0' T1 u1' K' rf' ∧ onM (ch g' T0 u0' T1 u1' K' rf') k v pl br lo c ct pr pt cm bf bt ∧ CS (ch g' T0 u0' T1 u1' K' rf') T0 u0' T1 u1' K' rf' p T W S u P td TD hd Z nt tp pc cc ∧ (STr (ch g' T0 u0' T1 u1' K' rf') ∧ (ch g' T0 u0' T1 u1' K' rf').2.2 0 = .inr (0, N, .inl f)) ∧ ((ch g' T0 u0' T1 u1' K' rf').1 + nn K'.2.2.2.2 = A ∧ (ch g' T0 u0' T1 u1' K' rf').2.1 + 2400 * nn K'.2.2.2.2 = B) := by
  refine ⟨onC_ch, hM.ch hX.1, hS.cg rfl (fun q hq => ?_), ⟨fun q h2 h8 => ?_, ?_⟩, ⟨hX.2.1.trans hAB.1, hX.2.2.trans hAB.2⟩⟩
  · rcases hq with rfl | rfl | hq
    · rfl
    · rfl
    · exact ch_hi (by omega)
  · rw [ch_lo h8, hX.1 q (by omega) (by omega)]
    exact hst.1 q h2 h8
  · rw [ch_lo (by decide), hX.1 0 (by decide) (by decide)]
    exact hst.2
theorem GX.kk (e : K'.2.2.2.2 = K.2.2.2.2) : GX h h K.2.2.2.2 K'.2.2.2.2 := by rw [e]; exact GX.rf
/-- behind a call of the reference -/
theorem j_mdl (hC : onC h T0 u0 T1 u1 K rf) (hst : STr h ∧ h.2.2 0 = .inr (0, N, .inl f)) (hAB : h.1 + nn K.2.2.2.2 = A ∧ h.2.1 + 2400 * nn K.2.2.2.2 = B) (hS : CS h T0 u0 T1 u1 K rf p T W S u P td TD hd Z nt tp pc cc) (hX : MS k T W S u P td TD hd Z nt tp pc cc) (hb : ∀ j, j < nt → b8 (tp j)) (hn : cc ≤ n) : J N f A B n (mh h k v pl br lo c ct pr pt cm bf bt) := by
  refine ⟨T0, u0, T1, u1, K, rf, p, k, v, pl, br, lo, c, ct, pr, pt, cm, bf, bt, T, W, S, u, P, td, TD, hd, Z, nt, tp, pc, cc, hC.mh, onM_mh, hS.cg rfl (fun q hq => ?_), hX, hb, ⟨fun q h2 h8 => ?_, ?_⟩, hAB, hn⟩
  · rcases hq with rfl | rfl | hq
    · rfl
    · rfl
    · exact mh_hi hq
  · rw [mh_lo (by omega)]
    exact hst.1 q h2 h8
  · rw [mh_lo (by decide)]
    exact hst.2
end J2
theorem byt_8 (w : Int32) (s : Nat) : b8 (byt w s) := by
  unfold byt vp_nar
  rw [pk_nb]
  show b8 (w >>> (nI s &&& 31)).toInt8.toInt32
  have h1 := Int8.le_toInt (w >>> (nI s &&& 31)).toInt8
  have h2 := Int8.toInt_lt (w >>> (nI s &&& 31)).toInt8
  have e1 : (-128 : Int32).toInt = -128 := by decide
  have e2 : (127 : Int32).toInt = 127 := by decide
  refine ⟨Int32.le_iff_toInt_le.mpr ?_, Int32.le_iff_toInt_le.mpr ?_⟩
  · rw [e1, Int8.toInt_toInt32]; omega
  · rw [e2, Int8.toInt_toInt32]; omega
theorem ptp_8 {nt : Nat} {tp : Nat → Int32} {w : Int32} (h : ∀ j, j < nt → b8 (tp j)) : ∀ j, j < nt + 4 → b8 (ptp nt tp w j) := by
  intro j hj
  unfold ptp
  by_cases e3 : j = nt + 3
  · subst e3; rw [upd_at]; exact byt_8 _ _
  · rw [upd_ne e3]
    by_cases e2 : j = nt + 2
    · subst e2; rw [upd_at]; exact byt_8 _ _
    · rw [upd_ne e2]
      by_cases e1 : j = nt + 1
      · subst e1; rw [upd_at]; exact byt_8 _ _
      · rw [upd_ne e1]
        by_cases e0 : j = nt
        · subst e0; rw [upd_at]; exact byt_8 _ _
        · rw [upd_ne e0]; exact h j (by omega)
theorem ftp_8 {nt : Nat} {tp : Nat → Int32} {a b c d e : Int32} (h : ∀ j, j < nt → b8 (tp j)) : ∀ j, j < n_nt nt → b8 (ftp nt tp a b c d e j) := by
  unfold n_nt ftp
  by_cases hn : nt + 20 ≤ 2000
  · rw [if_pos hn, if_pos hn]
    exact ptp_8 (ptp_8 (ptp_8 (ptp_8 (ptp_8 h))))
  · rw [if_neg hn, if_neg hn]
    exact h
theorem bnt_8 {nt : Nat} {tp : Nat → Int32} {x : Int32} (h : ∀ j, j < nt → b8 (tp j)) : ∀ j, j < b_nt nt x → b8 (tp j) := by
  unfold b_nt
  split
  · exact fun j hj => h j (by omega)
  · exact h
