/-! ===== the class: rows of kicks that fit ===== -/
theorem fitU_zero {T : Sd} {LW : LWt} {TD : Nat → Nat} {k code i : Nat} {U : Nat → Nat} (h : fitU T LW TD k code i = some U) (h0 : ∀ f, f < 3 → U f = 0) : ∀ d, fitU T LW TD k code (i + d) = none ∨ ∃ V, fitU T LW TD k code (i + d) = some V ∧ ∀ f, f < 3 → V f = 0 := by
  intro d
  induction d with
  | zero => exact Or.inr ⟨U, h, h0⟩
  | succ d ih =>
    rcases ih with ih | ⟨V, h1, h2⟩
    · left; show fitN _ _ _ _ _ (fitU T LW TD k code (i + d)) = none; rw [ih]; rfl
    · show fitN _ _ _ _ _ (fitU T LW TD k code (i + d)) = none ∨ ∃ V, fitN _ _ _ _ _ (fitU T LW TD k code (i + d)) = some V ∧ _
      rw [h1]
      unfold fitN
      dsimp only
      split
      · refine Or.inr ⟨_, rfl, fun f hf => ?_⟩
        exact sm_zero 3 (fun f2 hf2 => if_pos (Or.inl (h2 f2 hf2)))
      · exact Or.inl rfl
theorem oft_zero {T : Sd} {LW : LWt} {TD : Nat → Nat} {k code i : Nat} {U : Nat → Nat} (h : fitU T LW TD k code i = some U) (hi : i ≤ k) (h0 : U 0 + U 1 + U 2 = 0) : oft T LW TD k code = 0 := by
  unfold oft
  have h9 := fitU_zero h (fun f hf => by have : f = 0 ∨ f = 1 ∨ f = 2 := by omega
                                         rcases this with rfl | rfl | rfl <;> omega) (k - i)
  rw [show i + (k - i) = k by omega] at h9
  rcases h9 with h9 | ⟨V, h1, h2⟩
  · rw [h9]; rfl
  · rw [h1]
    show V 0 + V 1 + V 2 = 0
    rw [h2 0 (by decide), h2 1 (by decide), h2 2 (by decide)]
theorem n_code {code m : Nat} (hc : code < 2147483648) (hm : m ≤ 5) : (nI code >>> (nI (2 * m) &&& 31)) &&& nI 3 = nI (code / 4 ^ m % 4) := by
  have e : nI (2 * m) &&& 31 = nI (2 * m) := by
    have : m = 0 ∨ m = 1 ∨ m = 2 ∨ m = 3 ∨ m = 4 ∨ m = 5 := by omega
    rcases this with rfl | rfl | rfl | rfl | rfl | rfl <;> decide
  rw [e, pk_shrN hc (nI (2 * m)) (2 * m) (by
    have : m = 0 ∨ m = 1 ∨ m = 2 ∨ m = 3 ∨ m = 4 ∨ m = 5 := by omega
    rcases this with rfl | rfl | rfl | rfl | rfl | rfl <;> decide), pk_andN (by have := Nat.div_le_self code (2 ^ (2 * m)); omega) 2 (by decide), Nat.pow_mul]
section C1
variable {g : am_H} {T0 T1 T : Sd} {u0 u1 : Ua} {K : Ck} {rf : Nat → Nat} {p : Nat} {S : Nat → Nat} {u td nt cc : Nat} {P Z : Nat → Nat → Nat} {TD : Nat → Nat} {hd : Nat → Bool} {tp : Nat → Int32} {pc : Int32} {W : Nat → Lw}
variable {no na : Nat} {lf : Nat → Nat}
theorem c_X5_pass {Q : Option Value → am_H → Prop} {i j : Nat} {U : Nat → Nat} {w : Nat → Nat → Nat} (hi : i < 5) (hj : j < 4) (hV : ∀ f, f < 3 → K.2.1 116 f = nI (U f)) (hw : ∀ f f', f < 3 → f' < 3 → K.2.1 115 ((i * 4 + j) * 9 + f * 3 + f') = nI (w f f')) (q : ∀ y1 y2, (∀ f, f < 3 → y1 f = nI (sm (fun f2 => U f2 * w f2 f) 3)) → Q (some (.int (nI (sm (fun f2 => U f2 * w f2 0) 3 + sm (fun f2 => U f2 * w f2 1) 3 + sm (fun f2 => U f2 * w f2 2) 3)))) (ch g T0 u0 T1 u1 (K.1, va_up (va_up K.2.1 117 y2) 116 y1, K.2.2) rf)) : AC am_P 1 43 78 [.ref 113, .int (nI i), .int (nI j)] (ch g T0 u0 T1 u1 K rf) Q := by
  refine AC.of (ls := [_, _, _, _, _, _, _]) rfl ?_
  refine aw_c (v := nI 0) rfl (by decide) ?_
  refine aw_ist (ls' := [_, _, _, _, _, _, _]) rfl rfl ?_
  refine aw rfl rfl ?_
  refine aw_getf rfl cg_113 rfl ?_
  refine aw_c (v := nI 0) rfl (by decide) ?_
  refine aw_cs (d1 := 0) (L1 := 0) rfl rfl (by decide) (by decide) (Nat.le_of_ble_eq_true rfl) (c_fill cg_117 (by decide) (by decide) (fun f9 hz => ?_))
  unfold am_ints
  rw [cu_117]
  refine aw_c (v := nI 0) rfl (by decide) ?_
  refine aw_ist (ls' := [_, _, _, _, _, _, _]) rfl rfl ?_
  refine aw_loop (α := (Nat → Int32) × Option Value × Option Value) (ll := fun s y => [some (.ref 113), some (.int (nI i)), some (.int (nI j)), some (.int (nI (sm (fun f2 => U f2 * w f2 0) s + sm (fun f2 => U f2 * w f2 1) s + sm (fun f2 => U f2 * w f2 2) s))), some (.int (nI s)), y.2.1, y.2.2]) (hh := fun s y => (ch g T0 u0 T1 u1 (K.1, va_up K.2.1 117 y.1, K.2.2) rf)) (I := fun s y => ∀ f', f' < 3 → y.1 f' = nI (sm (fun f2 => U f2 * w f2 f') s)) (N := 3) (fun s y hs hIs ihs => ?_) (fun y hIs => ?_) 0 (f9, none, none) (Nat.zero_le _) hz
  · skip
    obtain ⟨y, l5, l6⟩ := y
    dsimp only at hIs ⊢
    refine aw rfl rfl ?_
    refine aw_c (v := nI 3) rfl (by decide) ?_
    refine aw_igen rfl (fun c16 => by omega) (fun c16 => ?_)
    refine aw_c (v := nI 0) rfl (by decide) ?_
    refine aw_ist (ls' := [_, _, _, _, _, _, _]) rfl rfl ?_
    rw [show nI (sm (fun f2 => U f2 * w f2 0) s + sm (fun f2 => U f2 * w f2 1) s + sm (fun f2 => U f2 * w f2 2) s) = nI ((sm (fun f2 => U f2 * w f2 0) s + sm (fun f2 => U f2 * w f2 1) s + sm (fun f2 => U f2 * w f2 2) s) + sm (fun f2 => U s * w s f2) 0) from rfl]
    refine aw_loop (α := (Nat → Int32) × Option Value) (ll := fun b y => [some (.ref 113), some (.int (nI i)), some (.int (nI j)), some (.int (nI ((sm (fun f2 => U f2 * w f2 0) s + sm (fun f2 => U f2 * w f2 1) s + sm (fun f2 => U f2 * w f2 2) s) + sm (fun f2 => U s * w s f2) b))), some (.int (nI s)), some (.int (nI b)), y.2]) (hh := fun b y => (ch g T0 u0 T1 u1 (K.1, va_up K.2.1 117 y.1, K.2.2) rf)) (I := fun b y => ∀ f', f' < 3 → y.1 f' = nI (sm (fun f2 => U f2 * w f2 f') s + if f' < b then U s * w s f' else 0)) (N := 3) (fun b y hb hIb ihb => ?_) (fun y hIb => ?_) 0 (y, l6) (Nat.zero_le _) (fun f' hf => (hIs f' hf).trans (congrArg nI (by rw [if_neg (Nat.not_lt_zero _)]; rfl)))
    · skip
      obtain ⟨y, l6⟩ := y
      dsimp only at hIb ⊢
      refine aw rfl rfl ?_
      refine aw_c (v := nI 3) rfl (by decide) ?_
      refine aw_igen rfl (fun c25 => by omega) (fun c25 => ?_)
      refine aw rfl rfl ?_
      refine aw_getf rfl cg_113 rfl ?_
      refine aw rfl rfl ?_
      refine aw_ialdE rfl cg_116 rfl (by omega) (by decide) (hV s hs) ?_
      refine aw rfl rfl ?_
      refine aw_getf rfl cg_113 rfl ?_
      refine aw rfl rfl ?_
      refine aw rfl rfl ?_
      refine aw rfl rfl ?_
      refine aw rfl rfl ?_
      refine aw_cs (d1 := 0) (L1 := 0) rfl rfl (by decide) (by decide) (Nat.le_of_ble_eq_true rfl) (c_X5_placeFor ?_)
      refine aw_ialdE rfl cg_115 rfl (by omega) (by decide) (hw s b hs hb) ?_
      refine aw_muln rfl ?_
      refine aw_ist (ls' := [_, _, _, _, _, _, _]) rfl rfl ?_
      refine aw rfl rfl ?_
      refine aw_getf rfl cg_113 rfl ?_
      refine aw rfl rfl ?_
      refine aw rfl rfl ?_
      refine aw_ialdE rfl cg_117 rfl (by omega) (by decide) ((hIb b hb).trans (congrArg nI (congrArg (_ + ·) (if_neg (Nat.lt_irrefl _))))) ?_
      refine aw rfl rfl ?_
      refine aw_addn rfl ?_
      refine aw_iastU rfl cg_117 rfl (by omega) (by decide) (by decide) cu_117 ?_
      refine aw rfl rfl ?_
      refine aw rfl rfl ?_
      refine aw_addn rfl ?_
      refine aw_ist (ls' := [_, _, _, _, _, _, _]) rfl rfl ?_
      refine aw_incn (c := 1) (ls' := [_, _, _, _, _, _, _]) rfl rfl (by decide) rfl ?_
      refine aw rfl rfl ?_
      show AW am_P _ _ _ _ _ _ (ch g T0 u0 T1 u1 (_, va_up (va_up K.2.1 117 y) 117 (upd y b (nI (sm (fun f2 => U f2 * w f2 b) s + 0 + U s * w s b))), _) rf) _
      rw [va_tw2]
      have h8 : ∀ f', f' < 3 → upd y b (nI (sm (fun f2 => U f2 * w f2 b) s + 0 + U s * w s b)) f' = nI (sm (fun f2 => U f2 * w f2 f') s + if f' < b + 1 then U s * w s f' else 0) := fun f' hf => by
        by_cases e : f' = b
        · subst e
          refine upd_at.trans (congrArg nI ?_)
          rw [if_pos (by omega)]
          rfl
        · refine (upd_ne e).trans ((hIb f' hf).trans (congrArg nI ?_))
          by_cases e2 : f' < b
          · rw [if_pos e2, if_pos (by omega)]
          · rw [if_neg e2, if_neg (by omega)]
      have h9 := ihb (_, some (.int (nI (U s * w s b)))) h8
      rw [show (sm (fun f2 => U f2 * w f2 0) s + sm (fun f2 => U f2 * w f2 1) s + sm (fun f2 => U f2 * w f2 2) s) + sm (fun f2 => U s * w s f2) (b + 1) = (sm (fun f2 => U f2 * w f2 0) s + sm (fun f2 => U f2 * w f2 1) s + sm (fun f2 => U f2 * w f2 2) s) + sm (fun f2 => U s * w s f2) b + U s * w s b from (Nat.add_assoc _ _ _).symm] at h9
      exact h9
    · skip
      obtain ⟨y, l6⟩ := y
      dsimp only at hIb ⊢
      refine aw rfl rfl ?_
      refine aw_c (v := nI 3) rfl (by decide) ?_
      refine aw_ige rfl (fun _ => ?_) (fun c => absurd (by decide) c)
      refine aw_incn (c := 1) (ls' := [_, _, _, _, _, _, _]) rfl rfl (by decide) rfl ?_
      refine aw rfl rfl ?_
      have h9 := ihs (y, some (.int (nI 3)), l6) (fun f' hf => (hIb f' hf).trans (congrArg nI (by rw [if_pos hf]; rfl)))
      rw [show (sm (fun f2 => U f2 * w f2 0) (s + 1) + sm (fun f2 => U f2 * w f2 1) (s + 1) + sm (fun f2 => U f2 * w f2 2) (s + 1)) = (sm (fun f2 => U f2 * w f2 0) s + sm (fun f2 => U f2 * w f2 1) s + sm (fun f2 => U f2 * w f2 2) s) + sm (fun f2 => U s * w s f2) 3 from by show (sm (fun f2 => U f2 * w f2 0) s + U s * w s 0) + (sm (fun f2 => U f2 * w f2 1) s + U s * w s 1) + (sm (fun f2 => U f2 * w f2 2) s + U s * w s 2) = _ + (0 + U s * w s 0 + U s * w s 1 + U s * w s 2); omega] at h9
      exact h9
  · skip
    obtain ⟨y, l5, l6⟩ := y
    dsimp only at hIs ⊢
    refine aw rfl rfl ?_
    refine aw_c (v := nI 3) rfl (by decide) ?_
    refine aw_ige rfl (fun _ => ?_) (fun c => absurd (by decide) c)
    refine aw rfl rfl ?_
    refine aw_getf rfl cg_113 rfl ?_
    refine aw_c (v := nI 0) rfl (by decide) ?_
    refine aw rfl rfl ?_
    refine aw_getf rfl cg_113 rfl ?_
    refine aw_c (v := nI 0) rfl (by decide) ?_
    refine aw_c (v := nI 3) rfl (by decide) ?_
    refine aw_acpy rfl cg_117 cg_116 (by decide) (by decide) (by decide) (by decide) (by decide) (by decide) (by decide) (by decide) (by decide) ?_
    unfold am_ints
    rw [cu_116]
    refine aw rfl rfl ?_
    exact aw_iret rfl rfl (q _ _ (fun f hf => (pk_cpy_in (Nat.zero_le _) (by omega)).trans ((congrArg y (by omega)).trans (hIs f hf))))
end C1
