theorem am_ckE_ok {own : Nat} {ini : Bool} {maxL : Nat} {i : Instr} {pc a b : Nat} {yn : String} (hi : ini = true → yn = "<init>") (h : am_ckE own ini maxL i pc a b = true) : am_Ei am_P am_yN am_NM am_Ts (am_cn own) yn maxL i pc a b := by
  have bq : ∀ {x y : Nat}, Nat.beq x y = true → x = y := fun h => Nat.eq_of_beq_eq_true h
  have bl : ∀ {x y : Nat}, Nat.blt x y = true → x < y := fun h => Nat.lt_of_succ_le (Nat.le_of_ble_eq_true h)
  cases i
  all_goals (try exact trivial)
  all_goals (unfold am_ckE at h; unfold am_Ei; try simp only [Bool.and_eq_true, Bool.or_eq_true, decide_eq_true_eq] at h)
  case aload k => exact bq h
  case aload_n k => exact bq h
  case iload k => exact bq h
  case iload_n k => exact bq h
  case lload k => exact bq h
  case lload_n k => exact bq h
  case astore k => exact ⟨bq h.1, bl h.2⟩
  case astore_n k => exact ⟨bq h.1, bl h.2⟩
  case istore k => exact ⟨bq h.1, bl h.2⟩
  case istore_n k => exact ⟨bq h.1, bl h.2⟩
  case lstore k => exact ⟨bq h.1, bl h.2⟩
  case lstore_n k => exact ⟨bq h.1, bl h.2⟩
  case iinc k n => exact ⟨bq h.1, bl h.2⟩
  case goto off => exact h
  case ifCond c off => exact h
  case if_icmp c off => exact h
  case ifnonnull off => exact h
  case tableswitch d lo hi os => exact h
  case baload => exact h.elim (fun h => Or.inl (bq h)) (fun h => Or.inr (bq h))
  case bastore => exact h.elim (fun h => Or.inl (bq h)) (fun h => Or.inr (bq h))
  case aaload => exact h.elim (fun h => Or.inl (bq h)) (fun h => Or.inr (bq h))
  case newarray ty => exact ⟨bl h, am_arr ty (bl h)⟩
  case ldc idx =>
    rcases h with ⟨ha, h⟩ | ⟨ha, h⟩
    · left
      obtain ⟨q, hq, h⟩ := List.any_eq_true.mp h
      obtain ⟨e1, e2, e3⟩ := am_b3 h
      have := List.all_eq_true.mp am_CL_ok q hq
      rw [e1, e2, e3] at this
      exact ⟨bq ha, am_lw_mem this⟩
    · right
      refine ⟨bq ha, ?_⟩
      rcases h with (⟨⟨h1, h2⟩, h3⟩ | ⟨⟨h1, h2⟩, h3⟩) | ⟨⟨h1, h2⟩, h3⟩
      · exact Or.inl ⟨bq h1, by rw [bq h2]; rfl, bq h3⟩
      · exact Or.inr (Or.inl ⟨bq h1, by rw [bq h2]; rfl, bq h3⟩)
      · exact Or.inr (Or.inr ⟨bq h1, by rw [bq h2]; rfl, bq h3⟩)
  case ldc_w idx =>
    obtain ⟨q, hq, h⟩ := List.any_eq_true.mp h
    obtain ⟨e1, e2, e3⟩ := am_b3 h
    have := List.all_eq_true.mp am_CL_ok q hq
    rw [e1, e2, e3] at this
    exact am_lw_mem this
  case ldc2_w idx =>
    obtain ⟨q, hq, h⟩ := List.any_eq_true.mp h
    obtain ⟨e1, e2, e3⟩ := am_b3 h
    have := List.all_eq_true.mp am_LL_ok q hq
    rw [e1, e2, e3] at this
    exact am_lw_mem this
  case anewarray idx =>
    obtain ⟨q, hq, h⟩ := List.any_eq_true.mp h
    simp only [Bool.and_eq_true] at h
    have e1 := bq h.1.1; have e2 := bq h.1.2; have e3 := bq h.2
    have := List.all_eq_true.mp am_QL_ok q hq
    rw [e1, e2, e3] at this
    simp only [Bool.and_eq_true, Bool.or_eq_true] at this
    exact this.elim (fun h => Or.inl ⟨bq h.1, am_lw_mem h.2⟩) (fun h => Or.inr ⟨bq h.1, am_lw_mem h.2⟩)
  case new idx =>
    obtain ⟨q, hq, h⟩ := List.any_eq_true.mp h
    simp only [Bool.and_eq_true] at h
    have e1 := bq h.1.1; have e2 := bq h.1.2; have e3 := bq h.2
    have := List.all_eq_true.mp am_NL_ok q hq
    rw [e1, e2, e3] at this
    simp only [Bool.and_eq_true] at this
    exact ⟨bl this.1.1.1, am_lw_mem this.1.1.2, am_lw_mem this.1.2, am_lw_mem this.2⟩
  case getfield idx =>
    rcases h with h | ⟨ha, h⟩
    · left
      obtain ⟨q, hq, h⟩ := List.any_eq_true.mp h
      simp only [Bool.and_eq_true] at h
      have e1 := bq h.1.1.1; have e2 := bq h.1.1.2; have e3 := bq h.1.2; have e4 := bq h.2
      have := List.all_eq_true.mp am_FL_ok q hq
      rw [e1, e2, e3, e4] at this
      simp only [Bool.and_eq_true] at this
      exact ⟨bl this.1.1, bl this.1.2, am_lw_mem this.2⟩
    · right
      refine ⟨bq ha, ?_⟩
      obtain ⟨q, hq, h⟩ := List.any_eq_true.mp h
      obtain ⟨e1, e2, e3⟩ := am_b3 h
      have := List.all_eq_true.mp am_GL_ok q hq
      rw [e1, e2, e3] at this
      simp only [Bool.and_eq_true, Bool.or_eq_true] at this
      exact this.elim (fun h => Or.inl ⟨bq h.1, am_lw_mem h.2⟩) (fun h => Or.inr ⟨bq h.1, am_lw_mem h.2⟩)
  case getstatic idx =>
    obtain ⟨q, hq, h⟩ := List.any_eq_true.mp h
    obtain ⟨e1, e2, e3⟩ := am_b3 h
    have := List.all_eq_true.mp am_SG_ok q hq
    rw [e1, e2, e3] at this
    simp only [Bool.and_eq_true, Bool.or_eq_true] at this
    exact this.elim (fun h => Or.inl ⟨bq h.1, am_lw_mem h.2⟩) (fun h => Or.inr ⟨bq h.1, am_lw_mem h.2⟩)
  case putfield idx =>
    obtain ⟨⟨h, hty⟩, hfin⟩ := h
    obtain ⟨q, hq, h⟩ := List.any_eq_true.mp h
    simp only [Bool.and_eq_true] at h
    have e1 := bq h.1.1.1; have e2 := bq h.1.1.2; have e3 := bq h.1.2; have e4 := bq h.2
    have := List.all_eq_true.mp am_FL_ok q hq
    rw [e1, e2, e3, e4] at this
    simp only [Bool.and_eq_true] at this
    refine ⟨bl this.1.1, bl this.1.2, am_lw_mem this.2, ?_, ?_⟩
    · rcases hty with (⟨k1, k2⟩ | ⟨k1, k2⟩) | ⟨k1, k2⟩
      · exact Or.inl ⟨bq k1, k2⟩
      · exact Or.inr (Or.inl ⟨bq k1, k2⟩)
      · cases hf : am_ft a (b / 8) with
        | object n => exact Or.inr (Or.inr (Or.inl ⟨bq k1, n, rfl⟩))
        | array n => exact Or.inr (Or.inr (Or.inr ⟨bq k1, n, rfl⟩))
        | _ => rw [hf] at k2; cases k2
    · rcases hfin with hf | ⟨⟨k1, k2⟩, k3⟩
      · left
        simpa using hf
      · cases hf : (am_tb a (b / 8)).2.2.2 with
        | false => exact Or.inl rfl
        | true => exact Or.inr ⟨rfl, hi k1, k3⟩
  case invokevirtual idx =>
    obtain ⟨q, hq, h⟩ := List.any_eq_true.mp h
    simp only [Bool.and_eq_true] at h
    have e1 := bq h.1.1.1; have e2 := bq h.1.1.2; have e3 := bq h.1.2; have e4 := bq h.2
    have := List.all_eq_true.mp am_VL_ok q hq
    unfold am_Vc at this
    rw [e1, e2, e3, e4] at this
    simp only [Bool.and_eq_true, decide_eq_true_eq] at this
    obtain ⟨⟨⟨⟨g1, g2⟩, g3⟩, g4⟩, g5⟩ := this
    exact ⟨bl g1, am_lw_mem g2, am_lw_mem g3, am_lw_mem g4, g5⟩
  case invokespecial idx =>
    rcases h with ⟨ha, h⟩ | h
    · left
      obtain ⟨q, hq, h⟩ := List.any_eq_true.mp h
      obtain ⟨e1, e2, e3⟩ := am_b3 h
      have := List.all_eq_true.mp am_ML_ok q hq
      rw [e1, e2, e3] at this
      rw [Bool.and_eq_true] at this
      exact ⟨bq ha, am_lw_mem this.2, am_oI, am_oC⟩
    · right
      obtain ⟨q, hq, h⟩ := List.any_eq_true.mp h
      simp only [Bool.and_eq_true] at h
      have e1 := bq h.1.1.1; have e2 := bq h.1.1.2; have e3 := bq h.1.2; have e4 := bq h.2
      have := List.all_eq_true.mp am_SL_ok q hq
      rw [e1, e2, e3, e4] at this
      simp only [Bool.and_eq_true, Bool.or_eq_true, decide_eq_true_eq] at this
      obtain ⟨⟨⟨⟨⟨g1, g2⟩, g3⟩, g4⟩, g5⟩, g6⟩ := this
      have hN := bl g1
      refine ⟨fun z => ?_, hN, g2.elim (fun z => Or.inl (am_lw_mem z.2)) (fun z => Or.inr ⟨_, z⟩), am_lw_mem g3, g4, bq g5, g6⟩
      subst z
      exact absurd hN (by decide)
  case invokestatic idx =>
    rcases h with ⟨ha, h⟩ | h
    · obtain ⟨q, hq, h⟩ := List.any_eq_true.mp h
      obtain ⟨e1, e2, e3⟩ := am_b3 h
      have := List.all_eq_true.mp am_ML_ok q hq
      rw [e1, e2, e3] at this
      rw [Bool.and_eq_true] at this
      have hl := am_lw_mem this.2
      rcases ha with ((ha | ha) | ha) | ha <;> have ha := bq ha <;> subst ha
      · exact Or.inl ⟨rfl, hl, am_aN, am_aS, am_aI⟩
      · exact Or.inr (Or.inl ⟨rfl, hl, am_mS1, am_mI, am_mC1⟩)
      · exact Or.inr (Or.inr (Or.inl ⟨rfl, hl, am_mS2, am_mI, am_mC2⟩))
      · exact Or.inr (Or.inr (Or.inr (Or.inl ⟨rfl, hl, am_ckIn⟩)))
    · right; right; right; right
      obtain ⟨q, hq, h⟩ := List.any_eq_true.mp h
      simp only [Bool.and_eq_true] at h
      have e1 := bq h.1.1.1; have e2 := bq h.1.1.2; have e3 := bq h.1.2; have e4 := bq h.2
      have := List.all_eq_true.mp am_TL_ok q hq
      rw [e1, e2, e3, e4] at this
      simp only [Bool.and_eq_true, Bool.or_eq_true, decide_eq_true_eq] at this
      obtain ⟨⟨⟨g1, g2⟩, g3⟩, g4⟩ := this
      have hN := bl g1
      have hne : ∀ k, 304 ≤ k → ¬ a = k := fun k hk z => by subst z; exact absurd (show a < 304 from hN) (by omega)
      exact ⟨hne 998 (by decide), hne 997 (by decide), hne 996 (by decide), hne 994 (by decide), hN, g2.elim (fun z => Or.inl (am_lw_mem z.2)) (fun z => Or.inr ⟨_, z⟩), am_lw_mem g3, g4⟩
def am_isT : Instr → Bool
  | .tableswitch _ _ _ _ => true
  | _ => false
def am_ckD (cc : ByteArray) (pc : Nat) (q : am_I) : Bool := match decode cc pc with
  | .ok (i, len) => decide (i = q.1) && (am_isT i || (Nat.beq len (am_len i) && Nat.beq q.2.1 (pc + len)))
  | _ => false
def am_ckM (M : Nat) : Bool := (am_P M).2.2.2.all (fun e => am_ckD (am_cN M) e.1 e.2 && am_ckE (am_P M).1 (decide ((am_yN M).name = "<init>")) (am_P M).2.1 e.2.1 e.1 e.2.2.2.1 e.2.2.2.2)
theorem am_at_mem : ∀ (l : List (Nat × am_I)) (pc : Nat) (q : am_I), am_at l pc = some q → (pc, q) ∈ l := by
  intro l
  induction l with
  | nil => intro pc q h; cases h
  | cons x t ih =>
    intro pc q h
    unfold am_at at h
    cases e : Nat.beq x.1 pc with
    | true =>
      rw [e] at h
      have := Nat.eq_of_beq_eq_true e
      cases h
      subst this
      exact List.mem_cons_self
    | false =>
      rw [e] at h
      exact List.mem_cons_of_mem _ (ih pc q h)
theorem am_ckM_ok {M : Nat} (h : am_ckM M = true) : ∀ pc q, am_at (am_P M).2.2.2 pc = some q → am_E am_P am_yN am_cN am_NM am_Ts M pc q := by
  intro pc q hq
  have h1 := List.all_eq_true.mp h _ (am_at_mem _ _ _ hq)
  rw [Bool.and_eq_true] at h1
  obtain ⟨h1, h2⟩ := h1
  refine ⟨?_, am_ckE_ok (fun z => of_decide_eq_true z) h2⟩
  unfold am_ckD at h1
  split at h1
  · rename_i i len hd
    simp only [Bool.and_eq_true, Bool.or_eq_true, decide_eq_true_eq] at h1
    obtain ⟨e, h1⟩ := h1
    dsimp only at e hd
    subst e
    refine ⟨len, hd, ?_⟩
    rcases h1 with h1 | ⟨h1, h3⟩
    · left
      revert h1
      generalize q.1 = i
      intro h1
      cases i <;> first | exact ⟨_, _, _, _, rfl⟩ | cases h1
    · exact Or.inr ⟨Nat.eq_of_beq_eq_true h1, Nat.eq_of_beq_eq_true h3⟩
  · cases h1
def am_ckN (M : Nat) : Bool := plainName (am_yN M).cls && am_lw (am_nth am_ML2 M (0, 0)).1 (.code (am_yN M) (am_cN M) (am_P M).2.1 (am_rty (am_P M).2.2.1)) && am_lw (am_nth am_ML2 M (0, 0)).2 (.initialized (am_yN M).cls) && decide ((am_yN M).cls = am_cn (am_P M).1) && decide ((am_yN M).cls ≠ "java/lang/invoke/MethodHandle") && decide ((am_yN M).cls ≠ "java/lang/invoke/VarHandle")
theorem am_gm_of {M : Nat} (h : (am_ckN M && am_ckM M) = true) : am_gm am_P am_yN am_cN am_NM am_Ts M := by
  rw [Bool.and_eq_true] at h
  obtain ⟨h, h2⟩ := h
  unfold am_ckN at h
  simp only [Bool.and_eq_true, decide_eq_true_eq] at h
  obtain ⟨⟨⟨⟨⟨h1, h3⟩, h4⟩, h5⟩, h6⟩, h7⟩ := h
  exact ⟨h1, am_lw_mem h3, am_lw_mem h4, h6, h7, h5, am_ckM_ok h2⟩
theorem am_up1 {p : Nat → Bool} {n : Nat} (h : ∀ M, M < n → p M = true) (hn : p n = true) : ∀ M, M < n + 1 → p M = true := by
  intro M hM
  rcases Nat.lt_or_ge M n with h1 | h1
  · exact h M h1
  · rw [show M = n by omega]
    exact hn
