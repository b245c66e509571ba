/-! ===== calls, and the whole: what am_run says, the JVM does ===== -/
theorem am_do_mono {P : Nat → am_M} {d L ret pc nx a b : Nat} {i : Instr} {ls : List (Option Value)} {st : List Value} {h : am_H} {S' : am_S} (hs : am_do P d L ret i pc nx a b ls st h = some (.inl S')) : h.1 ≤ S'.2.2.2.1 ∧ h.2.1 ≤ S'.2.2.2.2.1 := by
  cases i <;> simp only [am_do, am_ii, am_i1, am_ll, am_l1, am_r1, am_ri, am_cA, am_cL, am_cQ, am_cO, am_ix, Bool.cond_eq_ite] at hs <;> (repeat' split at hs) <;> first | (cases hs; done) | (cases hs; simp only [am_up, am_nw]; omega)
theorem am_run_grow {P : Nat → am_M} : ∀ (n d L M : Nat) (c : am_S) (x : Option Value × am_H), am_run P n d L M c = some x → c.2.2.2.1 ≤ x.2.1 ∧ c.2.2.2.2.1 ≤ x.2.2.1 := by
  intro n
  induction n with
  | zero => intro d L M c x h; simp [am_run] at h
  | succ n ih =>
    intro d L M c x h
    rw [am_run] at h
    cases hs : am_step P d L M c with
    | none => rw [hs] at h; simp at h
    | some o =>
      rw [hs] at h
      unfold am_step at hs
      cases hat : am_at (P M).2.2.2 c.1 with
      | none => rw [hat] at hs; cases hs
      | some q =>
        obtain ⟨i, nx, a, b⟩ := q
        rw [hat] at hs
        dsimp only at hs
        match o, h, hs with
        | .inl c', h, hs =>
          have h1 := am_do_mono hs
          have h2 := ih _ _ _ _ _ h
          exact ⟨Nat.le_trans h1.1 h2.1, Nat.le_trans h1.2 h2.2⟩
        | .inr (.inl r), h, hs => cases h; exact ⟨Nat.le_refl _, Nat.le_refl _⟩
        | .inr (.inr (y, vs, c')), h, hs =>
          have hc : c'.2.2.2 = c.2.2.2 := by
            cases i <;> simp only [am_do, am_ii, am_i1, am_ll, am_l1, am_r1, am_ri, am_cA, am_cL, am_cQ, am_cO, am_ix, Bool.cond_eq_ite] at hs <;> (repeat' split at hs) <;> first | (cases hs; done) | (cases hs; rfl)
          cases d with
          | zero => simp at h
          | succ d' =>
            dsimp only at h
            split at h
            · cases h
            · cases hr : am_run P n d' (L - am_lc P y) y (0, am_ent vs (P y).2.1, [], c'.2.2.2) with
              | none => rw [hr] at h; simp at h
              | some q =>
                obtain ⟨r, h1⟩ := q
                rw [hr] at h
                have g1 := ih _ _ _ _ _ hr
                have g2 := ih _ _ _ _ _ h
                dsimp only at g1 g2
                rw [hc] at g1
                exact ⟨Nat.le_trans g1.1 g2.1, Nat.le_trans g1.2 g2.2⟩
theorem am_take_inv : ∀ (n : Nat) (acc st vs r : List Value), am_take n acc st = some (vs, r) → ∃ ws, ws.length = n ∧ st = ws ++ r ∧ vs = ws.reverse ++ acc := by
  intro n
  induction n with
  | zero => intro acc st vs r h; cases h; exact ⟨[], rfl, rfl, rfl⟩
  | succ n ih =>
    intro acc st vs r h
    cases st with
    | nil => cases h
    | cons v st =>
      obtain ⟨ws, h1, h2, h3⟩ := ih _ _ _ _ h
      exact ⟨v :: ws, by rw [List.length_cons, h1], by rw [h2]; rfl, by rw [h3]; simp⟩
theorem am_take0 {n : Nat} {st vs r : List Value} (h : am_take n [] st = some (vs, r)) : vs.length = n ∧ st = vs.reverse ++ r := by
  obtain ⟨ws, h1, h2, h3⟩ := am_take_inv _ _ _ _ _ h
  rw [List.append_nil] at h3
  subst h3
  exact ⟨by rw [List.length_reverse, h1], by rw [List.reverse_reverse]; exact h2⟩
theorem am_get_pad : ∀ (n : Nat) (l : List (Option Value)) (i : Nat) (v : Value), am_get (am_pad n l) i = some v → am_get l i = some v := by
  intro n
  induction n with
  | zero => intro l i v h; cases l <;> cases h
  | succ n ih =>
    intro l i v h
    cases l with
    | nil =>
      cases i with
      | zero => cases h
      | succ i => exact ih [] i v h
    | cons w t =>
      cases i with
      | zero => exact h
      | succ i => exact ih t i v h
theorem am_ent_args (ad : Nat → Nat) : ∀ (vs : List Value) (k i : Nat) (v : Value), am_get (am_ent0 vs) i = some v → (k + i, am_v ad v) ∈ lv_args k (vs.map (am_v ad)) := by
  intro vs
  induction vs with
  | nil => intro k i v h; cases h
  | cons w t ih =>
    intro k i v h
    rw [List.map_cons, lv_args, am_v_cat]
    have one : ∀ (x : Value), x.category = 1 → am_get (some x :: am_ent0 t) i = some v → (k + i, am_v ad v) ∈ (k, am_v ad x) :: lv_args (if x.category = 2 then k + 2 else k + 1) (t.map (am_v ad)) := by
      intro x hx h
      cases i with
      | zero => cases h; exact List.mem_cons_self
      | succ i =>
        refine List.mem_cons_of_mem _ ?_
        rw [hx, if_neg (by decide)]
        have := ih (k + 1) i v h
        rwa [Nat.add_assoc, Nat.add_comm 1 i] at this
    cases w with
    | long x =>
      cases i with
      | zero => cases h; exact List.mem_cons_self
      | succ i =>
        cases i with
        | zero => cases h
        | succ i =>
          refine List.mem_cons_of_mem _ ?_
          have := ih (k + 2) i v h
          rw [show k + 2 + i = k + (i + 1 + 1) by omega] at this
          exact this
    | double x =>
      cases i with
      | zero => cases h
      | succ i =>
        cases i with
        | zero => cases h
        | succ i =>
          refine List.mem_cons_of_mem _ ?_
          have := ih (k + 2) i v h
          rw [show k + 2 + i = k + (i + 1 + 1) by omega] at this
          exact this
    | int x => exact one _ rfl h
    | float x => exact one _ rfl h
    | null => exact one _ rfl h
    | ref x => exact one _ rfl h
    | retAddr x => exact one _ rfl h
theorem am_ent_nd : ∀ (vs : List Value), am_nd (am_ent0 vs) := by
  intro vs
  induction vs with
  | nil => intro i v h; cases h
  | cons w t ih =>
    intro i v h h2
    have one : ∀ (x : Value), x.category = 1 → am_get (some x :: am_ent0 t) i = some v → am_isL (some v) = true := by
      intro x hx h
      cases i with
      | zero => cases h; rw [hx] at h2; cases h2
      | succ i => exact ih i v h h2
    cases w with
    | long x =>
      cases i with
      | zero => cases h; rfl
      | succ i =>
        cases i with
        | zero => cases h
        | succ i => exact ih i v h h2
    | double x =>
      cases i with
      | zero => cases h
      | succ i =>
        cases i with
        | zero => cases h
        | succ i => exact ih i v h h2
    | int x => exact one _ rfl h
    | float x => exact one _ rfl h
    | null => exact one _ rfl h
    | ref x => exact one _ rfl h
    | retAddr x => exact one _ rfl h
theorem am_ent_len (ad : Nat → Nat) : ∀ (vs : List Value), (lg_sl (vs.map (am_v ad))).length = (am_ent0 vs).length := by
  intro vs
  induction vs with
  | nil => rfl
  | cons w t ih =>
    unfold lg_sl at ih ⊢
    rw [List.map_cons, List.flatMap_cons, List.length_append, ih, am_v_cat]
    cases w <;> simp [am_ent0, Value.category] <;> omega
theorem am_ent_LN {ad : Nat → Nat} {vs : List Value} {n : Nat} {lsr : Array Slot} (h : lv_has lsr n (lv_args 0 (vs.map (am_v ad)))) : am_LN ad (am_ent vs n) lsr n := by
  refine ⟨⟨h.1, h.2.1, fun i v hv => ?_⟩, fun i v hv => am_ent_nd vs i v (am_get_pad _ _ _ _ hv)⟩
  have := am_ent_args ad vs 0 i v (am_get_pad _ _ _ _ hv)
  rw [Nat.zero_add] at this
  exact h.2.2 _ this
/-- how a method ends -/
def am_RD (cc : ByteArray) (pc ret : Nat) (r : Option Value) : Prop := (∃ x, r = some (.int x) ∧ decode cc pc = .ok (.ireturn, 1) ∧ am_rt ret x = true) ∨ (∃ x, r = some (.long x) ∧ decode cc pc = .ok (.lreturn, 1) ∧ ret = 4) ∨ (r = none ∧ decode cc pc = .ok (.return_, 1) ∧ ret = 0)
theorem am_ret_inv {P : Nat → am_M} {d L ret pc nx a b : Nat} {i : Instr} {ls : List (Option Value)} {st : List Value} {h : am_H} {r : Option Value} {cc : ByteArray} (hd : ∃ len, decode cc pc = .ok (i, len) ∧ ((∃ d lo hi os, i = .tableswitch d lo hi os) ∨ (len = am_len i ∧ nx = pc + len))) (hs : am_do P d L ret i pc nx a b ls st h = some (.inr (.inl r))) : st = r.toList ∧ am_RD cc pc ret r := by
  obtain ⟨len, hd, hlen⟩ := hd
  cases i <;> simp only [am_do, am_ii, am_i1, am_ll, am_l1, am_r1, am_ri, am_cA, am_cL, am_cQ, am_cO, am_ix, Bool.cond_eq_ite] at hs <;> (repeat' split at hs) <;> first | (cases hs; done) | skip
  · have hl1 := hlen.resolve_left (by rintro ⟨_, _, _, _, hq⟩; cases hq)
    have hl2 := hl1.1
    subst hl2
    rename_i hx
    cases hs
    exact ⟨rfl, Or.inl ⟨_, rfl, hd, hx⟩⟩
  · have hl1 := hlen.resolve_left (by rintro ⟨_, _, _, _, hq⟩; cases hq)
    have hl2 := hl1.1
    subst hl2
    rename_i hx
    cases hs
    exact ⟨rfl, Or.inr (Or.inl ⟨_, rfl, hd, Nat.eq_of_beq_eq_true hx⟩)⟩
  · have hl1 := hlen.resolve_left (by rintro ⟨_, _, _, _, hq⟩; cases hq)
    have hl2 := hl1.1
    subst hl2
    rename_i hx
    cases hs
    exact ⟨rfl, Or.inr (Or.inr ⟨rfl, hd, Nat.eq_of_beq_eq_true hx⟩)⟩
