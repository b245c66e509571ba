/-- a method whose table is right -/
def am_gm (P : Nat → am_M) (yN : Nat → MethodName) (cN : Nat → ByteArray) (NM : Nat) (Ts : List Cond) (M : Nat) : Prop := plainName (yN M).cls = true ∧ Cond.code (yN M) (cN M) (P M).2.1 (am_rty (P M).2.2.1) ∈ Ts ∧ Cond.initialized (yN M).cls ∈ Ts ∧ (yN M).cls ≠ "java/lang/invoke/MethodHandle" ∧ (yN M).cls ≠ "java/lang/invoke/VarHandle" ∧ (yN M).cls = am_cn (P M).1 ∧ ∀ pc q, am_at (P M).2.2.2 pc = some q → am_E P yN cN NM Ts M pc q
def am_IH (P : Nat → am_M) (yN : Nat → MethodName) (cN : Nat → ByteArray) (NM : Nat) (Ts : List Cond) (l : Launch) (D : va_G) (ad dA : Nat → Nat) (Ls : Nat) (xs : Nat → Int32) (n : Nat) : Prop := ∀ (d L M pc : Nat) (ls : List (Option Value)) (st : List Value) (h : am_H) (r : Option Value) (h' : am_H), am_run P n d L M (pc, ls, st, h) = some (r, h') →
  ∀ (p : Program) (e : Env) (R : Room) (s : State) (m : MethodId) (args : Array Value) (below : List Frame) (meth : Method) (c : Code) (H : Heap) (locs : List Loc) (cells slots : Nat) (Q : State → Prop) (lsr : Array Slot), am_X P yN cN Ts p s m args meth c M → (∀ pc q, am_at (P M).2.2.2 pc = some q → am_E P yN cN NM Ts M pc q) → am_K D ad dA Ls xs s → am_G D ad dA Ls xs s.heap H h locs → am_LN ad ls lsr (P M).2.1 → H.size = s.heap.size + cells → d ≤ R.frames → L ≤ R.locals → cells + (h'.1 - h.1) ≤ R.cells → slots + (h'.2.1 - h.2.1) ≤ R.slots →
  (∀ (H1 : Heap) (locs1 : List Loc) (pc1 : Nat) (lsr1 : Array Slot), am_G D ad dA Ls xs s.heap H1 h' locs1 → am_RD (cN M) pc1 (P M).2.2.1 r → W p l e R s m args below meth c H1 locs1 (cells + (h'.1 - h.1)) (slots + (h'.2.1 - h.2.1)) Q (F0 m pc1 lsr1 (r.toList.map (am_v ad)))) →
  W p l e R s m args below meth c H locs cells slots Q (F0 m pc lsr (st.map (am_v ad)))
section AMM
variable {P : Nat → am_M} {yN : Nat → MethodName} {cN : Nat → ByteArray} {NM : Nat} {Ts : List Cond} {l : Launch} {D : va_G} {ad dA : Nat → Nat} {Ls : Nat} {xs : Nat → Int32} {n : Nat}
theorem am_rt_nar {ret : Nat} {x : Int32} (h : am_rt ret x = true) : ∃ ty, am_rty ret = some ty ∧ narrow ty (.int x) = .int x := by
  match ret, h with
  | 1, _ => exact ⟨_, rfl, rfl⟩
  | 2, h =>
    simp only [am_rt, Bool.or_eq_true, beq_iff_eq] at h
    rcases h with h | h <;> subst h <;> exact ⟨_, rfl, rfl⟩
  | 3, h =>
    have h := of_decide_eq_true h
    exact ⟨_, rfl, congrArg Value.int h⟩
  | 5, h =>
    have h := of_decide_eq_true h
    exact ⟨_, rfl, congrArg Value.int h⟩
theorem am_met (hIH : am_IH P yN cN NM Ts l D ad dA Ls xs n) {y d L : Nat} {vs : List Value} {h h1 : am_H} {r : Option Value} (hy : am_gm P yN cN NM Ts y) (hlen : (am_ent0 vs).length ≤ (P y).2.1) (hrun : am_run P n d L y (0, am_ent vs (P y).2.1, [], h) = some (r, h1)) :
    Met l (yN y) (Cond.code (yN y) (cN y) (P y).2.1 (am_rty (P y).2.2.1) :: Ts) ({ frames := d, cells := h1.1 - h.1, slots := h1.2.1 - h.2.1, locals := L }) (va_Pc (vs.map (am_v ad)) (am_B D ad dA Ls xs h)) (am_Qc D ad dA Ls xs r h1) (h1.1 - h.1) (h1.2.1 - h.2.1) (am_A ad) := by
  obtain ⟨y1, y2, y3, y4, y5, y6, y7⟩ := hy
  refine Met.ofW (cc := cN y) (maxL := (P y).2.1) (ret := am_rty (P y).2.2.1) y1 rfl ?_
  intro p e s m args below meth c s₁ B hml hv
  obtain ⟨rfl, hK, hG⟩ := hv
  have hts := atoms_spec (ws := Cond.code (yN y) (cN y) (P y).2.1 (am_rty (P y).2.2.1) :: Ts) B.pre
  have hown : s.vm.findClass (yN y).cls = some m.cls := findClass_of_methodNamed B.named
  have hX : am_X P yN cN Ts p s m (vs.map (am_v ad)).toArray meth c y := ⟨B.exec, B.bytes, hml, by rw [← y6]; exact hown, fun w hw => hts w (List.mem_cons_of_mem _ hw), B.returns, B.notSynchronized, (name_of_methodNamed B.named B.method).1⟩
  have hl := lv_entry (vs.map (am_v ad)) (n := (P y).2.1) (by rw [am_ent_len]; exact hlen)
  rw [lg_entry_eq]
  generalize (lg_sl (vs.map (am_v ad)) ++ List.replicate ((P y).2.1 - (lg_sl (vs.map (am_v ad))).length) Slot.unset).toArray = ls at hl ⊢
  refine hIH d L y 0 (am_ent vs (P y).2.1) [] h r h1 hrun p e _ s m _ below meth c s.heap [] 0 0 _ ls hX y7 hK hG (am_ent_LN hl) rfl (Nat.le_refl _) (Nat.le_refl _) (Nat.le_of_eq (Nat.zero_add _)) (Nat.le_of_eq (Nat.zero_add _)) ?_
  intro H1 locs1 pc1 lsr1 g1 hRD
  rw [Nat.zero_add, Nat.zero_add]
  have hq : ∀ t : State, t.heap = H1 → s.WarmedH t.vm → am_Qc D ad dA Ls xs r h1 (vs.map (am_v ad)).toArray s (.returned (r.map (am_v ad))) t := fun t ht _ => ⟨rfl, locs1, by rw [ht]; exact g1⟩
  have hf : ∀ q ∈ locs1, am_A ad q.base := g1.2.2.1.2.2
  have hr : meth.sig.returnType = am_rty (P y).2.2.1 := B.returns
  rcases hRD with ⟨x, hr0, hd, hrt⟩ | ⟨x, hr0, hd, hrt⟩ | ⟨hr0, hd, hrt⟩
  · subst hr0
    obtain ⟨ty, h1, h2⟩ := am_rt_nar hrt
    exact W.zret B.exec B.bytes (hr.trans h1) h2 hq hf hd B.notSynchronized
  · subst hr0
    exact W.lret B.exec B.bytes (hr.trans (by rw [hrt]; rfl)) hq hf hd B.notSynchronized
  · subst hr0
    exact W.vret B.exec B.bytes (hr.trans (by rw [hrt]; rfl)) hq hf hd B.notSynchronized
end AMM
