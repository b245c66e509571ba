/-! ===== calls and the main theorem ===== -/
section AMC
variable {D : va_G} {ad dA : Nat → Nat} {Ls : Nat} {xs : Nat → Int32}
theorem am_K_moved {s U : State} {H : Heap} {locs : List Loc} (hK : am_K D ad dA Ls xs s) (hU : U.heap = H) (hW : s.WarmedH U.vm) (hS : va_S (am_A ad) s.heap H locs) : am_K D ad dA Ls xs U := by
  obtain ⟨hKa, hK5, ⟨z1, z2, z3, z4, z5, z6, z7, z8, z9, z10⟩, h8, hA⟩ := hK
  subst hU
  have hal := hW.alike
  refine ⟨va_K.moved hal hKa, ?_, ⟨va_X.moved hal (z1.kept ?_), z2, (z3.moved hal).kept hS.2.1, (z4.moved hal).kept hS.2.1, (z5.moved hal).kept hS.2.1, z6.warm hW, z7.warm hW, z8.warm hW, (z9.moved hal).kept hS.2.1, (z10.moved hal).kept hS.2.1⟩, Nat.le_trans h8 hS.1, hA⟩
  · obtain ⟨⟨kA, h1, h2⟩, h3, h4, h5⟩ := hK5
    obtain ⟨k', hk', he⟩ := hal.2.2 _ _ h1
    exact ⟨⟨k', hk', by rw [he]; exact h2⟩, h3.moved hal, h4.moved hal, am_Ns_warm hW h5⟩
  · obtain ⟨scr, h1, -⟩ := z1
    exact hS.2.1 _ (Array.getElem?_eq_some_iff.mp h1).1 z2
theorem am_K_cal {U : State} {g : JFrame} {mk : MethodId} {a : Array Value} (hK : am_K D ad dA Ls xs U) : am_K D ad dA Ls xs (U.calling g mk a) := by
  obtain ⟨hKa, hK5, ⟨z1, z2, z3, z4, z5, z6, z7, z8, z9, z10⟩, h8, hA⟩ := hK
  have hal : U.vm.Alike (U.calling g mk a).vm := Vm.Alike.refl U.vm
  exact ⟨va_K.moved hal hKa, ⟨hK5.1, hK5.2.1.moved hal, hK5.2.2.1.moved hal, am_Ns_same (s := U) rfl hK5.2.2.2⟩, ⟨va_X.moved hal z1, z2, z3.moved hal, z4.moved hal, z5.moved hal, z6.same rfl, z7.same rfl, z8.same rfl, z9.moved hal, z10.moved hal⟩, h8, hA⟩
/-- a method's start and end, as the abstract machine has them -/
def am_B (D : va_G) (ad dA : Nat → Nat) (Ls : Nat) (xs : Nat → Int32) (h : am_H) (U : State) : Prop := am_K D ad dA Ls xs U ∧ am_G D ad dA Ls xs U.heap U.heap h []
def am_Qc (D : va_G) (ad dA : Nat → Nat) (Ls : Nat) (xs : Nat → Int32) (r : Option Value) (h : am_H) : Array Value → State → Outcome → State → Prop := fun _ st o t => o = .returned (r.map (am_v ad)) ∧ ∃ locs, am_G D ad dA Ls xs st.heap t.heap h locs
theorem am_blind {vs : List Value} {h : am_H} : FrameBlind (va_Pc vs (am_B D ad dA Ls xs h)) := fun a U g mk q => ⟨q.1, am_K_cal q.2.1, q.2.2⟩
variable {p : Program} {l : Launch} {e : Env} {R : Room} {s : State} {m : MethodId} {args : Array Value} {below : List Frame} {meth : Method} {c : Code} {H : Heap} {locs : List Loc} {cells slots : Nat} {Q : State → Prop}
variable {h h1 : am_H} {lsr : Array Slot} {pc : Nat} {rest st0 : List Value} {r : Option Value} {a : Array Value}
theorem am_pre (g : am_G D ad dA Ls xs s.heap H h locs) (hK : am_K D ad dA Ls xs s) {U : State} (hU : U.heap = H) (hW : s.WarmedH U.vm) : am_B D ad dA Ls xs h U := by
  refine ⟨am_K_moved hK hU hW g.2.2.1, ?_⟩
  subst hU
  obtain ⟨g1, g2, g3, g4, g5, g6, g7⟩ := g
  exact ⟨g1, g2, va_S.rf, g4, g5, g6, g7⟩
theorem am_goC (hr : va_Run p l e R s m args below meth c H locs cells slots (h1.1 - h.1) (h1.2.1 - h.2.1) (F0 m pc lsr st0) rest (am_Qc D ad dA Ls xs r h1 a) (am_A ad)) (hA : ∀ i, 8 ≤ i → ad (i + 1) = ad i + 1) (g : am_G D ad dA Ls xs s.heap H h locs) (hz : H.size = s.heap.size + cells) (hle : h.1 ≤ h1.1)
    (kk : ∀ (H1 : Heap) (locs1 : List Loc), am_G D ad dA Ls xs s.heap H1 h1 locs1 → H1.size = s.heap.size + (cells + (h1.1 - h.1)) → W p l e R s m args below meth c H1 locs1 (cells + (h1.1 - h.1)) (slots + (h1.2.1 - h.2.1)) Q (F0 m (pc + 3) lsr ((r.map (am_v ad)).toList ++ rest))) : W p l e R s m args below meth c H locs cells slots Q (F0 m pc lsr st0) := by
  intro T hT X
  obtain ⟨v, st₀, t, T', L, h0, X', hL, e1, e2, ⟨hv, locs', hG⟩, st⟩ := hr T hT X
  cases hv
  have g3 := g.2.2.1
  obtain ⟨q1, q2, q3, q4, q5, q6, q7⟩ := hG
  rw [h0] at q3
  rw [← e1] at q1 q3 q5
  have hsz : T'.heap.size = s.heap.size + (cells + (h1.1 - h.1)) := by
    have a1 := am_ad hA (h.1 - 8)
    have a2 := am_ad hA (h1.1 - 8)
    rw [show 8 + (h.1 - 8) = h.1 by have := g.2.2.2.1; omega] at a1
    rw [show 8 + (h1.1 - 8) = h1.1 by omega] at a2
    have a3 := g.2.2.2.2.1
    have := g.2.2.2.1
    omega
  obtain ⟨t2, a1, b1⟩ := kk T'.heap (locs ++ L) ⟨q1, q2, ⟨(am_S_tr g3 q3).1, (am_S_tr g3 q3).2.1, fun q hq => by
      rcases List.mem_append.mp hq with h | h
      · exact g3.2.2 q h
      · exact hL q h⟩, q4, q5, q6, q7⟩ hsz T' rfl X'
  exact ⟨t2, st t2 a1, b1⟩
end AMC
