/-- WHAT am_run SAYS, THE JVM DOES: from a frame, whatever stands behind the method's return -/
theorem am_sound {P : Nat → am_M} {yN : Nat → MethodName} {cN : Nat → ByteArray} {NM : Nat} {Ts : List Cond} {l : Launch} {D : va_G} {ad dA : Nat → Nat} {Ls : Nat} {xs : Nat → Int32} (hU : ∀ k, k < 12 → ∀ w ∈ u_ws (am_cn k) (am_tb k) (am_nf k), w ∈ Ts) (hG : ∀ w ∈ Ts, goodWord w = true) (hP : ∀ M, M < NM → am_gm P yN cN NM Ts M) : ∀ n, am_IH P yN cN NM Ts l D ad dA Ls xs n := by
  intro n
  induction n with
  | zero => intro d L M pc ls st h r h' hrun; simp [am_run] at hrun
  | succ n ih =>
    intro d L M pc ls st h r h' hrun p e R s m args below meth c H locs cells slots Q lsr X hEnt hK g hl hz hRf hRl hRc hRs hret
    have hgrow := am_run_grow _ _ _ _ _ _ hrun
    rw [am_run] at hrun
    cases hstep : am_step P d L M (pc, ls, st, h) with
    | none => rw [hstep] at hrun; simp at hrun
    | some o =>
      rw [hstep] at hrun
      unfold am_step at hstep
      cases hat : am_at (P M).2.2.2 pc with
      | none => rw [hat] at hstep; cases hstep
      | some q =>
        obtain ⟨i, nx, a, b⟩ := q
        rw [hat] at hstep
        dsimp only at hstep
        obtain ⟨hd, hE⟩ := hEnt pc _ hat
        match o, hrun, hstep with
        | .inl S', hrun, hstep =>
          have hm := am_do_mono hstep
          have hg2 := am_run_grow _ _ _ _ _ _ hrun
          dsimp only at hg2
          have kk : am_KK p l e R s m args below meth c cells slots Q D ad dA Ls xs (P M).2.1 h S' := by
            intro H1 locs1 lsr1 g1 hl1 hz1
            refine ih d L M S'.1 S'.2.1 S'.2.2.1 S'.2.2.2 r h' hrun p e R s m args below meth c H1 locs1 _ _ Q lsr1 X hEnt hK g1 hl1 hz1 hRf hRl (by omega) (by omega) ?_
            intro H2 locs2 pc1 lsr2 g2 hRD
            have := hret H2 locs2 pc1 lsr2 g2 hRD
            have e1 : cells + (h'.1 - h.1) = cells + (S'.2.2.2.1 - h.1) + (h'.1 - S'.2.2.2.1) := by omega
            have e2 : slots + (h'.2.1 - h.2.1) = slots + (S'.2.2.2.2.1 - h.2.1) + (h'.2.1 - S'.2.2.2.2.1) := by omega
            rw [e1, e2] at this
            exact this
          cases hh : am_hp i with
          | false => exact am_sd1 X rfl hK hd hE g hl hz kk hstep hh
          | true => exact am_sd2 hG X rfl hK hU hd hE g hl hz kk hstep hRf hRl (by omega) (by omega) hh
        | .inr (.inl r0), hrun, hstep =>
          cases hrun
          obtain ⟨hst, hRD⟩ := am_ret_inv hd hstep
          have := hret H locs pc lsr g hRD
          rw [Nat.sub_self, Nat.sub_self, Nat.add_zero, Nat.add_zero, ← hst] at this
          exact this
        | .inr (.inr (y, vs, S')), hrun, hstep =>
          have hc : S'.2.2.2 = h ∧ S'.2.1 = ls := by
            cases i <;> simp only [am_do, am_ii, am_i1, am_ll, am_l1, am_r1, am_ri, am_cA, am_cL, am_cQ, am_cO, am_ix, Bool.cond_eq_ite] at hstep <;> (repeat' split at hstep) <;> first | (cases hstep; done) | (cases hstep; exact ⟨rfl, rfl⟩)
          cases d with
          | zero => simp at hrun
          | succ d' =>
            dsimp only at hrun
            split at hrun
            · cases hrun
            · rename_i hL
              rw [hc.1] at hrun
              cases hr : am_run P n d' (L - am_lc P y) y (0, am_ent vs (P y).2.1, [], h) with
              | none => rw [hr] at hrun; simp at hrun
              | some q =>
                obtain ⟨r1, h1⟩ := q
                rw [hr] at hrun
                dsimp only at hrun
                have g1 := am_run_grow _ _ _ _ _ _ hr
                have g2 := am_run_grow _ _ _ _ _ _ hrun
                dsimp only at g1 g2
                refine am_call hG hP ih X hK hd hE g hl hz hstep hRf hRl (by omega) (by omega) hr (by omega) (by omega) ?_
                intro H1 locs1 gg hz1
                rw [hc.2] at hrun
                refine ih (d' + 1) L M S'.1 ls (r1.toList ++ S'.2.2.1) h1 r h' hrun p e R s m args below meth c H1 locs1 _ _ Q lsr X hEnt hK gg hl hz1 hRf hRl (by omega) (by omega) ?_
                intro H2 locs2 pc1 lsr2 gg2 hRD
                have := hret H2 locs2 pc1 lsr2 gg2 hRD
                have e1 : cells + (h'.1 - h.1) = cells + (h1.1 - h.1) + (h'.1 - h1.1) := by omega
                have e2 : slots + (h'.2.1 - h.2.1) = slots + (h1.2.1 - h.2.1) + (h'.2.1 - h1.2.1) := by omega
                rw [e1, e2] at this
                exact this
