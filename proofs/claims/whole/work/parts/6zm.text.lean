/-! ===== a text as a whole ===== -/
def otG (o : OT) : Prop := (1 ≤ o.1 ∧ o.1 ≤ 6) ∧ o.2.1 ≤ 4 ∧ o.2.2.2.1 ≤ 2 ∧ o.2.2.2.2 ≤ 2
/-- nothing wrong in what is told -/
def gD (D : Dt) : Prop := (1 ≤ D.2.2.1 2 ∧ D.2.2.1 2 ≤ 3) ∧ D.2.2.1 4 ≤ 2 ∧ (1 ≤ D.2.2.1 5 ∧ D.2.2.1 5 ≤ 99) ∧ D.2.2.1 6 ≤ 9999 ∧ (∀ i, i < 3 → D.2.2.2.1 i ≤ 9 ∧ D.2.2.2.2.1 i ≤ 9) ∧ ∀ x ∈ D.2.1, osm x.2 = 6 ∧ ∀ o ∈ x.2, otG o
section G1
variable {Y : Tk} {s : Ps} {D : Dt}
theorem iS_g {lo hi : Nat} (h0 : (iS Y lo hi s).2.1.1 = 0) (hl : (iS Y lo hi s).2.2.1 = 0) : s.2.1.1 = 0 ∧ s.2.2.1 = 0 ∧ lo ≤ iV Y lo s ∧ iV Y lo s ≤ hi := by
  obtain ⟨h1, h2, h3, h4, h5⟩ := iS_1 h0
  refine ⟨h1, iS_m hl, ?_⟩
  rw [h5] at hl
  by_cases hb : Y.2.2.1 s.1 < lo ∨ hi < Y.2.2.1 s.1
  · rw [if_pos hb] at hl; exact absurd hl (wr_l h1 (by decide))
  · unfold iV; rw [if_pos h2]; omega
theorem otc_g (h0 : (otc Y s).2.2.1.1 = 0) (hl : (otc Y s).2.2.2.1 = 0) : s.2.1.1 = 0 ∧ s.2.2.1 = 0 ∧ otG (otc Y s).1 := by
  unfold otc at h0 hl ⊢
  dsimp only at h0 hl ⊢
  obtain ⟨s1, e1⟩ : ∃ p, iS Y 1 6 s = p := ⟨_, rfl⟩
  rw [e1] at h0 hl ⊢
  obtain ⟨s2, e2⟩ : ∃ p, mu Y 23 s1 = p := ⟨_, rfl⟩
  rw [e2] at h0 hl ⊢
  obtain ⟨s3, e3⟩ : ∃ p, iS Y 0 4 s2 = p := ⟨_, rfl⟩
  rw [e3] at h0 hl ⊢
  obtain ⟨b, eb⟩ : ∃ b, decide (s3.2.1.1 = 0 ∧ Y.1 s3.1 = 9) = b := ⟨_, rfl⟩
  rw [eb] at h0 hl ⊢
  obtain ⟨s4, e4⟩ : ∃ p, (bif b then go Y s3 else s3) = p := ⟨_, rfl⟩
  rw [e4] at h0 hl ⊢
  obtain ⟨s5, e5⟩ : ∃ p, iS Y 0 2 s4 = p := ⟨_, rfl⟩
  rw [e5] at h0 hl ⊢
  obtain ⟨t, et⟩ : ∃ b, decide (s5.2.1.1 = 0 ∧ Y.1 s5.1 = 24) = b := ⟨_, rfl⟩
  rw [et] at h0 hl ⊢
  obtain ⟨s6, e6⟩ : ∃ p, (bif t then go Y s5 else s5) = p := ⟨_, rfl⟩
  rw [e6] at h0 hl ⊢
  have h7 : s6.2.1.1 = 0 ∧ s6.2.2.1 = 0 ∧ (bif t then iV Y 0 s6 else 0) ≤ 2 := by
    cases t with
    | true => have := iS_g h0 hl; exact ⟨this.1, this.2.1, this.2.2.2⟩
    | false => exact ⟨h0, hl, Nat.zero_le _⟩
  have h6 : s5.2.1.1 = 0 ∧ s5.2.2.1 = 0 := by
    rw [← e6] at h7
    cases t with
    | true => exact ⟨go_0 h7.1, by have := h7.2.1; rw [cond_true, go_l] at this; exact this⟩
    | false => exact ⟨h7.1, h7.2.1⟩
  rw [← e5] at h6
  have h5 := iS_g h6.1 h6.2
  have h4 : s3.2.1.1 = 0 ∧ s3.2.2.1 = 0 := by
    have a1 := h5.1
    have a2 := h5.2.1
    rw [← e4] at a1 a2
    cases b with
    | true => exact ⟨go_0 a1, by rw [cond_true, go_l] at a2; exact a2⟩
    | false => exact ⟨a1, a2⟩
  rw [← e3] at h4
  have h3 := iS_g h4.1 h4.2
  have h2 : s1.2.1.1 = 0 ∧ s1.2.2.1 = 0 := by
    have a1 := h3.1
    have a2 := h3.2.1
    rw [← e2] at a1 a2
    exact ⟨(mu_1 a1).1, by rw [mu_l] at a2; exact a2⟩
  rw [← e1] at h2
  have h1 := iS_g h2.1 h2.2
  exact ⟨h1.1, h1.2.1, ⟨h1.2.2.1, h1.2.2.2⟩, h3.2.2.2, h5.2.2.2, h7.2.2⟩
theorem ots_g : ∀ (n : Nat) (s : Ps), (ots Y n s).2.2.1.1 = 0 → (ots Y n s).2.2.2.1 = 0 → s.2.1.1 = 0 ∧ s.2.2.1 = 0 ∧ ∀ o ∈ (ots Y n s).1, otG o := by
  intro n
  induction n with
  | zero =>
    intro s
    rw [ots]
    split
    · intro h; exact absurd h (fl_0 (by decide))
    · intro h h1; exact ⟨h, h1, fun o ho => by simp at ho⟩
  | succ n ih =>
    intro s
    rw [ots]
    split
    · intro h h1
      obtain ⟨a1, a2, a3⟩ := ih _ h h1
      obtain ⟨b1, b2, b3⟩ := otc_g a1 a2
      refine ⟨b1, b2, fun o ho => ?_⟩
      rcases List.mem_cons.mp ho with rfl | ho
      · exact b3
      · exact a3 o ho
    · intro h h1; exact ⟨h, h1, fun o ho => by simp at ho⟩
theorem tl1_g (h0 : (tl1 Y D s).2.2.1.1 = 0) (hl : (tl1 Y D s).2.2.2.1 = 0) (hg : s.2.2.1 = 0 → gD D) : gD (tl1 Y D s).1 := by
  unfold tl1 at *
  split at h0
  · rename_i h; rw [if_pos h] at hl ⊢
    split at h0
    · exact absurd h0 (fl_0 (by decide))
    · rename_i h4; rw [if_neg h4] at hl ⊢
      have hl : (rwS Y D.1.length (D.1.headD []).length s).2.2.1 = 0 := hl
      have hs : s.2.2.1 = 0 := by
        unfold rwS at hl
        split at hl
        · have := wr_m (by decide) hl; rw [mu_l, go_l] at this; exact this
        · rw [mu_l, go_l] at hl; exact hl
      exact hg hs
  · rename_i h; rw [if_neg h] at hl ⊢
    split at h0
    · rename_i h; rw [if_pos h] at hl ⊢
      split at h0
      · exact absurd h0 (fl_0 (by decide))
      · rename_i h4; rw [if_neg h4] at hl ⊢
        have h0 : (kkS Y (kkT Y D s) s).2.1.1 = 0 := h0
        have hl : (kkS Y (kkT Y D s) s).2.2.1 = 0 := hl
        have h6 : osm (kkO Y (kkT Y D s) s) = 6 := by
          refine Decidable.of_not_not (fun w => ?_)
          unfold kkS at hl h0
          rw [if_neg w] at hl h0
          rw [wr_0.1] at h0
          exact absurd hl (wr_l h0 (by decide))
        unfold kkS at hl h0
        rw [if_pos h6] at hl h0
        obtain ⟨a1, a2, a3⟩ := ots_g _ _ h0 hl
        have hs : s.2.2.1 = 0 := by
          unfold kk1 at a2
          cases hk : kkT Y D s with
          | true => rw [hk, cond_true] at a2; have := wr_m (by decide) a2; rw [mu_l, go_l] at this; exact this
          | false => rw [hk, cond_false, mu_l, go_l] at a2; exact a2
        obtain ⟨g1, g2, g3, g4, g5, g6⟩ := hg hs
        refine ⟨g1, g2, g3, g4, g5, fun x hx => ?_⟩
        rcases List.mem_append.mp hx with hx | hx
        · exact g6 x hx
        · rw [List.mem_singleton] at hx
          subst hx
          exact ⟨h6, a3⟩
    · rename_i h; rw [if_neg h] at hl ⊢
      split at h0
      · rename_i h; rw [if_pos h] at hl ⊢
        have hl : (lwA Y s).2.2.2.1 = 0 := hl
        rw [lwA_l] at hl
        exact hg hl
      · rename_i h; rw [if_neg h] at hl ⊢
        split at h0
        · rename_i h; rw [if_pos h] at hl ⊢
          have c3 := iS_g h0 hl
          have c2 := iS_g c3.1 c3.2.1
          have c1 := iS_g c2.1 c2.2.1
          have hs : s.2.2.1 = 0 := by have := c1.2.1; rw [go_l] at this; exact this
          obtain ⟨g1, g2, g3, g4, g5, g6⟩ := hg hs
          refine ⟨g1, g2, g3, g4, fun i hi => ⟨?_, (g5 i hi).2⟩, g6⟩
          match i, hi with
          | 0, _ => exact c1.2.2.2
          | 1, _ => exact c2.2.2.2
          | 2, _ => exact c3.2.2.2
        · rename_i h; rw [if_neg h] at hl ⊢
          split at h0
          · rename_i h; rw [if_pos h] at hl ⊢
            have c3 := iS_g h0 hl
            have c2 := iS_g c3.1 c3.2.1
            have c1 := iS_g c2.1 c2.2.1
            have hs : s.2.2.1 = 0 := by have := c1.2.1; rw [go_l] at this; exact this
            obtain ⟨g1, g2, g3, g4, g5, g6⟩ := hg hs
            refine ⟨g1, g2, g3, g4, fun i hi => ⟨(g5 i hi).1, ?_⟩, g6⟩
            match i, hi with
            | 0, _ => exact c1.2.2.2
            | 1, _ => exact c2.2.2.2
            | 2, _ => exact c3.2.2.2
          · rename_i h; rw [if_neg h] at hl ⊢
            split at h0
            · rename_i h; rw [if_pos h] at hl ⊢
              have c1 := iS_g h0 hl
              have hs : s.2.2.1 = 0 := by have := c1.2.1; rw [go_l] at this; exact this
              obtain ⟨g1, g2, g3, g4, g5, g6⟩ := hg hs
              exact ⟨c1.2.2, g2, g3, g4, g5, g6⟩
            · rename_i h; rw [if_neg h] at hl ⊢
              split at h0
              · rename_i h; rw [if_pos h] at hl ⊢
                have c1 := iS_g h0 hl
                have hs : s.2.2.1 = 0 := by have := c1.2.1; rw [go_l] at this; exact this
                obtain ⟨g1, g2, g3, g4, g5, g6⟩ := hg hs
                exact ⟨g1, c1.2.2.2, g3, g4, g5, g6⟩
              · rename_i h; rw [if_neg h] at hl ⊢
                split at h0
                · rename_i h; rw [if_pos h] at hl ⊢
                  have c1 := iS_g h0 hl
                  have hs : s.2.2.1 = 0 := by have := c1.2.1; rw [go_l] at this; exact this
                  obtain ⟨g1, g2, g3, g4, g5, g6⟩ := hg hs
                  exact ⟨g1, g2, c1.2.2, g4, g5, g6⟩
                · rename_i h; rw [if_neg h] at hl ⊢
                  split at h0
                  · rename_i h; rw [if_pos h] at hl ⊢
                    have c1 := iS_g h0 hl
                    have hs : s.2.2.1 = 0 := by have := c1.2.1; rw [go_l] at this; exact this
                    obtain ⟨g1, g2, g3, g4, g5, g6⟩ := hg hs
                    exact ⟨g1, g2, g3, c1.2.2.2, g5, g6⟩
                  · exact absurd h0 (fl_0 (by decide))
theorem tl_g (h0 : (tl Y D s).2.2.1.1 = 0) (hg : s.2.2.1 = 0 → gD D) : (tl Y D s).2.2.2.1 = 0 → gD (tl Y D s).1 := by
  intro hl
  have h0 : (mu Y 4 (tl1 Y D s).2).2.1.1 = 0 := h0
  have hl : (mu Y 4 (tl1 Y D s).2).2.2.1 = 0 := hl
  rw [mu_l] at hl
  exact tl1_g (mu_1 h0).1 hl hg
end G1
def tls (Y : Tk) : Nat → Dt → Ps → Dt × Ps
  | 0, D, s => (D, s)
  | n + 1, D, s => if s.2.1.1 = 0 ∧ ¬ Y.1 s.1 = 0 then tls Y n (tl Y D s).1 (tl Y D s).2 else (D, s)
def s00 : Ps := (0, (0, 0), (0, 0))
def rd (Y : Tk) : Dt × Ps := tls Y 401 D0 s00
theorem tls_f {Y : Tk} {n : Nat} {D : Dt} {s : Ps} (h : ¬ s.2.1.1 = 0) : tls Y n D s = (D, s) := by
  cases n with
  | zero => rfl
  | succ n => rw [tls, if_neg (fun w => h w.1)]
/-- a stone may lie there -/
def spB9 (D : Dt) (v : Nat → Nat) : Bool := decide (v 0 < (D.1.headD []).length ∧ v 1 < D.1.length ∧ v 2 < D.2.2.1 2 ∧ ¬ soL ((D.1.getD (v 1) []).getD (v 0) 0) = nI 4 ∧ ¬ soL ((D.1.getD (v 1) []).getD (v 0) 0) = nI 5)
def whB (D : Dt) : Bool := decide (0 < D.1.length ∧ 0 < D.2.1.length) && spB9 D D.2.2.2.1 && spB9 D D.2.2.2.2.1
/-- a text's fault, its place -/
def rdR (Y : Tk) (n : Nat) : Nat × Int32 := if ¬ (rd Y).2.2.1.1 = 0 then ((rd Y).2.2.1.1, nI (rd Y).2.2.1.2) else if ¬ (rd Y).2.2.2.1 = 0 then ((rd Y).2.2.2.1, nI (rd Y).2.2.2.2) else if whB (rd Y).1 = true then (0, -1) else (7, nI n)

