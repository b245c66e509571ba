/-! ===== the reference: scratches ===== -/
def fitO (T : Sd) (LW : LWt) (sq td j : Nat) (x : Int32) (u f f' : Nat) (n : Nat) : Nat := sm (fun o => if n_land T LW (sq * 3 + f) (6 * j + o) x = nI (td * 3 + f') then sx T (6 * j + o) * u else 0) n
def fitF (T : Sd) (LW : LWt) (sq td j : Nat) (x : Int32) (U : Nat → Nat) (f' : Nat) : Nat → Nat := fun f => if U f = 0 ∨ hm T (sq * 3 + f) = true ∨ mck T (sq * 3 + f) j = false then 0 else fitO T LW sq td j x (U f) f f' (oc T j)
/-- by faces: in how many ways it lies there, behind one kick more -/
def fitS (T : Sd) (LW : LWt) (sq td j : Nat) (x : Int32) (U : Nat → Nat) : Nat → Nat := fun f' => sm (fitF T LW sq td j x U f') 3
theorem fitO_le {T : Sd} {LW : LWt} {sq td j u f f' : Nat} {x : Int32} (hG : GS T) (hj : j < T.1 3) : fitO T LW sq td j x u f f' (oc T j) ≤ 6 * u := by
  obtain ⟨⟨g0, g0x⟩, ⟨g1, g1x⟩, ⟨g2, g2x⟩, ⟨g3, g3x⟩, g4, ⟨g5, g5x⟩, g6, gsq, goc, gwt, gsp, gfr⟩ := hG
  have h1 := sm_le (f := fun o => if n_land T LW (sq * 3 + f) (6 * j + o) x = nI (td * 3 + f') then sx T (6 * j + o) * u else 0) (g := fun o => sx T (6 * j + o)) (N := u) (oc T j) (fun i _ => by split; exact Nat.le_refl _; exact Nat.zero_le _)
  rw [(goc j hj).2.2.2.1] at h1
  exact h1
theorem fitF_le {T : Sd} {LW : LWt} {sq td j f f' N : Nat} {x : Int32} {U : Nat → Nat} (hG : GS T) (hj : j < T.1 3) (hU : U f ≤ N) : fitF T LW sq td j x U f' f ≤ 6 * N := by
  unfold fitF
  split
  · exact Nat.zero_le _
  · exact Nat.le_trans (fitO_le hG hj) (by omega)
theorem fitS_le {T : Sd} {LW : LWt} {sq td j f' N : Nat} {x : Int32} {U : Nat → Nat} (hG : GS T) (hj : j < T.1 3) (hU : ∀ f, f < 3 → U f ≤ N) : fitS T LW sq td j x U f' ≤ 18 * N := by
  have h0 := fitF_le (LW := LW) (sq := sq) (td := td) (f' := f') (x := x) hG hj (hU 0 (by decide))
  have h1 := fitF_le (LW := LW) (sq := sq) (td := td) (f' := f') (x := x) hG hj (hU 1 (by decide))
  have h2 := fitF_le (LW := LW) (sq := sq) (td := td) (f' := f') (x := x) hG hj (hU 2 (by decide))
  show 0 + fitF T LW sq td j x U f' 0 + fitF T LW sq td j x U f' 1 + fitF T LW sq td j x U f' 2 ≤ _
  omega
theorem sm_pos {f : Nat → Nat} : ∀ n, ¬ sm f n = 0 → ∃ i, i < n ∧ ¬ f i = 0 := by
  intro n
  induction n with
  | zero => intro h; exact absurd rfl h
  | succ n ih =>
    intro h
    by_cases e : f n = 0
    · have : ¬ sm f n = 0 := fun z => h (by show sm f n + f n = 0; omega)
      obtain ⟨i, h1, h2⟩ := ih this
      exact ⟨i, by omega, h2⟩
    · exact ⟨n, by omega, e⟩
/-- where it may lie so, it lies on a square -/
theorem fitS_lie {T : Sd} {LW : LWt} {sq td j f' : Nat} {x : Int32} {U : Nat → Nat} (hG : GS T) (hj : j < T.1 3) (ht : td < 32) (hf : f' < 3) (hU : ∀ f, f < 3 → ¬ U f = 0 → lieOK T (sq * 3 + f)) (h : ¬ fitS T LW sq td j x U f' = 0) : lieOK T (td * 3 + f') := by
  obtain ⟨f, h1, h2⟩ := sm_pos 3 h
  unfold fitF at h2
  split at h2
  · exact absurd rfl h2
  · rename_i h3
    have hl := hU f h1 (fun z => h3 (Or.inl z))
    obtain ⟨o, h4, h5⟩ := sm_pos _ h2
    split at h5
    · rename_i h6
      rcases n_land_lie (LW := LW) (x := x) hG hl (Or.inr ⟨j, o, hj, h4, rfl⟩) with h7 | ⟨m, h7, h8⟩
      · rw [h7] at h6; exact absurd h6.symm (n_m1 (by omega))
      · have := h7.1
        have e : m = td * 3 + f' := (nI_eq (by omega) (by omega)).mp (h8.symm.trans h6)
        rw [← e]; exact h7
    · exact absurd rfl h5
section M1
variable {g : am_H} {k : Mk} {v pl : Nat → Int32} {br lo : Int32} {c ct pr pt cm bf bt : Nat → Int32}
variable {lv : Nat} {T : Sd} {W : Nat → Lw}
variable {S : Nat → Nat}
set_option maxRecDepth 4000 in
theorem l_scr {Q : Option Value → am_H → Prop} (hM : MR k lv T W) (hG : GS T) {U : Nat → Nat} {i j sq td : Nat} (hi : i < 5) (hj : j < T.1 3) (hU : ∀ f, f < 3 → bf f = nI (U f)) (hUb : ∀ f, f < 3 → U f < 100000000) (hUl : ∀ f, f < 3 → ¬ U f = 0 → lieOK T (sq * 3 + f)) (hsq : sq < 32) (htd : k.2.1 64 i = nI (td % 8)) (hte : k.2.1 65 i = nI (td / 8)) (h32 : td < 32) (q : ∀ v pl br lo bf bt, (∀ f, f < 3 → bf f = nI (fitS T (lwf W) sq td j (nI (i * T.1 5)) U f)) → Q none (mh g k v pl br lo c ct pr pt cm bf bt)) : AW am_P 4 107 288 57 [some (.ref 121), some (.int (nI j)), some (.int (nI i)), some (.int (nI (sq % 8))), some (.int (nI (sq / 8))), none, none, none, none] [] (mh g k v pl br lo c ct pr pt cm bf bt) Q := by
  have hM0 := hM
  have hG0 := hG
  obtain ⟨m0, m1, mr, mw, mf, mk, mli, mt, ms, msq, moc, mwy, msp, mlw⟩ := hM
  obtain ⟨⟨g0, g0x⟩, ⟨g1, g1x⟩, ⟨g2, g2x⟩, ⟨g3, g3x⟩, g4, ⟨g5, g5x⟩, g6, gsq, goc, gwt, gsp, gfr⟩ := hG
  have hg := goc j hj
  have hoc : k.2.1 27 (4 * lv + j) = nI (oc T j) := (moc j hj).trans hg.1
  have ho6 := hg.2.2.1
  refine aw_c (v := nI 0) rfl (by decide) ?_
  refine aw_ist (ls' := [_, _, _, _, _, _, _, _, _]) rfl rfl ?_
  refine aw_loop (α := Nat → Int32) (ll := fun z y => [some (.ref 121), some (.int (nI j)), some (.int (nI i)), some (.int (nI (sq % 8))), some (.int (nI (sq / 8))), some (.int (nI z)), none, none, none]) (hh := fun z y => mh g k v pl br lo c ct pr pt cm bf y) (I := fun z y => ∀ f, f < z → y f = nI 0) (N := 3) (fun z y hz hIz ihz => ?_) (fun y hIz => ?_) 0 bt (Nat.zero_le _) (fun f hf => absurd hf (Nat.not_lt_zero _))
  · skip
    refine aw rfl rfl ?_
    refine aw_c (v := nI 3) rfl (by decide) ?_
    refine aw_igen rfl (fun c63 => by omega) (fun c63 => ?_)
    refine aw rfl rfl ?_
    refine aw_getf rfl mg_121 rfl ?_
    refine aw rfl rfl ?_
    refine aw_c (v := nI 0) rfl (by decide) ?_
    refine aw_iastU rfl mg_168 rfl (by omega) (by decide) (by decide) mu_168 ?_
    refine aw_incn (c := 1) (ls' := [_, _, _, _, _, _, _, _, _]) rfl rfl (by decide) rfl ?_
    refine aw rfl rfl ?_
    exact ihz (upd y z (nI 0)) (fun f hf => by
      by_cases e : f = z
      · subst e; exact upd_at
      · exact (upd_ne e).trans (hIz f (by omega)))
  · skip
    refine aw rfl rfl ?_
    refine aw_c (v := nI 3) rfl (by decide) ?_
    refine aw_ige rfl (fun _ => ?_) (fun c => absurd (by decide) c)
    refine aw_c (v := nI 0) rfl (by decide) ?_
    refine aw_ist (ls' := [_, _, _, _, _, _, _, _, _]) rfl rfl ?_
    refine aw_loop (α := (Nat → Int32) × (Nat → Int32) × Int32 × Int32 × (Nat → Int32) × Option Value × Option Value × Option Value) (ll := fun f y => [some (.ref 121), some (.int (nI j)), some (.int (nI i)), some (.int (nI (sq % 8))), some (.int (nI (sq / 8))), some (.int (nI f)), y.2.2.2.2.2.1, y.2.2.2.2.2.2.1, y.2.2.2.2.2.2.2]) (hh := fun f y => mh g k y.1 y.2.1 y.2.2.1 y.2.2.2.1 c ct pr pt cm bf y.2.2.2.2.1) (I := fun f y => ∀ f', f' < 3 → y.2.2.2.2.1 f' = nI (sm (fitF T (lwf W) sq td j (nI (i * T.1 5)) U f') f)) (N := 3) (fun f y hf hIf ihf => ?_) (fun y hIf => ?_) 0 (v, pl, br, lo, y, none, none, none) (Nat.zero_le _) hIz
    · skip
      obtain ⟨v, pl, br, lo, bt, l6, l7, l8⟩ := y
      dsimp only at hIf ⊢
      have hUf := hUb f hf
      refine aw rfl rfl ?_
      refine aw_c (v := nI 3) rfl (by decide) ?_
      refine aw_igen rfl (fun c86 => by omega) (fun c86 => ?_)
      refine aw rfl rfl ?_
      refine aw rfl rfl ?_
      refine aw rfl rfl ?_
      refine aw rfl rfl ?_
      refine aw_getf rfl mg_121 rfl ?_
      refine aw rfl rfl ?_
      refine aw_getfE rfl mg_121 rfl (congrArg Value.int m1) ?_
      refine aw_ialdE rfl mg_142 rfl (by omega) (by decide) mli ?_
      refine aw_cs (d1 := 0) (L1 := 0) rfl rfl (by decide) (by decide) (Nat.le_of_ble_eq_true rfl) (c_X11_numberOf ?_)
      rw [show ((8 * (sq / 8) + sq % 8) * 3 + f) * 4 + T.1 4 = 4 * (sq * 3 + f) + T.1 4 by omega]
      refine aw_ist (ls' := [_, _, _, _, _, _, _, _, _]) rfl rfl ?_
      refine aw rfl rfl ?_
      refine aw_getf rfl mg_121 rfl ?_
      refine aw rfl rfl ?_
      refine aw_ialdE rfl mg_167 rfl (by omega) (by decide) (hU f hf) ?_
      refine aw_eqn rfl (fun c115 => ?_) (fun c115 => ?_)
      · refine aw_incn (c := 1) (ls' := [_, _, _, _, _, _, _, _, _]) rfl rfl (by decide) rfl ?_
        refine aw rfl rfl ?_
        exact ihf (v, pl, br, lo, bt, some (.int (nI (4 * (sq * 3 + f) + T.1 4))), l7, l8) (fun f' hf' => (hIf f' hf').trans (congrArg nI (show sm (fitF T (lwf W) sq td j (nI (i * T.1 5)) U f') f = sm (fitF T (lwf W) sq td j (nI (i * T.1 5)) U f') f + fitF T (lwf W) sq td j (nI (i * T.1 5)) U f' f by rw [show fitF T (lwf W) sq td j (nI (i * T.1 5)) U f' f = 0 from if_pos (Or.inl c115)]; rfl)))
      · have hl := hUl f hf c115
        have hl96 := hl.1
        refine aw rfl rfl ?_
        refine aw rfl rfl ?_
        refine aw_cv (d1 := 1) (L1 := 22) rfl rfl mg_121 rfl rfl (by decide) (by decide) (Nat.le_of_ble_eq_true rfl) (c_so hM0 hG0 hl96 (by omega) hl.2.1 hl.2.2.1 ?_)
        refine aw_c (v := nI 6) rfl (by decide) ?_
        refine aw_ieq rfl (fun c126 => ?_) (fun c126 => ?_)
        · refine aw_incn (c := 1) (ls' := [_, _, _, _, _, _, _, _, _]) rfl rfl (by decide) rfl ?_
          refine aw rfl rfl ?_
          exact ihf (v, pl, br, lo, bt, some (.int (nI (4 * (sq * 3 + f) + T.1 4))), l7, l8) (fun f' hf' => (hIf f' hf').trans (congrArg nI (show sm (fitF T (lwf W) sq td j (nI (i * T.1 5)) U f') f = sm (fitF T (lwf W) sq td j (nI (i * T.1 5)) U f') f + fitF T (lwf W) sq td j (nI (i * T.1 5)) U f' f by rw [show fitF T (lwf W) sq td j (nI (i * T.1 5)) U f' f = 0 from if_pos (Or.inr (Or.inl (decide_eq_true c126)))]; rfl)))
        · refine aw rfl rfl ?_
          refine aw rfl rfl ?_
          refine aw rfl rfl ?_
          refine aw_cv (d1 := 2) (L1 := 43) rfl rfl mg_121 rfl rfl (by decide) (by decide) (Nat.le_of_ble_eq_true rfl) (c_X11_canKick hM0 hG0 hl (by omega) hj (fun hz => ?_) (fun hz => ?_))
          · refine aw_ne rfl (fun _ => ?_) (fun c => absurd c (by decide))
            refine aw_c (v := nI 0) rfl (by decide) ?_
            refine aw_ist (ls' := [_, _, _, _, _, _, _, _, _]) rfl rfl ?_
            refine aw_loop (α := (Nat → Int32) × (Nat → Int32) × Int32 × Int32 × (Nat → Int32) × Option Value) (ll := fun o y => [some (.ref 121), some (.int (nI j)), some (.int (nI i)), some (.int (nI (sq % 8))), some (.int (nI (sq / 8))), some (.int (nI f)), some (.int (nI (4 * (sq * 3 + f) + T.1 4))), some (.int (nI o)), y.2.2.2.2.2]) (hh := fun o y => mh g k y.1 y.2.1 y.2.2.1 y.2.2.2.1 c ct pr pt cm bf y.2.2.2.2.1) (I := fun o y => ∀ f', f' < 3 → y.2.2.2.2.1 f' = nI (sm (fitF T (lwf W) sq td j (nI (i * T.1 5)) U f') f + fitO T (lwf W) sq td j (nI (i * T.1 5)) (U f) f f' o)) (N := oc T j) (fun o y ho hIo iho => ?_) (fun y hIo => ?_) 0 (v, pl, br, lo, bt, l8) (Nat.zero_le _) hIf
            · skip
              obtain ⟨v, pl, br, lo, bt, l8⟩ := y
              dsimp only at hIo ⊢
              have hgo := hg.2.2.2.2 o ho
              have hsx : k.2.1 28 (6 * (4 * lv + j) + o) = nI (sx T (6 * j + o)) := (mwy j o hj ho).1.trans hgo.1
              refine aw rfl rfl ?_
              refine aw rfl rfl ?_
              refine aw_getf rfl mg_121 rfl ?_
              refine aw_c (v := nI 4) rfl (by decide) ?_
              refine aw rfl rfl ?_
              refine aw_getfE rfl mg_121 rfl (congrArg Value.int m1) ?_
              refine aw_muln rfl ?_
              refine aw rfl rfl ?_
              refine aw_addn rfl ?_
              refine aw_ialdE rfl mg_135 rfl (by omega) (by decide) hoc ?_
              refine aw_igen rfl (fun c160 => by omega) (fun c160 => ?_)
              refine aw rfl rfl ?_
              refine aw rfl rfl ?_
              refine aw rfl rfl ?_
              refine aw rfl rfl ?_
              refine aw rfl rfl ?_
              refine aw rfl rfl ?_
              refine aw_getf rfl mg_121 rfl ?_
              refine aw rfl rfl ?_
              refine aw_getfE rfl mg_121 rfl (congrArg Value.int m1) ?_
              refine aw_ialdE rfl mg_143 rfl (by omega) (by decide) mt ?_
              refine aw_muln rfl ?_
              refine aw_cv (d1 := 3) (L1 := 75) rfl rfl mg_121 rfl rfl (by decide) (by decide) (Nat.le_of_ble_eq_true rfl) (c_X11_brought hM0 hG0 hl (by omega) hj ho (fun z v pl br => ?_) (fun m z z2 v pl br => ?_))
              · refine aw_ist (ls' := [_, _, _, _, _, _, _, _, _]) rfl rfl ?_
                refine aw rfl rfl ?_
                refine aw_getf rfl mg_121 rfl ?_
                refine aw_ne rfl (fun _ => ?_) (fun c => absurd c (by decide))
                refine aw_incn (c := 1) (ls' := [_, _, _, _, _, _, _, _, _]) rfl rfl (by decide) rfl ?_
                refine aw rfl rfl ?_
                exact iho (v, pl, br, nI 1, bt, some (.int (nI (lsg (sq * 3 + f) (T.1 4))))) (fun f' hf' => (hIo f' hf').trans (congrArg (fun u => nI (_ + u)) (show fitO T (lwf W) sq td j (nI (i * T.1 5)) (U f) f f' o = fitO T (lwf W) sq td j (nI (i * T.1 5)) (U f) f f' o + (if n_land T (lwf W) (sq * 3 + f) (6 * j + o) (nI (i * T.1 5)) = nI (td * 3 + f') then sx T (6 * j + o) * U f else 0) by rw [if_neg (fun y => by rw [z] at y; exact n_m1 (by omega) y.symm)]; rfl)))
              · have hm96 := z2.1
                refine aw_ist (ls' := [_, _, _, _, _, _, _, _, _]) rfl rfl ?_
                refine aw rfl rfl ?_
                refine aw_getf rfl mg_121 rfl ?_
                refine aw_ne rfl (fun c => absurd (by decide) c) (fun _ => ?_)
                refine aw rfl rfl ?_
                refine aw_cs (d1 := 0) (L1 := 0) rfl rfl (by decide) (by decide) (Nat.le_of_ble_eq_true rfl) (c_al (by omega) (by omega) ?_)
                refine aw rfl rfl ?_
                refine aw_getf rfl mg_121 rfl ?_
                refine aw rfl rfl ?_
                refine aw_ialdE rfl mg_165 rfl (by omega) (by decide) htd ?_
                refine aw_inen rfl (fun c203 => ?_) (fun c203 => ?_)
                · refine aw_incn (c := 1) (ls' := [_, _, _, _, _, _, _, _, _]) rfl rfl (by decide) rfl ?_
                  refine aw rfl rfl ?_
                  exact iho (v, pl, br, nI 0, bt, some (.int (nI (4 * m + T.1 4)))) (fun f' hf' => (hIo f' hf').trans (congrArg (fun u => nI (_ + u)) (show fitO T (lwf W) sq td j (nI (i * T.1 5)) (U f) f f' o = fitO T (lwf W) sq td j (nI (i * T.1 5)) (U f) f f' o + (if n_land T (lwf W) (sq * 3 + f) (6 * j + o) (nI (i * T.1 5)) = nI (td * 3 + f') then sx T (6 * j + o) * U f else 0) by rw [if_neg (fun y => by rw [z] at y; have e9 := (nI_eq (by omega) (by omega)).mp y; omega)]; rfl)))
                · refine aw rfl rfl ?_
                  refine aw_cs (d1 := 0) (L1 := 0) rfl rfl (by decide) (by decide) (Nat.le_of_ble_eq_true rfl) (c_ac (by omega) (by omega) ?_)
                  refine aw rfl rfl ?_
                  refine aw_getf rfl mg_121 rfl ?_
                  refine aw rfl rfl ?_
                  refine aw_ialdE rfl mg_166 rfl (by omega) (by decide) hte ?_
                  refine aw_inen rfl (fun c217 => ?_) (fun c217 => ?_)
                  · refine aw_incn (c := 1) (ls' := [_, _, _, _, _, _, _, _, _]) rfl rfl (by decide) rfl ?_
                    refine aw rfl rfl ?_
                    exact iho (v, pl, br, nI 0, bt, some (.int (nI (4 * m + T.1 4)))) (fun f' hf' => (hIo f' hf').trans (congrArg (fun u => nI (_ + u)) (show fitO T (lwf W) sq td j (nI (i * T.1 5)) (U f) f f' o = fitO T (lwf W) sq td j (nI (i * T.1 5)) (U f) f f' o + (if n_land T (lwf W) (sq * 3 + f) (6 * j + o) (nI (i * T.1 5)) = nI (td * 3 + f') then sx T (6 * j + o) * U f else 0) by rw [if_neg (fun y => by rw [z] at y; have e9 := (nI_eq (by omega) (by omega)).mp y; omega)]; rfl)))
                  · refine aw rfl rfl ?_
                    refine aw_getf rfl mg_121 rfl ?_
                    refine aw rfl rfl ?_
                    refine aw_cs (d1 := 0) (L1 := 0) rfl rfl (by decide) (by decide) (Nat.le_of_ble_eq_true rfl) (c_fc (by omega) (by omega) ?_)
                    refine aw rfl rfl ?_
                    refine aw_ialdE rfl mg_168 rfl (by omega) (by decide) (hIo _ (by omega)) ?_
                    refine aw rfl rfl ?_
                    refine aw_getf rfl mg_121 rfl ?_
                    refine aw_c (v := nI 6) rfl (by decide) ?_
                    refine aw_c (v := nI 4) rfl (by decide) ?_
                    refine aw rfl rfl ?_
                    refine aw_getfE rfl mg_121 rfl (congrArg Value.int m1) ?_
                    refine aw_muln rfl ?_
                    refine aw rfl rfl ?_
                    refine aw_addn rfl ?_
                    refine aw_muln rfl ?_
                    refine aw rfl rfl ?_
                    refine aw_addn rfl ?_
                    refine aw_ialdE rfl mg_136 rfl (by omega) (by decide) hsx ?_
                    refine aw rfl rfl ?_
                    refine aw_getf rfl mg_121 rfl ?_
                    refine aw rfl rfl ?_
                    refine aw_ialdE rfl mg_167 rfl (by omega) (by decide) (hU f hf) ?_
                    refine aw_muln rfl ?_
                    refine aw_addn rfl ?_
                    refine aw_iastU rfl mg_168 rfl (by omega) (by decide) (by decide) mu_168 ?_
                    refine aw_incn (c := 1) (ls' := [_, _, _, _, _, _, _, _, _]) rfl rfl (by decide) rfl ?_
                    refine aw rfl rfl ?_
                    exact iho (v, pl, br, nI 0, upd bt (m % 3) (nI (sm (fitF T (lwf W) sq td j (nI (i * T.1 5)) U (m % 3)) f + fitO T (lwf W) sq td j (nI (i * T.1 5)) (U f) f (m % 3) o + sx T (6 * j + o) * U f)), some (.int (nI (4 * m + T.1 4)))) (fun f' hf' => by
                      by_cases e : f' = m % 3
                      · subst e
                        refine upd_at.trans (congrArg nI ?_)
                        show _ = _ + (fitO T (lwf W) sq td j (nI (i * T.1 5)) (U f) f (m % 3) o + (if n_land T (lwf W) (sq * 3 + f) (6 * j + o) (nI (i * T.1 5)) = nI (td * 3 + m % 3) then sx T (6 * j + o) * U f else 0))
                        rw [if_pos (by rw [z]; exact congrArg nI (by omega)), Nat.add_assoc]
                      · refine (upd_ne e).trans ((hIo f' hf').trans (congrArg (fun u => nI (_ + u)) (show fitO T (lwf W) sq td j (nI (i * T.1 5)) (U f) f f' o = fitO T (lwf W) sq td j (nI (i * T.1 5)) (U f) f f' o + (if n_land T (lwf W) (sq * 3 + f) (6 * j + o) (nI (i * T.1 5)) = nI (td * 3 + f') then sx T (6 * j + o) * U f else 0) by rw [if_neg (fun y => by rw [z] at y; have e9 := (nI_eq (by omega) (by omega)).mp y; omega)]; rfl))))
            · skip
              obtain ⟨v, pl, br, lo, bt, l8⟩ := y
              dsimp only at hIo ⊢
              refine aw rfl rfl ?_
              refine aw rfl rfl ?_
              refine aw_getf rfl mg_121 rfl ?_
              refine aw_c (v := nI 4) rfl (by decide) ?_
              refine aw rfl rfl ?_
              refine aw_getfE rfl mg_121 rfl (congrArg Value.int m1) ?_
              refine aw_muln rfl ?_
              refine aw rfl rfl ?_
              refine aw_addn rfl ?_
              refine aw_ialdE rfl mg_135 rfl (by omega) (by decide) hoc ?_
              refine aw_igen rfl (fun c160 => ?_) (fun c160 => by omega)
              refine aw_incn (c := 1) (ls' := [_, _, _, _, _, _, _, _, _]) rfl rfl (by decide) rfl ?_
              refine aw rfl rfl ?_
              exact ihf (v, pl, br, lo, bt, some (.int (nI (4 * (sq * 3 + f) + T.1 4))), _, _) (fun f' hf' => (hIo f' hf').trans (congrArg (fun u => nI (_ + u)) (show fitO T (lwf W) sq td j (nI (i * T.1 5)) (U f) f f' (oc T j) = fitF T (lwf W) sq td j (nI (i * T.1 5)) U f' f by unfold fitF; rw [if_neg (fun y => y.elim c115 (fun y => y.elim (fun y => c126 (of_decide_eq_true y)) (fun y => by rw [mck_iff.mpr hz] at y; cases y)))])))
          · refine aw_ne rfl (fun c => absurd (by decide) c) (fun _ => ?_)
            refine aw rfl rfl ?_
            refine aw_incn (c := 1) (ls' := [_, _, _, _, _, _, _, _, _]) rfl rfl (by decide) rfl ?_
            refine aw rfl rfl ?_
            exact ihf (v, pl, br, lo, bt, some (.int (nI (4 * (sq * 3 + f) + T.1 4))), l7, l8) (fun f' hf' => (hIf f' hf').trans (congrArg nI (show sm (fitF T (lwf W) sq td j (nI (i * T.1 5)) U f') f = sm (fitF T (lwf W) sq td j (nI (i * T.1 5)) U f') f + fitF T (lwf W) sq td j (nI (i * T.1 5)) U f' f by rw [show fitF T (lwf W) sq td j (nI (i * T.1 5)) U f' f = 0 from if_pos (Or.inr (Or.inr (Bool.eq_false_iff.mpr (fun y => hz (mck_iff.mp y)))))]; rfl)))
    · skip
      obtain ⟨v, pl, br, lo, bt, l6, l7, l8⟩ := y
      dsimp only at hIf ⊢
      refine aw rfl rfl ?_
      refine aw_c (v := nI 3) rfl (by decide) ?_
      refine aw_ige rfl (fun _ => ?_) (fun c => absurd (by decide) c)
      refine aw_c (v := nI 0) rfl (by decide) ?_
      refine aw_ist (ls' := [_, _, _, _, _, _, _, _, _]) rfl rfl ?_
      have hbt : ∀ f, f < 3 → bt f = nI (fitS T (lwf W) sq td j (nI (i * T.1 5)) U f) := hIf
      refine aw_loop (α := Nat → Int32) (ll := fun z y => [some (.ref 121), some (.int (nI j)), some (.int (nI i)), some (.int (nI (sq % 8))), some (.int (nI (sq / 8))), some (.int (nI z)), l6, l7, l8]) (hh := fun z y => mh g k v pl br lo c ct pr pt cm y bt) (I := fun z y => ∀ f, f < z → y f = nI (fitS T (lwf W) sq td j (nI (i * T.1 5)) U f)) (N := 3) (fun z y hz hIz ihz => ?_) (fun y hIz => ?_) 0 bf (Nat.zero_le _) (fun f hf => absurd hf (Nat.not_lt_zero _))
      · skip
        refine aw rfl rfl ?_
        refine aw_c (v := nI 3) rfl (by decide) ?_
        refine aw_igen rfl (fun c278 => by omega) (fun c278 => ?_)
        refine aw rfl rfl ?_
        refine aw_getf rfl mg_121 rfl ?_
        refine aw rfl rfl ?_
        refine aw rfl rfl ?_
        refine aw_getf rfl mg_121 rfl ?_
        refine aw rfl rfl ?_
        refine aw_iald rfl mg_168 rfl (by omega) (by decide) ?_
        refine aw_iastU rfl mg_167 rfl (by omega) (by decide) (by decide) mu_167 ?_
        refine aw_incn (c := 1) (ls' := [_, _, _, _, _, _, _, _, _]) rfl rfl (by decide) rfl ?_
        refine aw rfl rfl ?_
        exact ihz (upd y z (bt z)) (fun f hf => by
          by_cases e : f = z
          · subst e; exact upd_at.trans (hbt f (by omega))
          · exact (upd_ne e).trans (hIz f (by omega)))
      · skip
        refine aw rfl rfl ?_
        refine aw_c (v := nI 3) rfl (by decide) ?_
        refine aw_ige rfl (fun _ => ?_) (fun c => absurd (by decide) c)
        exact aw_vret rfl rfl (q _ _ _ _ _ _ hIz)
end M1
