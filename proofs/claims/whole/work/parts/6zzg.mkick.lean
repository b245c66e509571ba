/-! ===== the reference's reader: tellKick, whole ===== -/
def YNm (Y : Tk) : Prop := ∀ i, i ≤ 400 → (∀ j, j < i → ¬ Y.1 j = 0) → Y.1 i = 1 → ltO (Y.2.2.2 i) ∧ (Y.2.2.2 i).length ≤ 8
theorem osM_cg {k k' : Mk} : ∀ (os : List OT) (b : Nat), (∀ n i, 28 ≤ n → n ≤ 31 → b ≤ i → i < b + os.length → k'.2.1 n i = k.2.1 n i) → osM k b os → osM k' b os := by
  intro os
  induction os with
  | nil => intro b _ _; trivial
  | cons o r ih =>
    intro b h hr
    have hl : (o :: r).length = r.length + 1 := rfl
    obtain ⟨⟨r1, r2, r3, r4⟩, rr⟩ := hr
    refine ⟨⟨?_, ?_, ?_, ?_⟩, ih (b + 1) (fun n i h2 h5 hi hi2 => h n i h2 h5 (by omega) (by omega)) rr⟩
    · rw [h 28 b (by decide) (by decide) (Nat.le_refl _) (by omega)]; exact r1
    · rw [h 29 b (by decide) (by decide) (Nat.le_refl _) (by omega)]; exact r2
    · rw [h 30 b (by decide) (by decide) (Nat.le_refl _) (by omega)]; exact r3
    · rw [h 31 b (by decide) (by decide) (Nat.le_refl _) (by omega)]; exact r4
section C1
variable {g : am_H} {k : Mk} {v pl : Nat → Int32} {br lo : Int32} {c ct pr pt cm bf bt : Nat → Int32}
variable {Y : Tk} {s : Ps}
variable {sd j : Nat}
theorem l_mkN {Q : Option Value → am_H → Prop} {k : Mk} {kk tk : Nat} {nm : Nat → List Nat} {x : List Nat} (hj : j < 5) (hR : RM Y k s) (h20 : k.1 20 = nI j) (htk : tk ≤ 400) (ht2 : s.2.1.1 = 0 → (∀ i, i < tk → ¬ Y.1 i = 0) ∧ k.2.2 8 tk = n27 x ∧ ltO x ∧ x.length ≤ 8) (hn : ∀ i, i < j → k.2.2 21 i = n27 (nm i) ∧ ltO (nm i) ∧ (nm i).length ≤ 8) (q : ∀ k' n', RM Y k' (bif tbN nm x j then wr 3 (Y.2.1 tk) s else s) → KM k k' → AW am_P 4 87 210 76 [some (.ref 121), some (.int (nI kk)), some (.int (nI tk)), some (.int (nI n')), none] [] (mh g k' v pl br lo c ct pr pt cm bf bt) Q) : AW am_P 4 87 210 33 [some (.ref 121), some (.int (nI kk)), some (.int (nI tk)), some (.int (nI 0)), none] [] (mh g k v pl br lo c ct pr pt cm bf bt) Q := by
  by_cases hf : s.2.1.1 = 0
  · have h13 := hR.2.2.2.1
    obtain ⟨hz, h8, hx1, hx2⟩ := ht2 hf
    refine aw_loop (α := Mk) (ll := fun i y => [some (.ref 121), some (.int (nI kk)), some (.int (nI tk)), some (.int (nI i)), none]) (hh := fun i y => (mh g y v pl br lo c ct pr pt cm bf bt)) (I := fun i y => RM Y y (bif tbN nm x i then wr 3 (Y.2.1 tk) s else s) ∧ KM k y) (N := j) (fun i y hi hI ih => ?_) (fun y hI => ?_) 0 k (Nat.zero_le _) ⟨hR, KM.rf⟩
    · obtain ⟨hR1, hk1⟩ := hI
      have h130 : y.1 13 = nI 0 := by
        rw [hR1.2.2.2.1]
        cases tbN nm x i
        · show nI s.2.1.1 = _; rw [hf]
        · show nI (wr 3 (Y.2.1 tk) s).2.1.1 = _; rw [wr_0.1, hf]
      have h201 : y.1 20 = nI j := by rw [hk1.1 20 (by omega), h20]
      have hfo : (bif tbN nm x i then wr 3 (Y.2.1 tk) s else s).2.1.1 = 0 := by
        cases tbN nm x i
        · exact hf
        · show (wr 3 (Y.2.1 tk) s).2.1.1 = 0; rw [wr_0.1, hf]
      obtain ⟨n1, n2, n3⟩ := hn i hi
      refine aw rfl rfl ?_
      refine aw rfl rfl ?_
      refine aw_getfE rfl mg_121 rfl (congrArg Value.int h201) ?_
      refine aw_igen rfl (fun c38 => by omega) (fun c38 => ?_)
      refine aw rfl rfl ?_
      refine aw_getfE rfl mg_121 rfl (congrArg Value.int h130) ?_
      refine aw_ne rfl (fun c => absurd (by decide) c) (fun _ => ?_)
      refine aw rfl rfl ?_
      refine aw_getf rfl mg_121 rfl ?_
      refine aw rfl rfl ?_
      refine aw_lald rfl mg_129 rfl (by omega) (by decide) ?_
      refine aw rfl rfl ?_
      refine aw_getf rfl mg_121 rfl ?_
      refine aw rfl rfl ?_
      refine aw_lald rfl mg_127 rfl (by omega) (by decide) ?_
      refine aw rfl rfl ?_
      refine aw_ne rfl (fun c61 => ?_) (fun c61 => ?_)
      · refine aw_incn (c := 1) (ls' := [_, _, _, _, _]) rfl rfl (by decide) rfl ?_
        refine aw rfl rfl ?_
        have e1 : ¬ nm i = x := fun w => c61 ((lg_cmp_eq _ _).mpr (by
          rw [hk1.2, n1, h8, w]))
        refine ih y ⟨?_, hk1⟩
        have e2 : tbN nm x (i + 1) = tbN nm x i := by rw [tbN, show (nm i == x) = false from beq_eq_false_iff_ne.mpr e1, Bool.or_false]
        rw [e2]; exact hR1
      · refine aw rfl rfl ?_
        refine aw_c (v := nI 3) rfl (by decide) ?_
        refine aw rfl rfl ?_
        refine aw_cv (d1 := 0) (L1 := 0) rfl rfl mg_121 rfl rfl (by decide) (by decide) (Nat.le_of_ble_eq_true rfl) (c_X11_wrong (t := tk) hR1 (by decide) htk (fun _ => hz) (fun k1 hR2 hk2 => ?_))
        refine aw_incn (c := 1) (ls' := [_, _, _, _, _]) rfl rfl (by decide) rfl ?_
        refine aw rfl rfl ?_
        have e1 : nm i = x := (n27_inj n2 hx1 n3 hx2).mp (by
          have w := (lg_cmp_eq _ _).mp c61
          rw [hk1.2] at w
          rw [← n1, ← h8]; exact w)
        refine ih k1 ⟨?_, hk1.tr hk2⟩
        have e2 : tbN nm x (i + 1) = true := by rw [tbN, e1]; simp
        rw [e2]
        cases hb : tbN nm x i
        · rw [hb] at hR2; exact hR2
        · rw [hb] at hR2
          have w9 : wr 3 (Y.2.1 tk) (bif true then wr 3 (Y.2.1 tk) s else s) = wr 3 (Y.2.1 tk) s := wr_i
          rw [w9] at hR2; exact hR2
    · obtain ⟨hR1, hk1⟩ := hI
      have h201 : y.1 20 = nI j := by rw [hk1.1 20 (by omega), h20]
      refine aw rfl rfl ?_
      refine aw rfl rfl ?_
      refine aw_getfE rfl mg_121 rfl (congrArg Value.int h201) ?_
      refine aw_igen rfl (fun c38 => ?_) (fun c38 => by omega)
      exact q y j hR1 hk1
  · have hb : (bif tbN nm x j then wr 3 (Y.2.1 tk) s else s) = s := by
      cases tbN nm x j
      · rfl
      · exact wr_f hf
    rw [hb] at q
    have h13 := hR.2.2.2.1
    have hf8 := hR.2.2.1
    refine aw rfl rfl ?_
    refine aw rfl rfl ?_
    refine aw_getfE rfl mg_121 rfl (congrArg Value.int h20) ?_
    refine aw_igen rfl (fun c38 => ?_) (fun c38 => ?_)
    · exact q k 0 hR KM.rf
    · refine aw rfl rfl ?_
      refine aw_getfE rfl mg_121 rfl (congrArg Value.int h13) ?_
      refine aw_nen rfl (fun c45 => ?_) (fun c45 => absurd c45 hf)
      exact q k 0 hR KM.rf
set_option maxRecDepth 4000 in
theorem c_X11_tellKick {Q : Option Value → am_H → Prop} (hs : sd < 2) (hj : j < 4) (hYN : YNm Y) (hR : RM Y k s) (hne : s.2.1.1 = 0 → ¬ Y.1 s.1 = 0) (h19 : k.1 19 = nI sd) (h26 : k.2.1 26 sd = nI j) (h20 : k.1 20 = nI j) {nm : Nat → List Nat} (hn : ∀ i, i < j → k.2.2 21 i = n27 (nm i) ∧ ltO (nm i) ∧ (nm i).length ≤ 8) (q : ∀ k', RM Y k' (mu Y 4 (kkS Y (tbN nm (kkN Y s) j) s)) → KKk sd j k k' → ((mu Y 4 (kkS Y (tbN nm (kkN Y s) j) s)).2.1.1 = 0 → k'.2.1 26 sd = nI (j + 1) ∧ k'.1 20 = nI (j + 1) ∧ k'.2.1 27 (4 * sd + j) = nI (kkO Y (tbN nm (kkN Y s) j) s).length ∧ osM k' (6 * (4 * sd + j)) (kkO Y (tbN nm (kkN Y s) j) s) ∧ k'.2.2 21 = vp_updL (k.2.2 21) j (n27 (kkN Y s))) → Q none (mh g k' v pl br lo c ct pr pt cm bf bt)) : AC am_P 4 87 210 [.ref 121] (mh g k v pl br lo c ct pr pt cm bf bt) Q := by
  refine AC.of (ls := [_, _, _, _, _]) rfl ?_
  refine aw rfl rfl ?_
  refine aw_cv (d1 := 1) (L1 := 21) rfl rfl mg_121 rfl rfl (by decide) (by decide) (Nat.le_of_ble_eq_true rfl) (c_X11_goesOn hR hne (fun k1 hR1 hk1 => ?_))
  obtain ⟨tk, htk, h11, hgt⟩ : ∃ tk : Nat, tk ≤ 400 ∧ k1.1 11 = nI tk ∧ ((go Y s).2.1.1 = 0 → tk = (go Y s).1) := by
    by_cases hg : (go Y s).2.1.1 = 0
    · exact ⟨(go Y s).1, hR1.2.1, (hR1.2.2.2.2.1 hg).1, fun _ => rfl⟩
    · obtain ⟨_, _, t, h1, h2⟩ := hR1.2.2.2.2.2 hg
      exact ⟨t, h1, h2, fun w => absurd w hg⟩
  refine aw_c (v := nI 4) rfl (by decide) ?_
  refine aw rfl rfl ?_
  refine aw_getfE rfl mg_121 rfl (congrArg Value.int (show k1.1 19 = nI sd by rw [hk1.1 19 (by omega)]; exact h19)) ?_
  refine aw_muln rfl ?_
  refine aw rfl rfl ?_
  refine aw_getf rfl mg_121 rfl ?_
  refine aw rfl rfl ?_
  refine aw_getfE rfl mg_121 rfl (congrArg Value.int (show k1.1 19 = nI sd by rw [hk1.1 19 (by omega)]; exact h19)) ?_
  refine aw_ialdE rfl mg_134 rfl (by omega) (by decide) (show k1.2.1 26 sd = nI j by rw [hk1.2]; exact h26) ?_
  refine aw_addn rfl ?_
  refine aw_ist (ls' := [_, _, _, _, _]) rfl rfl ?_
  refine aw rfl rfl ?_
  refine aw_getfE rfl mg_121 rfl (congrArg Value.int h11) ?_
  refine aw_ist (ls' := [_, _, _, _, _]) rfl rfl ?_
  refine aw rfl rfl ?_
  refine aw_c (v := nI 1) rfl (by decide) ?_
  refine aw_cv (d1 := 2) (L1 := 41) rfl rfl mg_121 rfl rfl (by decide) (by decide) (Nat.le_of_ble_eq_true rfl) (c_mmu hR1 rfl (by decide) (fun k2 hR2 hk2 => ?_))
  refine aw_c (v := nI 0) rfl (by decide) ?_
  refine aw_ist (ls' := [_, _, _, _, _]) rfl rfl ?_
  have hk2' := hk1.tr hk2
  have hgo : (mu Y 1 (go Y s)).2.1.1 = 0 → (go Y s).2.1.1 = 0 ∧ Y.1 (go Y s).1 = 1 := by
    intro w
    have h1 : (go Y s).2.1.1 = 0 := Decidable.of_not_not (fun z => by rw [mu_f z] at w; exact z w)
    refine ⟨h1, Decidable.of_not_not (fun z => ?_)⟩
    unfold mu at w
    rw [if_pos ⟨h1, z⟩] at w
    exact fl_0 (by decide) w
  have ht2 : (mu Y 1 (go Y s)).2.1.1 = 0 → (∀ i, i < tk → ¬ Y.1 i = 0) ∧ k2.2.2 8 tk = n27 (kkN Y s) ∧ ltO (kkN Y s) ∧ (kkN Y s).length ≤ 8 := by
    intro w
    obtain ⟨h1, h2⟩ := hgo w
    have e1 := hgt h1
    subst e1
    have h3 := (hR1.2.2.2.2.1 h1).2.1
    exact ⟨h3, (hR2.1.1 _ htk h3).2.2.2 h2, hYN _ htk h3 h2⟩
  refine l_mkN (s := mu Y 1 (go Y s)) (x := kkN Y s) (nm := nm) (j := j) (by omega) hR2 (by rw [hk2'.1 20 (by omega)]; exact h20) htk ht2 (fun i hi => by rw [hk2'.2]; exact hn i hi) (fun k3 n3 hR3 hk3 => ?_)
  have e3 : (bif tbN nm (kkN Y s) j then wr 3 (Y.2.1 tk) (mu Y 1 (go Y s)) else mu Y 1 (go Y s)) = kk1 Y (tbN nm (kkN Y s) j) s := by
    unfold kk1
    by_cases w : (mu Y 1 (go Y s)).2.1.1 = 0
    · rw [hgt (hgo w).1]
    · rw [wr_f w, wr_f w]
  rw [e3] at hR3
  obtain ⟨tw, htw⟩ : ∃ b, tbN nm (kkN Y s) j = b := ⟨_, rfl⟩
  rw [htw] at hR3 q
  have hk3' := hk2'.tr hk3
  have hko : kkO Y tw s = (ots Y 6 (kk1 Y tw s)).1 := rfl
  have hkf : (kk1 Y tw s).2.1.1 = 0 → (mu Y 1 (go Y s)).2.1.1 = 0 := by
    intro w
    unfold kk1 at w
    cases tw
    · exact w
    · rw [cond_true, wr_0.1] at w; exact w
  have hof : (ots Y 6 (kk1 Y tw s)).2.2.1.1 = 0 → (kk1 Y tw s).2.1.1 = 0 := fun w => Decidable.of_not_not (fun z => by rw [ots_f z] at w; exact z w)
  have hks : (if osm (kkO Y tw s) = 6 then (ots Y 6 (kk1 Y tw s)).2 else wr 5 (Y.2.1 tk) (ots Y 6 (kk1 Y tw s)).2) = kkS Y tw s := by
    unfold kkS
    by_cases w : (ots Y 6 (kk1 Y tw s)).2.2.1.1 = 0
    · rw [hgt (hgo (hkf (hof w))).1]
    · rw [wr_f w, wr_f w]
  refine aw_c (v := nI 0) rfl (by decide) ?_
  refine aw_ist (ls' := [_, _, _, _, _]) rfl rfl ?_
  refine aw_c (v := nI 0) rfl (by decide) ?_
  refine aw_ist (ls' := [_, _, _, _, _]) rfl rfl ?_
  refine l_mots (kk := 4 * sd + j) (tk := tk) (by omega) 6 0 (kk1 Y tw s) k3 (nI 0) rfl hR3 (fun k4 hf4 hR4 hk4 => ?_) (fun k4 n4 x4 hR4 hk4 ok4 => ?_)
  · have e4 : mu Y 4 (kkS Y tw s) = (ots Y 6 (kk1 Y tw s)).2 := by
      rw [← hks]
      split
      · exact mu_f hf4
      · rw [wr_f hf4]; exact mu_f hf4
    rw [e4] at q
    exact q k4 hR4 ((KM.kk (sd := sd) (j := j) hk3').tr (KOs.kk (sd := sd) (j := j) hk4)) (fun w => absurd w hf4)
  · have h9 := ots_9 hR.1.2.1 6 (kk1 Y tw s)
    refine l_mkE (sd := sd) (j := j) (n9 := n4) (m := osm (kkO Y tw s)) hs hj hR4 (by rw [hk4.1 19 (by omega), hk3'.1 19 (by omega)]; exact h19) (by rw [hk4.2.1 26 (by omega), hk3'.2]; exact h26) (by rw [hk4.1 20 (by omega), hk3'.1 20 (by omega)]; exact h20) htk (fun w => (ht2 (hkf (hof w))).1) (by rw [hko]; omega) (fun w => by rw [(ok4 w).2.1, nI_add, Nat.zero_add, hko]) (fun k5 hR5 hk5 ok5 => ?_)
    rw [hks] at hR5 ok5
    refine q k5 hR5 (((KM.kk (sd := sd) (j := j) hk3').tr (KOs.kk (sd := sd) (j := j) hk4)).tr hk5) (fun w => ?_)
    obtain ⟨u1, u2, u3, u4, u5⟩ := ok5 w
    have hw0 : (ots Y 6 (kk1 Y tw s)).2.2.1.1 = 0 := by
      refine Decidable.of_not_not (fun z => ?_)
      have e5 : kkS Y tw s = (ots Y 6 (kk1 Y tw s)).2 := by
        rw [← hks]
        split
        · rfl
        · exact wr_f z
      rw [e5, mu_f z] at w
      exact z w
    obtain ⟨y1, y2, y3⟩ := ok4 hw0
    rw [Nat.zero_add] at y1
    refine ⟨u1, u2, by rw [u3, y1, hko], osM_cg _ _ (fun n i a b _ _ => u4 n i a b) y3, ?_⟩
    rw [u5, hk4.2.2.2, hk3'.2, ← (ht2 (hkf (hof hw0))).2.1, hk2'.2]
end C1
