/-! ===== the reference's reader: is, fail, wrong, goesOn, must, bounded ===== -/
/-- a name of letters, as the reference has it -/
def n27 (l : List Nat) : Int64 := Int64.ofNat (nr 27 l.reverse)
def TKM (Y : Tk) (k : Mk) : Prop := ∀ i, i ≤ 400 → (∀ j, j < i → ¬ Y.1 j = 0) → k.2.1 5 i = nI (Y.1 i) ∧ k.2.1 6 i = nI (Y.2.1 i) ∧ (Y.1 i = 2 → k.2.1 7 i = nI (Y.2.2.1 i)) ∧ (Y.1 i = 1 → k.2.2 8 i = n27 (Y.2.2.2 i))
/-- what the reference's reader holds -/
def RM (Y : Tk) (k : Mk) (s : Ps) : Prop := (TKM Y k ∧ YV Y ∧ ∀ i, Y.2.1 i ≤ 2000) ∧ s.1 ≤ 400 ∧ s.2.1.1 < 8 ∧ k.1 13 = nI s.2.1.1 ∧ (s.2.1.1 = 0 → k.1 11 = nI s.1 ∧ (∀ j, j < s.1 → ¬ Y.1 j = 0) ∧ s.2.2.1 < 8 ∧ k.1 15 = nI s.2.2.1 ∧ (¬ s.2.2.1 = 0 → k.1 16 = nI s.2.2.2 ∧ s.2.2.2 ≤ 2000)) ∧ (¬ s.2.1.1 = 0 → k.1 14 = nI s.2.1.2 ∧ s.2.1.2 ≤ 2000 ∧ ∃ t : Nat, t ≤ 400 ∧ k.1 11 = nI t)
def KM (k k' : Mk) : Prop := (∀ n, ¬ (n = 11 ∨ (13 ≤ n ∧ n ≤ 16)) → k'.1 n = k.1 n) ∧ k'.2 = k.2
theorem KM.rf {k : Mk} : KM k k := ⟨fun _ _ => rfl, rfl⟩
theorem KM.tr {k k1 k2 : Mk} (h : KM k k1) (h1 : KM k1 k2) : KM k k2 := ⟨fun n hn => (h1.1 n hn).trans (h.1 n hn), h1.2.trans h.2⟩
theorem RM.flt {Y : Tk} {k k' : Mk} {s : Ps} (h : RM Y k s) (hf : ¬ s.2.1.1 = 0) (h13 : k'.1 13 = k.1 13) (h14 : k'.1 14 = k.1 14) (h11 : ∃ t : Nat, t ≤ 400 ∧ k'.1 11 = nI t) (hk : k'.2 = k.2) : RM Y k' s := by
  obtain ⟨⟨h1, h1b⟩, h2, h3, h4, h5, h6⟩ := h
  refine ⟨⟨?_, h1b⟩, h2, h3, by rw [h13]; exact h4, fun z => absurd z hf, fun z => ⟨by rw [h14]; exact (h6 z).1, (h6 z).2.1, h11⟩⟩
  unfold TKM at *
  rw [hk]
  exact h1
theorem RM.tk {Y : Tk} {k : Mk} {s : Ps} (h : RM Y k s) (hf : s.2.1.1 = 0) : k.2.1 5 s.1 = nI (Y.1 s.1) ∧ k.2.1 6 s.1 = nI (Y.2.1 s.1) ∧ (Y.1 s.1 = 2 → k.2.1 7 s.1 = nI (Y.2.2.1 s.1)) ∧ (Y.1 s.1 = 1 → k.2.2 8 s.1 = n27 (Y.2.2.2 s.1)) := h.1.1 s.1 h.2.1 (h.2.2.2.2.1 hf).2.1
theorem RM.kl {Y : Tk} {k : Mk} {s : Ps} (h : RM Y k s) (i : Nat) : Y.1 i ≤ 42 := by
  have := h.1.2.1.1 i
  unfold kOK sgK at this
  omega
section C1
variable {g : am_H} {k : Mk} {v pl : Nat → Int32} {br lo : Int32} {c ct pr pt cm bf bt : Nat → Int32}
variable {Y : Tk} {s : Ps}
theorem c_X11_is {Q : Option Value → am_H → Prop} (hR : RM Y k s) {x : Nat} (hx : x < 100) (q1 : s.2.1.1 = 0 → Y.1 s.1 = x → Q (some (.int (nI 1))) (mh g k v pl br lo c ct pr pt cm bf bt)) (q0 : (s.2.1.1 = 0 → ¬ Y.1 s.1 = x) → Q (some (.int (nI 0))) (mh g k v pl br lo c ct pr pt cm bf bt)) : AC am_P 0 0 201 [.ref 121, .int (nI x)] (mh g k v pl br lo c ct pr pt cm bf bt) Q := by
  refine AC.of (ls := [_, _]) rfl ?_
  have h13 := hR.2.2.2.1
  have hf8 := hR.2.2.1
  have hs4 := hR.2.1
  refine aw rfl rfl ?_
  refine aw_getfE rfl mg_121 rfl (congrArg Value.int h13) ?_
  refine aw_nen rfl (fun c4 => ?_) (fun c4 => ?_)
  · refine aw_c (v := nI 0) rfl (by decide) ?_
    exact aw_iret rfl rfl (q0 (fun w => absurd w c4))
  · have hf : s.2.1.1 = 0 := c4
    have h11 := (hR.2.2.2.2.1 hf).1
    have ht := hR.tk hf
    have hkl := hR.kl s.1
    refine aw rfl rfl ?_
    refine aw_getf rfl mg_121 rfl ?_
    refine aw rfl rfl ?_
    refine aw_getfE rfl mg_121 rfl (congrArg Value.int h11) ?_
    refine aw_ialdE rfl mg_124 rfl (by omega) (by decide) ht.1 ?_
    refine aw rfl rfl ?_
    refine aw_inen rfl (fun c17 => ?_) (fun c17 => ?_)
    · refine aw_c (v := nI 0) rfl (by decide) ?_
      exact aw_iret rfl rfl (q0 (fun _ => c17))
    · refine aw_c (v := nI 1) rfl (by decide) ?_
      refine aw rfl rfl ?_
      exact aw_iret rfl rfl (q1 hf c17)
theorem c_X11_fail {Q : Option Value → am_H → Prop} (hR : RM Y k s) {x : Nat} (hx : 1 ≤ x ∧ x < 8) (q : ∀ k', RM Y k' (fl Y x s) → KM k k' → Q none (mh g k' v pl br lo c ct pr pt cm bf bt)) : AC am_P 0 0 203 [.ref 121, .int (nI x)] (mh g k v pl br lo c ct pr pt cm bf bt) Q := by
  refine AC.of (ls := [_, _]) rfl ?_
  have hR0 := hR
  obtain ⟨hA, hs4, hf8, h13, hok, hfl⟩ := hR
  refine aw rfl rfl ?_
  refine aw_getfE rfl mg_121 rfl (congrArg Value.int h13) ?_
  refine aw_len rfl (fun c4 => ?_) (fun c4 => ?_)
  · have hf : s.2.1.1 = 0 := by omega
    have ht := hR0.tk hf
    refine aw rfl rfl ?_
    refine aw rfl rfl ?_
    refine aw_putfU rfl mg_121 rfl rfl (by decide) mp_13 ?_
    refine aw rfl rfl ?_
    refine aw rfl rfl ?_
    refine aw_getf rfl mg_121 rfl ?_
    refine aw rfl rfl ?_
    refine aw_getfE rfl mg_121 rfl (congrArg Value.int (hok hf).1) ?_
    refine aw_ialdE rfl mg_125 rfl (by omega) (by decide) ht.2.1 ?_
    refine aw_putfU rfl mg_121 rfl rfl (by decide) mp_14 ?_
    exact aw_vret rfl rfl (q _ (by
    rw [show fl Y x s = (s.1, (x, Y.2.1 s.1), s.2.2) from if_pos hf]
    exact ⟨hA, hs4, hx.2, rfl, fun w => absurd w (by show ¬ x = 0; omega), fun _ => ⟨rfl, hA.2.2 _, s.1, hs4, (hok hf).1⟩⟩) ⟨fun n hn => by (have e1 : ¬ n = 13 := by omega); (have e2 : ¬ n = 14 := by omega); simp only [va_up, if_neg e1, if_neg e2], rfl⟩)
  · exact aw_vret rfl rfl (q k (by rw [fl_f (by omega)]; exact hR0) KM.rf)
theorem c_X11_goesOn {Q : Option Value → am_H → Prop} (hR : RM Y k s) (hne : s.2.1.1 = 0 → ¬ Y.1 s.1 = 0) (q : ∀ k', RM Y k' (go Y s) → KM k k' → Q none (mh g k' v pl br lo c ct pr pt cm bf bt)) : AC am_P 1 21 205 [.ref 121] (mh g k v pl br lo c ct pr pt cm bf bt) Q := by
  refine AC.of (ls := [_]) rfl ?_
  have hR0 := hR
  obtain ⟨hA, hs4, hf8, h13, hok, hfl⟩ := hR
  by_cases hf : s.2.1.1 = 0
  · have h11 := (hok hf).1
    refine aw rfl rfl ?_
    refine aw_getfE rfl mg_121 rfl (congrArg Value.int h11) ?_
    refine aw_c (v := nI 400) rfl (by decide) ?_
    refine aw_inen rfl (fun c7 => ?_) (fun c7 => ?_)
    · refine aw rfl rfl ?_
      refine aw rfl rfl ?_
      refine aw_getfE rfl mg_121 rfl (congrArg Value.int h11) ?_
      refine aw_c (v := nI 1) rfl (by decide) ?_
      refine aw_addn rfl ?_
      refine aw_putfU rfl mg_121 rfl rfl (by decide) mp_11 ?_
      refine aw_vret rfl rfl (q _ ?_ ⟨fun n hn => by (have e1 : ¬ n = 11 := by omega); simp only [va_up, if_neg e1], rfl⟩)
      rw [show go Y s = (s.1 + 1, s.2) from by unfold go; rw [if_pos hf, if_neg c7]]
      obtain ⟨o1, o2, o3, o4, o5⟩ := hok hf
      refine ⟨hA, by show s.1 + 1 ≤ 400; omega, hf8, h13, fun _ => ⟨rfl, fun j hj => ?_, o3, o4, o5⟩, fun w => absurd hf w⟩
      have hj : j < s.1 + 1 := hj
      by_cases e : j = s.1
      · rw [e]; exact hne hf
      · exact o2 j (by omega)
    · refine aw rfl rfl ?_
      refine aw_c (v := nI 2) rfl (by decide) ?_
      refine aw_cv (d1 := 0) (L1 := 0) rfl rfl mg_121 rfl rfl (by decide) (by decide) (Nat.le_of_ble_eq_true rfl) (c_X11_fail hR0 (by decide) (fun k1 hR1 hk1 => ?_))
      refine aw rfl rfl ?_
      refine aw_vret rfl rfl (q k1 ?_ hk1)
      rw [show go Y s = fl Y 2 s from by unfold go fl; rw [if_pos hf, if_pos c7, if_pos hf]]
      exact hR1
  · obtain ⟨f1, f2, t, ht4, h11⟩ := hfl hf
    rw [go_f hf] at q
    refine aw rfl rfl ?_
    refine aw_getfE rfl mg_121 rfl (congrArg Value.int h11) ?_
    refine aw_c (v := nI 400) rfl (by decide) ?_
    refine aw_inen rfl (fun c7 => ?_) (fun c7 => ?_)
    · refine aw rfl rfl ?_
      refine aw rfl rfl ?_
      refine aw_getfE rfl mg_121 rfl (congrArg Value.int h11) ?_
      refine aw_c (v := nI 1) rfl (by decide) ?_
      refine aw_addn rfl ?_
      refine aw_putfU rfl mg_121 rfl rfl (by decide) mp_11 ?_
      exact aw_vret rfl rfl (q _ (hR0.flt hf rfl rfl ⟨t + 1, by omega, rfl⟩ rfl) ⟨fun n hn => by (have e1 : ¬ n = 11 := by omega); simp only [va_up, if_neg e1], rfl⟩)
    · refine aw rfl rfl ?_
      refine aw_c (v := nI 2) rfl (by decide) ?_
      refine aw_cv (d1 := 0) (L1 := 0) rfl rfl mg_121 rfl rfl (by decide) (by decide) (Nat.le_of_ble_eq_true rfl) (c_X11_fail hR0 (by decide) (fun k1 hR1 hk1 => ?_))
      refine aw rfl rfl ?_
      exact aw_vret rfl rfl (q k1 (by rw [fl_f hf] at hR1; exact hR1) hk1)
theorem c_X11_must {Q : Option Value → am_H → Prop} (hR : RM Y k s) {x : Nat} (hx : 1 ≤ x ∧ x < 100) (q : ∀ k', RM Y k' (mu Y x s) → KM k k' → Q none (mh g k' v pl br lo c ct pr pt cm bf bt)) : AC am_P 2 41 206 [.ref 121, .int (nI x)] (mh g k v pl br lo c ct pr pt cm bf bt) Q := by
  refine AC.of (ls := [_, _]) rfl ?_
  refine aw rfl rfl ?_
  refine aw rfl rfl ?_
  refine aw_cv (d1 := 0) (L1 := 0) rfl rfl mg_121 rfl rfl (by decide) (by decide) (Nat.le_of_ble_eq_true rfl) (c_X11_is hR hx.2 (fun hf e => ?_) (fun e => ?_))
  · refine aw_eq rfl (fun c => absurd c (by decide)) (fun _ => ?_)
    refine aw rfl rfl ?_
    refine aw_cv (d1 := 1) (L1 := 21) rfl rfl mg_121 rfl rfl (by decide) (by decide) (Nat.le_of_ble_eq_true rfl) (c_X11_goesOn hR (fun _ => by omega) (fun k1 hR1 hk1 => ?_))
    refine aw rfl rfl ?_
    exact aw_vret rfl rfl (q k1 (by rw [show mu Y x s = go Y s from if_neg (fun w => w.2 e)]; exact hR1) hk1)
  · refine aw_eq rfl (fun _ => ?_) (fun c => absurd (by decide) c)
    refine aw rfl rfl ?_
    refine aw_c (v := nI 1) rfl (by decide) ?_
    refine aw_cv (d1 := 0) (L1 := 0) rfl rfl mg_121 rfl rfl (by decide) (by decide) (Nat.le_of_ble_eq_true rfl) (c_X11_fail hR (by decide) (fun k1 hR1 hk1 => ?_))
    exact aw_vret rfl rfl (q k1 (by
    have e9 : mu Y x s = fl Y 1 s := by
      by_cases hf : s.2.1.1 = 0
      · exact if_pos ⟨hf, e hf⟩
      · rw [mu_f hf, fl_f hf]
    rw [e9]; exact hR1) hk1)
theorem c_X11_wrong {Q : Option Value → am_H → Prop} (hR : RM Y k s) {x t : Nat} (hx : 1 ≤ x ∧ x < 8) (ht : t ≤ 400) (ht2 : s.2.1.1 = 0 → ∀ j, j < t → ¬ Y.1 j = 0) (q : ∀ k', RM Y k' (wr x (Y.2.1 t) s) → KM k k' → Q none (mh g k' v pl br lo c ct pr pt cm bf bt)) : AC am_P 0 0 207 [.ref 121, .int (nI x), .int (nI t)] (mh g k v pl br lo c ct pr pt cm bf bt) Q := by
  refine AC.of (ls := [_, _, _, _]) rfl ?_
  have hR0 := hR
  obtain ⟨hA, hs4, hf8, h13, hok, hfl⟩ := hR
  by_cases hf : s.2.1.1 = 0
  · have h130 : k.1 13 = nI 0 := by rw [h13, hf]
    obtain ⟨o1, o2, o3, o4, o5⟩ := hok hf
    have h6 := (hA.1 t ht (ht2 hf)).2.1
    have hp := hA.2.2 t
    refine aw rfl rfl ?_
    refine aw_getf rfl mg_121 rfl ?_
    refine aw rfl rfl ?_
    refine aw_ialdE rfl mg_125 rfl (by omega) (by decide) h6 ?_
    refine aw_ist (ls' := [_, _, _, _]) rfl rfl ?_
    refine aw rfl rfl ?_
    refine aw_getfE rfl mg_121 rfl (congrArg Value.int h130) ?_
    refine aw_gt rfl (fun c => absurd c (by decide)) (fun _ => ?_)
    refine aw rfl rfl ?_
    refine aw_getfE rfl mg_121 rfl (congrArg Value.int o4) ?_
    refine aw_eqn rfl (fun c18 => ?_) (fun c18 => ?_)
    · refine aw rfl rfl ?_
      refine aw rfl rfl ?_
      refine aw_putfU rfl mg_121 rfl rfl (by decide) mp_15 ?_
      refine aw rfl rfl ?_
      refine aw rfl rfl ?_
      refine aw_putfU rfl mg_121 rfl rfl (by decide) mp_16 ?_
      refine aw_vret rfl rfl (q _ ?_ ⟨fun n hn => by (have e1 : ¬ n = 15 := by omega); (have e2 : ¬ n = 16 := by omega); simp only [va_up, if_neg e1, if_neg e2], rfl⟩)
      rw [show wr x (Y.2.1 t) s = (s.1, s.2.1, (x, Y.2.1 t)) from if_pos ⟨hf, by omega⟩]
      exact ⟨hA, hs4, hf8, h13, fun _ => ⟨o1, o2, hx.2, rfl, fun _ => ⟨rfl, hp⟩⟩, fun w => absurd hf w⟩
    · have hlp := (o5 c18).2
      refine aw rfl rfl ?_
      refine aw rfl rfl ?_
      refine aw_getfE rfl mg_121 rfl (congrArg Value.int (o5 c18).1) ?_
      refine aw_igtn rfl (fun c26 => ?_) (fun c26 => ?_)
      · refine aw_vret rfl rfl (q k ?_ KM.rf)
        rw [show wr x (Y.2.1 t) s = s from if_neg (by omega)]
        exact hR0
      · refine aw rfl rfl ?_
        refine aw rfl rfl ?_
        refine aw_getfE rfl mg_121 rfl (congrArg Value.int (o5 c18).1) ?_
        refine aw_inen rfl (fun c34 => ?_) (fun c34 => ?_)
        · refine aw rfl rfl ?_
          refine aw rfl rfl ?_
          refine aw_putfU rfl mg_121 rfl rfl (by decide) mp_15 ?_
          refine aw rfl rfl ?_
          refine aw rfl rfl ?_
          refine aw_putfU rfl mg_121 rfl rfl (by decide) mp_16 ?_
          refine aw_vret rfl rfl (q _ ?_ ⟨fun n hn => by (have e1 : ¬ n = 15 := by omega); (have e2 : ¬ n = 16 := by omega); simp only [va_up, if_neg e1, if_neg e2], rfl⟩)
          rw [show wr x (Y.2.1 t) s = (s.1, s.2.1, (x, Y.2.1 t)) from if_pos ⟨hf, by omega⟩]
          exact ⟨hA, hs4, hf8, h13, fun _ => ⟨o1, o2, hx.2, rfl, fun _ => ⟨rfl, hp⟩⟩, fun w => absurd hf w⟩
        · refine aw rfl rfl ?_
          refine aw rfl rfl ?_
          refine aw_getfE rfl mg_121 rfl (congrArg Value.int o4) ?_
          refine aw_iltn rfl (fun c42 => ?_) (fun c42 => ?_)
          · refine aw rfl rfl ?_
            refine aw rfl rfl ?_
            refine aw_putfU rfl mg_121 rfl rfl (by decide) mp_15 ?_
            refine aw rfl rfl ?_
            refine aw rfl rfl ?_
            refine aw_putfU rfl mg_121 rfl rfl (by decide) mp_16 ?_
            refine aw_vret rfl rfl (q _ ?_ ⟨fun n hn => by (have e1 : ¬ n = 15 := by omega); (have e2 : ¬ n = 16 := by omega); simp only [va_up, if_neg e1, if_neg e2], rfl⟩)
            rw [show wr x (Y.2.1 t) s = (s.1, s.2.1, (x, Y.2.1 t)) from if_pos ⟨hf, by omega⟩]
            exact ⟨hA, hs4, hf8, h13, fun _ => ⟨o1, o2, hx.2, rfl, fun _ => ⟨rfl, hp⟩⟩, fun w => absurd hf w⟩
          · refine aw_vret rfl rfl (q k ?_ KM.rf)
            rw [show wr x (Y.2.1 t) s = s from if_neg (by omega)]
            exact hR0
  · rw [wr_f hf] at q
    have hgt : 0 < s.2.1.1 := by omega
    refine aw rfl rfl ?_
    refine aw_getf rfl mg_121 rfl ?_
    refine aw rfl rfl ?_
    refine aw_iald rfl mg_125 rfl (by omega) (by decide) ?_
    refine aw_ist (ls' := [_, _, _, _]) rfl rfl ?_
    refine aw rfl rfl ?_
    refine aw_getfE rfl mg_121 rfl (congrArg Value.int h13) ?_
    refine aw_gtn rfl (fun c11 => ?_) (fun c11 => by omega)
    exact aw_vret rfl rfl (q k hR0 KM.rf)
theorem c_X11_bounded {Q : Option Value → am_H → Prop} (hR : RM Y k s) {l9 h9 : Nat} (hl_o : l9 ≤ 9999) (hhi : h9 ≤ 9999) (q : ∀ k' x, RM Y k' (iS Y l9 h9 s) → KM k k' → ((iS Y l9 h9 s).2.1.1 = 0 → x = nI (iV Y l9 s)) → Q (some (.int x)) (mh g k' v pl br lo c ct pr pt cm bf bt)) : AC am_P 2 41 209 [.ref 121, .int (nI l9), .int (nI h9)] (mh g k v pl br lo c ct pr pt cm bf bt) Q := by
  refine AC.of (ls := [_, _, _, _]) rfl ?_
  have h13 := hR.2.2.2.1
  have hf8 := hR.2.2.1
  have hs4 := hR.2.1
  refine aw rfl rfl ?_
  refine aw_getfE rfl mg_121 rfl (congrArg Value.int h13) ?_
  refine aw_gtn rfl (fun c4 => ?_) (fun c4 => ?_)
  · refine aw rfl rfl ?_
    refine aw_c (v := nI 1) rfl (by decide) ?_
    refine aw_cv (d1 := 0) (L1 := 0) rfl rfl mg_121 rfl rfl (by decide) (by decide) (Nat.le_of_ble_eq_true rfl) (c_X11_fail hR (by decide) (fun k1 hR1 hk1 => ?_))
    refine aw rfl rfl ?_
    exact aw_iret rfl rfl (q k1 _ (by rw [iS_f (by omega)]; rw [fl_f (by omega)] at hR1; exact hR1) hk1 (fun w => absurd w (by rw [iS_f (by omega)]; omega)))
  · refine aw rfl rfl ?_
    refine aw_c (v := nI 2) rfl (by decide) ?_
    refine aw_cv (d1 := 0) (L1 := 0) rfl rfl mg_121 rfl rfl (by decide) (by decide) (Nat.le_of_ble_eq_true rfl) (c_X11_is hR (by decide) (fun hf e => ?_) (fun e => ?_))
    · refine aw_ne rfl (fun _ => ?_) (fun c => absurd c (by decide))
      have h11 := (hR.2.2.2.2.1 hf).1
      have ht := (hR.tk hf).2.2.1 e
      have hv := hR.1.2.1.2 s.1
      refine aw rfl rfl ?_
      refine aw_getf rfl mg_121 rfl ?_
      refine aw rfl rfl ?_
      refine aw_getfE rfl mg_121 rfl (congrArg Value.int h11) ?_
      refine aw_ialdE rfl mg_126 rfl (by omega) (by decide) ht ?_
      refine aw_ist (ls' := [_, _, _, _]) rfl rfl ?_
      refine aw rfl rfl ?_
      refine aw rfl rfl ?_
      refine aw_iltn rfl (fun c34 => ?_) (fun c34 => ?_)
      · refine aw rfl rfl ?_
        refine aw_c (v := nI 5) rfl (by decide) ?_
        refine aw rfl rfl ?_
        refine aw_getfE rfl mg_121 rfl (congrArg Value.int h11) ?_
        refine aw_cv (d1 := 0) (L1 := 0) rfl rfl mg_121 rfl rfl (by decide) (by decide) (Nat.le_of_ble_eq_true rfl) (c_X11_wrong (t := s.1) hR (by decide) hs4 (fun _ => (hR.2.2.2.2.1 hf).2.1) (fun k1 hR1 hk1 => ?_))
        refine aw rfl rfl ?_
        refine aw_cv (d1 := 1) (L1 := 21) rfl rfl mg_121 rfl rfl (by decide) (by decide) (Nat.le_of_ble_eq_true rfl) (c_X11_goesOn hR1 (fun _ => by rw [wr_0.2]; omega) (fun k2 hR2 hk2 => ?_))
        refine aw rfl rfl ?_
        exact aw_iret rfl rfl (q _ _ (by
      rw [show iS Y l9 h9 s = go Y (wr 5 (Y.2.1 s.1) s) from by unfold iS; rw [if_neg (fun w => w.2 e), if_pos (by omega)]]
      exact hR2) (hk1.tr hk2) (fun _ => by unfold iV; rw [if_pos e]))
      · refine aw rfl rfl ?_
        refine aw rfl rfl ?_
        refine aw_ilen rfl (fun c39 => ?_) (fun c39 => ?_)
        · refine aw rfl rfl ?_
          refine aw_cv (d1 := 1) (L1 := 21) rfl rfl mg_121 rfl rfl (by decide) (by decide) (Nat.le_of_ble_eq_true rfl) (c_X11_goesOn hR (fun _ => by omega) (fun k2 hR2 hk2 => ?_))
          refine aw rfl rfl ?_
          exact aw_iret rfl rfl (q _ _ (by
      rw [show iS Y l9 h9 s = go Y (s) from by unfold iS; rw [if_neg (fun w => w.2 e), if_neg (by omega)]]
      exact hR2) (hk2) (fun _ => by unfold iV; rw [if_pos e]))
        · refine aw rfl rfl ?_
          refine aw_c (v := nI 5) rfl (by decide) ?_
          refine aw rfl rfl ?_
          refine aw_getfE rfl mg_121 rfl (congrArg Value.int h11) ?_
          refine aw_cv (d1 := 0) (L1 := 0) rfl rfl mg_121 rfl rfl (by decide) (by decide) (Nat.le_of_ble_eq_true rfl) (c_X11_wrong (t := s.1) hR (by decide) hs4 (fun _ => (hR.2.2.2.2.1 hf).2.1) (fun k1 hR1 hk1 => ?_))
          refine aw rfl rfl ?_
          refine aw_cv (d1 := 1) (L1 := 21) rfl rfl mg_121 rfl rfl (by decide) (by decide) (Nat.le_of_ble_eq_true rfl) (c_X11_goesOn hR1 (fun _ => by rw [wr_0.2]; omega) (fun k2 hR2 hk2 => ?_))
          refine aw rfl rfl ?_
          exact aw_iret rfl rfl (q _ _ (by
      rw [show iS Y l9 h9 s = go Y (wr 5 (Y.2.1 s.1) s) from by unfold iS; rw [if_neg (fun w => w.2 e), if_pos (by omega)]]
      exact hR2) (hk1.tr hk2) (fun _ => by unfold iV; rw [if_pos e]))
    · have hf0 : s.2.1.1 = 0 := by omega
      refine aw_ne rfl (fun c => absurd (by decide) c) (fun _ => ?_)
      refine aw rfl rfl ?_
      refine aw_c (v := nI 1) rfl (by decide) ?_
      refine aw_cv (d1 := 0) (L1 := 0) rfl rfl mg_121 rfl rfl (by decide) (by decide) (Nat.le_of_ble_eq_true rfl) (c_X11_fail hR (by decide) (fun k1 hR1 hk1 => ?_))
      refine aw rfl rfl ?_
      exact aw_iret rfl rfl (q k1 _ (by rw [iS_n hf0 (e hf0)]; exact hR1) hk1 (fun w => absurd w (by rw [iS_n hf0 (e hf0)]; exact fl_0 (by decide))))
end C1
