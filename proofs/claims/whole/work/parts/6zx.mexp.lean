/-! ===== the reference's reader: expression ===== -/
theorem nz_0 {y : Nat} (h : nzB y = false) : y = 0 := by unfold nzB at h; simpa using h
theorem ppF : ppB false = nzB := funext fun x => by unfold ppB nzB; simp
theorem opM_K {k : Nat} (h : k = 8 ∨ k = 9 ∨ k = 10 ∨ k = 15) : opM (opK k) = k ∧ ¬ opK k = 1 := by rcases h with rfl | rfl | rfl | rfl <;> decide
theorem wpm_d {f : Nat → Int32} {P : Nat → Bool} : ∀ l : List Nat, wpm f l → wpm f (l.dropWhile P) := by
  intro l
  induction l with
  | nil => intro h; exact h
  | cons x r ih =>
    intro h
    cases e : P x with
    | false => rw [List.dropWhile_cons_of_neg (by rw [e]; decide)]; exact h
    | true => rw [List.dropWhile_cons_of_pos e]; exact ih h.2
/-- what a formula that is read leaves -/
def KV (sd lo : Nat) (k k' : Mk) : Prop := (∀ n, ¬ ((11 ≤ n ∧ n ≤ 16) ∨ n = 45 ∨ n = 49) → k'.1 n = k.1 n) ∧ (∀ n, ¬ (n = 46 ∨ n = 47 ∨ n = 48) → k'.2.1 n = k.2.1 n) ∧ (∀ i, i < lo ∨ 420 * sd + 420 ≤ i → k'.2.1 46 i = k.2.1 46 i ∧ k'.2.1 47 i = k.2.1 47 i) ∧ k'.2.2 = k.2.2
theorem KV.rf {sd lo : Nat} {k : Mk} : KV sd lo k k := ⟨fun _ _ => rfl, fun _ _ => rfl, fun _ _ => ⟨rfl, rfl⟩, rfl⟩
theorem KV.tr {sd lo lo1 : Nat} {k k1 k2 : Mk} (h : KV sd lo k k1) (h1 : KV sd lo1 k1 k2) (hl : lo ≤ lo1) : KV sd lo k k2 := ⟨fun n hn => (h1.1 n hn).trans (h.1 n hn), fun n hn => (h1.2.1 n hn).trans (h.2.1 n hn), fun i hi => ⟨((h1.2.2.1 i (by omega)).1).trans ((h.2.2.1 i hi).1), ((h1.2.2.1 i (by omega)).2).trans ((h.2.2.1 i hi).2)⟩, h1.2.2.2.trans h.2.2.2⟩
theorem KE.kv {sd c c' : Nat} {k k' : Mk} (h : KE c c' k k') (hc : c' ≤ 420 * sd + 420) : KV sd c k k' := ⟨fun n hn => h.1 n (by omega), h.2.1, fun i hi => h.2.2.1 i (by omega), h.2.2.2⟩
theorem KM.kv {sd c : Nat} {k k' : Mk} (h : KM k k') : KV sd c k k' := ⟨fun n hn => h.1 n (by omega), fun n _ => by rw [h.2], fun i _ => ⟨by rw [h.2], by rw [h.2]⟩, by rw [h.2]⟩
theorem KV.kp {sd lo : Nat} {k k' : Mk} (h : KV sd lo k k') : KP k k' := ⟨fun n hn => h.1 n (by omega), fun n hn => h.2.1 n (by omega), fun n _ => by rw [h.2.2.2]⟩
theorem KV.sd {sd lo : Nat} {k k' : Mk} (h : KV sd lo k k') (hs : sd < 2) (hl : 420 * sd ≤ lo) : SDf (1 - sd) k k' := by
  intro j h2 h4 i h5 h6
  by_cases e : j = 46 ∨ j = 47
  · have hw : wd9 j = 420 := by unfold wd9; rcases e with rfl | rfl <;> rfl
    rw [hw] at h5 h6
    have hs2 : sd = 0 ∨ sd = 1 := by omega
    have hi : i < lo ∨ 420 * sd + 420 ≤ i := by rcases hs2 with rfl | rfl <;> omega
    rcases e with rfl | rfl
    · exact (h.2.2.1 i hi).1
    · exact (h.2.2.1 i hi).2
  · rw [h.2.1 j (by omega)]
theorem KV.u12 {sd lo : Nat} {k : Mk} {x : Int32} : KV sd lo k (va_up k.1 12 x, k.2.1, k.2.2) := ⟨fun n hn => vu_ot (by omega), fun _ _ => rfl, fun _ _ => ⟨rfl, rfl⟩, rfl⟩
theorem KV.u49 {sd lo : Nat} {k : Mk} {x : Int32} : KV sd lo k (va_up k.1 49 x, k.2.1, k.2.2) := ⟨fun n hn => vu_ot (by omega), fun _ _ => rfl, fun _ _ => ⟨rfl, rfl⟩, rfl⟩
theorem KV.u48 {sd lo : Nat} {k : Mk} {f : Nat → Int32} : KV sd lo k (k.1, va_up k.2.1 48 f, k.2.2) := ⟨fun _ _ => rfl, fun n hn => vu_ot (by omega), fun _ _ => ⟨rfl, rfl⟩, rfl⟩
section C1
variable {g : am_H} {k : Mk} {v pl : Nat → Int32} {br lo : Int32} {c ct pr pt cm bf bt : Nat → Int32}
variable {Y : Tk} {s : Ps}
variable {cn sd : Nat} {k0 : Mk} {l : List Nat}
theorem c_isY {Q : Option Value → am_H → Prop} (hR : RM Y k s) {x : Nat} (hx : x < 100) (hf : s.2.1.1 = 0) (e : Y.1 s.1 = x) (q : Q (some (.int (nI 1))) (mh g k v pl br lo c ct pr pt cm bf bt)) : AC am_P 0 0 201 [.ref 121, .int (nI x)] (mh g k v pl br lo c ct pr pt cm bf bt) Q := c_X11_is hR hx (fun _ _ => q) (fun w => absurd e (w hf))
theorem c_isN {Q : Option Value → am_H → Prop} (hR : RM Y k s) {x : Nat} (hx : x < 100) (e : s.2.1.1 = 0 → ¬ Y.1 s.1 = x) (q : Q (some (.int (nI 0))) (mh g k v pl br lo c ct pr pt cm bf bt)) : AC am_P 0 0 201 [.ref 121, .int (nI x)] (mh g k v pl br lo c ct pr pt cm bf bt) Q := c_X11_is hR hx (fun hf w => absurd w (e hf)) (fun _ => q)
theorem ly {hR : RM Y k s} {k' : Mk} (h : KV sd cn k k') (h11 : k'.1 11 = k.1 11) (h13 : ∀ n, 13 ≤ n → n ≤ 16 → k'.1 n = k.1 n) : RM Y k' s := hR.kp h.kp h11 h13
theorem l_exFA {Q : Option Value → am_H → Prop} {k : Mk} {x2 : Int32} {c9 : Nat} {e : Ex} (hR : RM Y k s) (hf : ¬ s.2.1.1 = 0) (h45 : k.1 45 = nI c9) (hc : c9 < 840) (hK : KV sd cn k0 k) (q : ∀ k', RM Y k' (((e, s) : Ex × Ps)).2 → KV sd cn k0 k' → ((((e, s) : Ex × Ps)).2.2.1.1 = 0 → k'.1 45 = nI (cn + (((e, s) : Ex × Ps)).1.length) ∧ k'.1 12 = nI 0 ∧ ex_in (k'.2.1 46) (k'.2.1 47) cn (((e, s) : Ex × Ps)).1) → Q none (mh g k' v pl br lo c ct pr pt cm bf bt)) : AW am_P 3 61 213 23 [some (.ref 121), some (.int (nI 0)), some (.int x2)] [] (mh g k v pl br lo c ct pr pt cm bf bt) Q := by
  have h13 := hR.2.2.2.1
  have hf8 := hR.2.2.1
  refine aw rfl rfl ?_
  refine aw_c (v := nI 6) rfl (by decide) ?_
  refine aw_cv (d1 := 0) (L1 := 0) rfl rfl mg_121 rfl rfl (by decide) (by decide) (Nat.le_of_ble_eq_true rfl) (c_isN hR (by decide) (fun w => absurd w hf) ?_)
  · refine aw_eq rfl (fun _ => ?_) (fun c => absurd (by decide) c)
    refine aw rfl rfl ?_
    refine aw_cv (d1 := 2) (L1 := 41) rfl rfl mg_121 rfl rfl (by decide) (by decide) (Nat.le_of_ble_eq_true rfl) (c_X11_unit hR h45 hc (fun w => absurd w hf) (fun w => absurd w hf) (fun _ k1 hk1 hR1 => ?_))
    rw [fl_f hf] at hR1
    refine aw rfl rfl ?_
    refine aw_getfE rfl mg_121 rfl (congrArg Value.int hR1.2.2.2.1) ?_
    refine aw_len rfl (fun c92 => by omega) (fun c92 => ?_)
    exact aw_vret rfl rfl (q k1 hR1 (hK.tr hk1.kv (Nat.le_refl _)) (fun w => absurd w hf))
theorem l_exFB {Q : Option Value → am_H → Prop} {k : Mk} {x2 : Int32} {c9 d : Nat} {e : Ex} (hR : RM Y k s) (hf : ¬ s.2.1.1 = 0) (h12 : k.1 12 = nI d) (hd : d < 100) (h45 : k.1 45 = nI c9) (h49 : k.1 49 = nI l.length) (hw : wpm (k.2.1 48) l) (hl : l.length ≤ 60) (hcn : cn ≤ c9) (hc : c9 + l.length ≤ 420 * sd + 420) (hs : sd < 2) (hK : KV sd cn k0 k) (q : ∀ k', RM Y k' (((e, s) : Ex × Ps)).2 → KV sd cn k0 k' → ((((e, s) : Ex × Ps)).2.2.1.1 = 0 → k'.1 45 = nI (cn + (((e, s) : Ex × Ps)).1.length) ∧ k'.1 12 = nI 0 ∧ ex_in (k'.2.1 46) (k'.2.1 47) cn (((e, s) : Ex × Ps)).1) → Q none (mh g k' v pl br lo c ct pr pt cm bf bt)) : AW am_P 3 61 213 96 [some (.ref 121), some (.int (nI 0)), some (.int x2)] [] (mh g k v pl br lo c ct pr pt cm bf bt) Q := by
  have htw : (l.takeWhile (ppB false)).length ≤ l.length := (List.takeWhile_prefix _).length_le
  refine aw rfl rfl ?_
  refine aw_c (v := nI 7) rfl (by decide) ?_
  refine aw_cv (d1 := 0) (L1 := 0) rfl rfl mg_121 rfl rfl (by decide) (by decide) (Nat.le_of_ble_eq_true rfl) (c_isN hR (by decide) (fun w => absurd w hf) ?_)
  · refine aw_eq rfl (fun _ => ?_) (fun c => absurd (by decide) c)
    refine aw rfl rfl ?_
    refine aw_c (v := nI 8) rfl (by decide) ?_
    refine aw_cv (d1 := 0) (L1 := 0) rfl rfl mg_121 rfl rfl (by decide) (by decide) (Nat.le_of_ble_eq_true rfl) (c_isN hR (by decide) (fun w => absurd w hf) ?_)
    · refine aw_ne rfl (fun c => absurd (by decide) c) (fun _ => ?_)
      refine aw rfl rfl ?_
      refine aw_c (v := nI 9) rfl (by decide) ?_
      refine aw_cv (d1 := 0) (L1 := 0) rfl rfl mg_121 rfl rfl (by decide) (by decide) (Nat.le_of_ble_eq_true rfl) (c_isN hR (by decide) (fun w => absurd w hf) ?_)
      · refine aw_ne rfl (fun c => absurd (by decide) c) (fun _ => ?_)
        refine aw rfl rfl ?_
        refine aw_c (v := nI 10) rfl (by decide) ?_
        refine aw_cv (d1 := 0) (L1 := 0) rfl rfl mg_121 rfl rfl (by decide) (by decide) (Nat.le_of_ble_eq_true rfl) (c_isN hR (by decide) (fun w => absurd w hf) ?_)
        · refine aw_ne rfl (fun c => absurd (by decide) c) (fun _ => ?_)
          refine aw rfl rfl ?_
          refine aw_c (v := nI 15) rfl (by decide) ?_
          refine aw_cv (d1 := 0) (L1 := 0) rfl rfl mg_121 rfl rfl (by decide) (by decide) (Nat.le_of_ble_eq_true rfl) (c_isN hR (by decide) (fun w => absurd w hf) ?_)
          · refine aw_eq rfl (fun _ => ?_) (fun c => absurd (by decide) c)
            refine aw_c (v := nI 0) rfl (by decide) ?_
            refine aw_ist (ls' := [_, _, _]) rfl rfl ?_
            refine aw rfl rfl ?_
            refine aw_ne rfl (fun c => absurd (by decide) c) (fun _ => ?_)
            refine aw rfl rfl ?_
            refine aw_getfE rfl mg_121 rfl (congrArg Value.int h12) ?_
            refine aw rfl rfl ?_
            refine aw_ilen rfl (fun c196 => ?_) (fun c196 => ?_)
            · refine aw rfl rfl ?_
              refine aw_c (v := nI 0) rfl (by decide) ?_
              refine aw_cv (d1 := 1) (L1 := 22) rfl rfl mg_121 rfl rfl (by decide) (by decide) (Nat.le_of_ble_eq_true rfl) (c_X11_comesOut (b := false) (l := l) h45 h49 hw (by omega) (by omega) (fun k2 a1 a2 a3 a4 a5 => ?_))
              exact aw_vret rfl rfl (q k2 (a4.rm hR) (hK.tr (a4.kv (by omega)) hcn) (fun w => absurd w hf))
            · refine aw rfl rfl ?_
              refine aw_c (v := nI 1) rfl (by decide) ?_
              refine aw_cv (d1 := 0) (L1 := 0) rfl rfl mg_121 rfl rfl (by decide) (by decide) (Nat.le_of_ble_eq_true rfl) (c_X11_fail hR (by decide) (fun k1 hR1 hk1 => ?_))
              refine aw rfl rfl ?_
              refine aw_c (v := nI 0) rfl (by decide) ?_
              refine aw_cv (d1 := 1) (L1 := 22) rfl rfl mg_121 rfl rfl (by decide) (by decide) (Nat.le_of_ble_eq_true rfl) (c_X11_comesOut (b := false) (l := l) (show k1.1 45 = nI c9 by rw [hk1.1 45 (by omega)]; exact h45) (show k1.1 49 = nI l.length by rw [hk1.1 49 (by omega)]; exact h49) (show wpm (k1.2.1 48) l by rw [hk1.2]; exact hw) (by omega) (by omega) (fun k2 a1 a2 a3 a4 a5 => ?_))
              rw [fl_f hf] at hR1
              exact aw_vret rfl rfl (q k2 (a4.rm hR1) ((hK.tr hk1.kv (Nat.le_refl _)).tr (a4.kv (by omega)) hcn) (fun w => absurd w hf))
theorem l_ex {Q : Option Value → am_H → Prop} (hs : sd < 2) : ∀ (n : Nat) (d : Nat) (l : List Nat) (e : Ex) (s : Ps) (k : Mk) (x2 : Int32) (_ : RM Y k s) (_ : s.2.1.1 = 0) (_ : k.1 12 = nI d) (_ : k.1 49 = nI l.length) (_ : wpm (k.2.1 48) l) (_ : k.1 45 = nI (cn + e.length)) (_ : ex_in (k.2.1 46) (k.2.1 47) cn e) (_ : cn + e.length + z1 l + 1 ≤ 420 * sd + s.1) (_ : KV sd cn k0 k), (YI9 n true d l e s → (∀ k', RM Y k' ((yd Y n true d l e s)).2 → KV sd cn k0 k' → (((yd Y n true d l e s)).2.2.1.1 = 0 → k'.1 45 = nI (cn + ((yd Y n true d l e s)).1.length) ∧ k'.1 12 = nI 0 ∧ ex_in (k'.2.1 46) (k'.2.1 47) cn ((yd Y n true d l e s)).1) → Q none (mh g k' v pl br lo c ct pr pt cm bf bt)) → AW am_P 3 61 213 23 [some (.ref 121), some (.int (nI 0)), some (.int x2)] [] (mh g k v pl br lo c ct pr pt cm bf bt) Q) ∧ (YI9 n false d l e s → (∀ k', RM Y k' ((yd Y n false d l e s)).2 → KV sd cn k0 k' → (((yd Y n false d l e s)).2.2.1.1 = 0 → k'.1 45 = nI (cn + ((yd Y n false d l e s)).1.length) ∧ k'.1 12 = nI 0 ∧ ex_in (k'.2.1 46) (k'.2.1 47) cn ((yd Y n false d l e s)).1) → Q none (mh g k' v pl br lo c ct pr pt cm bf bt)) → AW am_P 3 61 213 96 [some (.ref 121), some (.int (nI 0)), some (.int x2)] [] (mh g k v pl br lo c ct pr pt cm bf bt) Q) := by
  intro n
  induction n with
  | zero =>
    intro d l e s k x2 hR hf h12 h49 hw h45 hin hm hK
    exact ⟨fun hY => by obtain ⟨_, _, _, _, _, h1, h2⟩ := hY; omega, fun hY => by obtain ⟨_, _, _, _, _, h1, h2⟩ := hY; omega⟩
  | succ n ih =>
    intro d l e s k x2 hR hf h12 h49 hw h45 hin hm hK
    have hs4 := hR.2.1
    have h130 : k.1 13 = nI 0 := by rw [hR.2.2.2.1, hf]
    have hkl := hR.kl s.1
    refine ⟨fun hY q => ?_, fun hY q => ?_⟩
    · have hlen := hY.len
      have hd6 := hY.2.2.2.1
      rw [yd, if_neg (fun z => z hf), cond_true] at q
      refine aw rfl rfl ?_
      refine aw_c (v := nI 6) rfl (by decide) ?_
      refine aw_cv (d1 := 0) (L1 := 0) rfl rfl mg_121 rfl rfl (by decide) (by decide) (Nat.le_of_ble_eq_true rfl) (c_X11_is hR (by decide) (fun _ e6 => ?_) (fun e6 => ?_))
      · refine aw_eq rfl (fun c => absurd c (by decide)) (fun _ => ?_)
        refine aw rfl rfl ?_
        refine aw_getfE rfl mg_121 rfl (congrArg Value.int h12) ?_
        refine aw_c (v := nI 6) rfl (by decide) ?_
        refine aw_inen rfl (fun c38 => ?_) (fun c38 => ?_)
        · refine aw rfl rfl ?_
          refine aw rfl rfl ?_
          refine aw_getfE rfl mg_121 rfl (congrArg Value.int h12) ?_
          refine aw_c (v := nI 1) rfl (by decide) ?_
          refine aw_addn rfl ?_
          refine aw_putfU rfl mg_121 rfl rfl (by decide) mp_12 ?_
          refine aw rfl rfl ?_
          refine aw_cv (d1 := 1) (L1 := 21) rfl rfl mg_121 rfl rfl (by decide) (by decide) (Nat.le_of_ble_eq_true rfl) (c_X11_goesOn (k := (va_up k.1 12 (nI (d + 1)), k.2.1, k.2.2)) (hR.kp (KV.kp (sd := sd) (lo := cn) KV.u12) rfl (fun n h1 h2 => vu_ot (by omega))) (fun _ => by omega) (fun k1 hR1 hk1 => ?_))
          refine aw rfl rfl ?_
          refine aw_getf rfl mg_121 rfl ?_
          refine aw rfl rfl ?_
          refine aw_getfE rfl mg_121 rfl (congrArg Value.int (show k1.1 49 = nI l.length by rw [hk1.1 49 (by omega)]; exact h49)) ?_
          refine aw_c (v := nI 6) rfl (by decide) ?_
          refine aw_iastU rfl mg_154 rfl (by omega) (by decide) (by decide) mu_154 ?_
          refine aw rfl rfl ?_
          refine aw rfl rfl ?_
          refine aw_getfE rfl mg_121 rfl (congrArg Value.int (show k1.1 49 = nI l.length by rw [hk1.1 49 (by omega)]; exact h49)) ?_
          refine aw_c (v := nI 1) rfl (by decide) ?_
          refine aw_addn rfl ?_
          refine aw_putfU rfl mg_121 rfl rfl (by decide) mp_49 ?_
          refine aw rfl rfl ?_
          rw [if_pos e6, if_neg c38] at q
          have hk48 : k1.2.1 48 = k.2.1 48 := by rw [hk1.2]
          have hKn : KV sd cn k0 (va_up k1.1 49 (nI (l.length + 1)), va_up k1.2.1 48 (upd (k1.2.1 48) l.length (nI 6)), k1.2.2) := (((hK.tr KV.u12 (Nat.le_refl _)).tr hk1.kv (Nat.le_refl _)).tr KV.u48 (Nat.le_refl _)).tr KV.u49 (Nat.le_refl _)
          have hRn : RM Y (va_up k1.1 49 (nI (l.length + 1)), va_up k1.2.1 48 (upd (k1.2.1 48) l.length (nI 6)), k1.2.2) (go Y s) := hR1.kp (KV.kp (sd := sd) (lo := cn) (KV.u48.tr KV.u49 (Nat.le_refl _))) rfl (fun n h1 h2 => vu_ot (by omega))
          by_cases hg : (go Y s).2.1.1 = 0
          · have g4 : (go Y s).1 = s.1 + 1 := by rw [(go_1 hg).2.2]
            refine (ih (d + 1) (0 :: l) e (go Y s) _ x2 hRn hg ?_ rfl ⟨⟨by show upd (k1.2.1 48) l.length (nI 6) l.length = _; rw [upd_at]; rfl, by decide, by decide⟩, ?_⟩ ?_ ?_ (by rw [z1, if_pos rfl, g4]; omega) hKn).1 (yi_open hY c38 hg) q
            · show k1.1 12 = _
              rw [hk1.1 12 (by omega)]; rfl
            · show wpm (upd (k1.2.1 48) l.length (nI 6)) l
              rw [hk48]
              exact wpm_upd _ _ (Nat.le_refl _) hw
            · show k1.1 45 = _
              rw [hk1.1 45 (by omega)]; exact h45
            · show ex_in (k1.2.1 46) (k1.2.1 47) cn e
              rw [hk1.2]; exact hin
          · rw [yd_f hg] at q
            exact l_exFA hRn hg (show k1.1 45 = nI (cn + e.length) by rw [hk1.1 45 (by omega)]; exact h45) (by omega) hKn q
        · refine aw rfl rfl ?_
          refine aw_c (v := nI 2) rfl (by decide) ?_
          refine aw_cv (d1 := 0) (L1 := 0) rfl rfl mg_121 rfl rfl (by decide) (by decide) (Nat.le_of_ble_eq_true rfl) (c_X11_fail hR (by decide) (fun k1 hR1 hk1 => ?_))
          refine aw rfl rfl ?_
          refine aw rfl rfl ?_
          refine aw_getfE rfl mg_121 rfl (congrArg Value.int (show k1.1 12 = nI d by rw [hk1.1 12 (by omega)]; exact h12)) ?_
          refine aw_c (v := nI 1) rfl (by decide) ?_
          refine aw_addn rfl ?_
          refine aw_putfU rfl mg_121 rfl rfl (by decide) mp_12 ?_
          refine aw rfl rfl ?_
          refine aw_cv (d1 := 1) (L1 := 21) rfl rfl mg_121 rfl rfl (by decide) (by decide) (Nat.le_of_ble_eq_true rfl) (c_X11_goesOn (k := (va_up k1.1 12 (nI (d + 1)), k1.2.1, k1.2.2)) (hR1.kp (KV.kp (sd := sd) (lo := cn) KV.u12) rfl (fun n h1 h2 => vu_ot (by omega))) (fun w => absurd w (fl_0 (by decide))) (fun k2 hR2 hk2 => ?_))
          refine aw rfl rfl ?_
          refine aw_getf rfl mg_121 rfl ?_
          refine aw rfl rfl ?_
          refine aw_getfE rfl mg_121 rfl (congrArg Value.int (show k2.1 49 = nI l.length by rw [hk2.1 49 (by omega)]; show k1.1 49 = _; rw [hk1.1 49 (by omega)]; exact h49)) ?_
          refine aw_c (v := nI 6) rfl (by decide) ?_
          refine aw_iastU rfl mg_154 rfl (by omega) (by decide) (by decide) mu_154 ?_
          refine aw rfl rfl ?_
          refine aw rfl rfl ?_
          refine aw_getfE rfl mg_121 rfl (congrArg Value.int (show k2.1 49 = nI l.length by rw [hk2.1 49 (by omega)]; show k1.1 49 = _; rw [hk1.1 49 (by omega)]; exact h49)) ?_
          refine aw_c (v := nI 1) rfl (by decide) ?_
          refine aw_addn rfl ?_
          refine aw_putfU rfl mg_121 rfl rfl (by decide) mp_49 ?_
          refine aw rfl rfl ?_
          rw [if_pos e6, if_pos c38] at q
          have hff : ¬ (fl Y 2 s).2.1.1 = 0 := fl_0 (by decide)
          rw [go_f hff] at hR2
          have hKn : KV sd cn k0 (va_up k2.1 49 (nI (l.length + 1)), va_up k2.2.1 48 (upd (k2.2.1 48) l.length (nI 6)), k2.2.2) := ((((hK.tr hk1.kv (Nat.le_refl _)).tr KV.u12 (Nat.le_refl _)).tr hk2.kv (Nat.le_refl _)).tr KV.u48 (Nat.le_refl _)).tr KV.u49 (Nat.le_refl _)
          have hRn : RM Y (va_up k2.1 49 (nI (l.length + 1)), va_up k2.2.1 48 (upd (k2.2.1 48) l.length (nI 6)), k2.2.2) (fl Y 2 s) := hR2.kp (KV.kp (sd := sd) (lo := cn) (KV.u48.tr KV.u49 (Nat.le_refl _))) rfl (fun n h1 h2 => vu_ot (by omega))
          exact l_exFA hRn hff (show k2.1 45 = nI (cn + e.length) by rw [hk2.1 45 (by omega)]; show k1.1 45 = _; rw [hk1.1 45 (by omega)]; exact h45) (by omega) hKn q
      · have e6 := e6 hf
        refine aw_eq rfl (fun _ => ?_) (fun c => absurd (by decide) c)
        refine aw rfl rfl ?_
        refine aw_cv (d1 := 2) (L1 := 41) rfl rfl mg_121 rfl rfl (by decide) (by decide) (Nat.le_of_ble_eq_true rfl) (c_X11_unit hR h45 (by omega) (fun _ h9 k1 k2 ke km hR2 u45 u49 u48 uin => ?_) (fun _ h9 k1 k2 ke km hR2 u45 u49 u48 uin => ?_) (fun h9 k2 km hR2 => ?_))
        · rw [if_neg e6, if_pos h9] at q
          have hKn : KV sd cn k0 k2 := (hK.tr (ke.kv (by omega)) (by omega)).tr km.kv (Nat.le_refl _)
          by_cases hg : (go Y s).2.1.1 = 0
          · have hgt : ¬ 0 < (go Y s).2.1.1 := by omega
            have g4 : (go Y s).1 = s.1 + 1 := by rw [(go_1 hg).2.2]
            have h13 := hR2.2.2.2.1
            have hf8 := hR2.2.2.1
            refine aw rfl rfl ?_
            refine aw_getfE rfl mg_121 rfl (congrArg Value.int h13) ?_
            refine aw_len rfl (fun c92 => ?_) (fun c92 => by omega)
            refine (ih d l (e ++ [(0, nI (Y.2.2.1 s.1))]) (go Y s) k2 x2 hR2 hg ?_ (by rw [u49]; exact h49) (by rw [u48]; exact hw) ?_ ?_ (by rw [List.length_append, List.length_singleton, g4]; omega) hKn).2 (yi_int hY hg) q
            · rw [km.1 12 (by omega), ke.1 12 (by omega)]; exact h12
            · rw [u45, List.length_append, List.length_singleton]; rfl
            · refine ex_in_a _ _ _ (ex_in_c _ _ (fun i h1 h2 => ?_) hin) uin
              rw [km.2]
              exact ke.2.2.1 i (Or.inl (by omega))
          · have h13 := hR2.2.2.2.1
            have hf8 := hR2.2.2.1
            rw [yd_f hg] at q
            refine aw rfl rfl ?_
            refine aw_getfE rfl mg_121 rfl (congrArg Value.int h13) ?_
            refine aw_len rfl (fun c92 => by omega) (fun c92 => ?_)
            exact aw_vret rfl rfl (q k2 hR2 hKn (fun w => absurd w hg))
        · rw [if_neg e6, if_neg (by omega), if_pos h9] at q
          have hKn : KV sd cn k0 k2 := (hK.tr (ke.kv (by omega)) (by omega)).tr km.kv (Nat.le_refl _)
          by_cases hg : (go Y s).2.1.1 = 0
          · have hgt : ¬ 0 < (go Y s).2.1.1 := by omega
            have g4 : (go Y s).1 = s.1 + 1 := by rw [(go_1 hg).2.2]
            have h13 := hR2.2.2.2.1
            have hf8 := hR2.2.2.1
            refine aw rfl rfl ?_
            refine aw_getfE rfl mg_121 rfl (congrArg Value.int h13) ?_
            refine aw_len rfl (fun c92 => ?_) (fun c92 => by omega)
            refine (ih d l (e ++ [(1, nI (Y.1 s.1 - 36))]) (go Y s) k2 x2 hR2 hg ?_ (by rw [u49]; exact h49) (by rw [u48]; exact hw) ?_ ?_ (by rw [List.length_append, List.length_singleton, g4]; omega) hKn).2 (yi_var hY (by omega) hg) q
            · rw [km.1 12 (by omega), ke.1 12 (by omega)]; exact h12
            · rw [u45, List.length_append, List.length_singleton]; rfl
            · refine ex_in_a _ _ _ (ex_in_c _ _ (fun i h1 h2 => ?_) hin) uin
              rw [km.2]
              exact ke.2.2.1 i (Or.inl (by omega))
          · have h13 := hR2.2.2.2.1
            have hf8 := hR2.2.2.1
            rw [yd_f hg] at q
            refine aw rfl rfl ?_
            refine aw_getfE rfl mg_121 rfl (congrArg Value.int h13) ?_
            refine aw_len rfl (fun c92 => by omega) (fun c92 => ?_)
            exact aw_vret rfl rfl (q k2 hR2 hKn (fun w => absurd w hg))
        · rw [if_neg e6, if_neg (h9 hf).1, if_neg (h9 hf).2] at q
          have hff : ¬ (fl Y 1 s).2.1.1 = 0 := fl_0 (by decide)
          have h13 := hR2.2.2.2.1
          have hf8 := hR2.2.2.1
          refine aw rfl rfl ?_
          refine aw_getfE rfl mg_121 rfl (congrArg Value.int h13) ?_
          refine aw_len rfl (fun c92 => by omega) (fun c92 => ?_)
          exact aw_vret rfl rfl (q k2 hR2 (hK.tr km.kv (Nat.le_refl _)) (fun w => absurd w hff))
    · have hlen := hY.len
      have hd6 := hY.2.2.2.1
      rw [yd, if_neg (fun z => z hf), cond_false] at q
      have hzl := z_len l
      have htw : (l.takeWhile (ppB false)).length ≤ l.length := (List.takeWhile_prefix _).length_le
      have hdn := dw_n nzB nz0 l hY.1
      by_cases h7 : Y.1 s.1 = 7 ∧ 0 < d
      · rw [if_pos h7] at q
        refine aw rfl rfl ?_
        refine aw_c (v := nI 7) rfl (by decide) ?_
        refine aw_cv (d1 := 0) (L1 := 0) rfl rfl mg_121 rfl rfl (by decide) (by decide) (Nat.le_of_ble_eq_true rfl) (c_isY hR (by decide) hf h7.1 ?_)
        · refine aw_eq rfl (fun c => absurd c (by decide)) (fun _ => ?_)
          refine aw rfl rfl ?_
          refine aw_getfE rfl mg_121 rfl (congrArg Value.int h12) ?_
          refine aw rfl rfl ?_
          refine aw_ilen rfl (fun c110 => by omega) (fun c110 => ?_)
          refine aw rfl rfl ?_
          refine aw_c (v := nI 0) rfl (by decide) ?_
          refine aw_cv (d1 := 1) (L1 := 22) rfl rfl mg_121 rfl rfl (by decide) (by decide) (Nat.le_of_ble_eq_true rfl) (c_X11_comesOut (b := false) (l := l) h45 h49 hw (by omega) (by omega) (fun k1 a1 a2 a3 a4 a5 => ?_))
          have hdl : 1 ≤ (l.dropWhile (ppB false)).length := by rw [ppF]; have h9 := hdn.2.1; have h8 := hY.2.2.1; have h7z := z_len (l.dropWhile nzB); omega
          refine aw rfl rfl ?_
          refine aw rfl rfl ?_
          refine aw_getfE rfl mg_121 rfl (congrArg Value.int a2) ?_
          refine aw_c (v := nI 1) rfl (by decide) ?_
          refine aw_subn rfl (by omega) ?_
          refine aw_putfU rfl mg_121 rfl rfl (by decide) mp_49 ?_
          refine aw rfl rfl ?_
          refine aw rfl rfl ?_
          refine aw_getfE rfl mg_121 rfl (congrArg Value.int (show k1.1 12 = nI d by rw [a4.1 12 (by omega)]; exact h12)) ?_
          refine aw_c (v := nI 1) rfl (by decide) ?_
          refine aw_subn rfl (by omega) ?_
          refine aw_putfU rfl mg_121 rfl rfl (by decide) mp_12 ?_
          refine aw rfl rfl ?_
          refine aw_cv (d1 := 1) (L1 := 21) rfl rfl mg_121 rfl rfl (by decide) (by decide) (Nat.le_of_ble_eq_true rfl) (c_X11_goesOn (k := (va_up (va_up k1.1 49 (nI ((l.dropWhile (ppB false)).length - 1))) 12 (nI (d - 1)), k1.2.1, k1.2.2)) ((a4.rm hR).kp (KV.kp (sd := sd) (lo := cn) (KV.u49.tr KV.u12 (Nat.le_refl _))) rfl (fun n h1 h2 => by show va_up (va_up k1.1 49 _) 12 _ n = _; rw [vu_ot (by omega), vu_ot (by omega)])) (fun _ => by omega) (fun k2 hR2 hk2 => ?_))
          refine aw rfl rfl ?_
          have hKn : KV sd cn k0 k2 := (((hK.tr (a4.kv (by rw [ppF]; omega)) (by omega)).tr KV.u49 (Nat.le_refl _)).tr KV.u12 (Nat.le_refl _)).tr hk2.kv (Nat.le_refl _)
          rw [ppF] at a1 a2 a4 a5
          have hdt := dw_t hY.1 (by have := hY.2.2.1; omega)
          obtain ⟨zr, ezr⟩ : ∃ zr, l.dropWhile nzB = 0 :: zr := by
            cases ed : l.dropWhile nzB with
            | nil => rw [ed] at hdn; exact absurd hdn.2.1 (by have := hY.2.2.1; have h9 : z0 [] = 0 := rfl; omega)
            | cons y r => have hy := dw_h _ l y r ed; exact ⟨r, by rw [nz_0 hy]⟩
          have hwd : wpm (k.2.1 48) (l.dropWhile nzB) := wpm_d _ hw
          have h49n : k2.1 49 = nI (l.dropWhile nzB).tail.length := by rw [hk2.1 49 (by omega)]; show nI ((l.dropWhile (ppB false)).length - 1) = _; rw [ppF, ezr]; rfl
          have h48n : wpm (k2.2.1 48) (l.dropWhile nzB).tail := by rw [show k2.2.1 48 = k1.2.1 48 by rw [hk2.2], a3, ezr]; rw [ezr] at hwd; exact hwd.2
          have h45n : k2.1 45 = nI (cn + (e ++ opsE (l.takeWhile nzB)).length) := by rw [hk2.1 45 (by omega), List.length_append, opsE_len]; show k1.1 45 = _; rw [a1]; congr 1; omega
          have hinn : ex_in (k2.2.1 46) (k2.2.1 47) cn (e ++ opsE (l.takeWhile nzB)) := by
            rw [show k2.2.1 46 = k1.2.1 46 by rw [hk2.2], show k2.2.1 47 = k1.2.1 47 by rw [hk2.2]]
            exact ex_in_a _ _ _ (ex_in_c _ _ (fun i h1 h2 => a4.2.2.1 i (Or.inl (by omega))) hin) a5
          have h12n : k2.1 12 = nI (d - 1) := by rw [hk2.1 12 (by omega)]; rfl
          have hel : (e ++ opsE (l.takeWhile nzB)).length = e.length + (l.takeWhile nzB).length := by rw [List.length_append, opsE_len]
          by_cases hg : (go Y s).2.1.1 = 0
          · have g4 : (go Y s).1 = s.1 + 1 := by rw [(go_1 hg).2.2]
            exact (ih (d - 1) (l.dropWhile nzB).tail (e ++ opsE (l.takeWhile nzB)) (go Y s) k2 x2 hR2 hg h12n h49n h48n h45n hinn (by rw [hel, g4]; omega) hKn).2 (yi_close hY h7.2 hg) q
          · rw [yd_f hg] at q
            have htl : (l.dropWhile nzB).tail.length ≤ 20 := by have := (List.dropWhile_suffix nzB (l := l)).length_le; rw [List.length_tail]; omega
            exact l_exFB (l := (l.dropWhile nzB).tail) hR2 hg h12n (by omega) h45n h49n h48n (by omega) (by omega) (by rw [hel]; have := z_len (l.dropWhile nzB).tail; omega) hs hKn q
      · rw [if_neg h7] at q
        by_cases h8 : Y.1 s.1 = 8 ∨ Y.1 s.1 = 9 ∨ Y.1 s.1 = 10 ∨ Y.1 s.1 = 15
        · rw [if_pos h8] at q
          have hok := opM_K h8
          have hoi := @opK_in (Y.1 s.1)
          have ht5 := (hR.tk hf).1
          have h11 := (hR.2.2.2.2.1 hf).1
          have htws : (l.takeWhile (ppB (decide (4 ≤ opK (Y.1 s.1))))).length ≤ l.length := (List.takeWhile_prefix _).length_le
          have hdp := dw_n (ppB (decide (4 ≤ opK (Y.1 s.1)))) pp0 l hY.1
          have hdz := z_len (l.dropWhile (ppB (decide (4 ≤ opK (Y.1 s.1)))))
          have hKo : ∀ k1, KE (cn + e.length) (cn + e.length + (l.takeWhile (ppB (decide (4 ≤ opK (Y.1 s.1))))).length) k k1 → KV sd cn k0 k1 := fun k1 a4 => hK.tr (a4.kv (by omega)) (by omega)
          rcases h8 with h8 | h8 | h8 | h8
          · have eb : decide (4 ≤ opK (Y.1 s.1)) = false := by rw [h8]; rfl
            refine aw rfl rfl ?_
            refine aw_c (v := nI 7) rfl (by decide) ?_
            refine aw_cv (d1 := 0) (L1 := 0) rfl rfl mg_121 rfl rfl (by decide) (by decide) (Nat.le_of_ble_eq_true rfl) (c_isN hR (by decide) (fun _ => by omega) ?_)
            · refine aw_eq rfl (fun _ => ?_) (fun c => absurd (by decide) c)
              refine aw rfl rfl ?_
              refine aw_c (v := nI 8) rfl (by decide) ?_
              refine aw_cv (d1 := 0) (L1 := 0) rfl rfl mg_121 rfl rfl (by decide) (by decide) (Nat.le_of_ble_eq_true rfl) (c_isY hR (by decide) hf h8 ?_)
              · refine aw_ne rfl (fun _ => ?_) (fun c => absurd c (by decide))
                refine aw_c (v := nI 1) rfl (by decide) ?_
                refine aw rfl rfl ?_
                refine aw_ist (ls' := [_, _, _]) rfl rfl ?_
                refine aw rfl rfl ?_
                refine aw_ne rfl (fun _ => ?_) (fun c => absurd c (by decide))
                refine aw rfl rfl ?_
                refine aw rfl rfl ?_
                refine aw_c (v := nI 10) rfl (by decide) ?_
                refine aw_cv (d1 := 0) (L1 := 0) rfl rfl mg_121 rfl rfl (by decide) (by decide) (Nat.le_of_ble_eq_true rfl) (c_isN hR (by decide) (fun _ => by omega) ?_)
                · refine aw_ne rfl (fun c => absurd (by decide) c) (fun _ => ?_)
                  refine aw rfl rfl ?_
                  refine aw_c (v := nI 15) rfl (by decide) ?_
                  refine aw_cv (d1 := 0) (L1 := 0) rfl rfl mg_121 rfl rfl (by decide) (by decide) (Nat.le_of_ble_eq_true rfl) (c_isN hR (by decide) (fun _ => by omega) ?_)
                  · refine aw_eq rfl (fun _ => ?_) (fun c => absurd (by decide) c)
                    refine aw_c (v := nI 0) rfl (by decide) ?_
                    refine aw_cv (d1 := 1) (L1 := 22) rfl rfl mg_121 rfl rfl (by decide) (by decide) (Nat.le_of_ble_eq_true rfl) (c_X11_comesOut (b := false) (l := l) h45 h49 hw (by omega) (by omega) (fun k1 a1 a2 a3 a4 a5 => ?_))
                    have hdlx : (l.dropWhile (ppB false)).length ≤ l.length := (List.dropWhile_suffix _).length_le
                    refine aw rfl rfl ?_
                    refine aw_getf rfl mg_121 rfl ?_
                    refine aw rfl rfl ?_
                    refine aw_getfE rfl mg_121 rfl (congrArg Value.int a2) ?_
                    refine aw rfl rfl ?_
                    refine aw_getf rfl mg_121 rfl ?_
                    refine aw rfl rfl ?_
                    refine aw_getfE rfl mg_121 rfl (congrArg Value.int (show k1.1 11 = nI s.1 by rw [a4.1 11 (by omega)]; exact h11)) ?_
                    refine aw_ialdE rfl mg_124 rfl (by omega) (by decide) (show k1.2.1 5 s.1 = nI (Y.1 s.1) by rw [a4.2.1 5 (by omega)]; exact ht5) ?_
                    refine aw_iastU rfl mg_154 rfl (by omega) (by decide) (by decide) mu_154 ?_
                    refine aw rfl rfl ?_
                    refine aw rfl rfl ?_
                    refine aw_getfE rfl mg_121 rfl (congrArg Value.int a2) ?_
                    refine aw_c (v := nI 1) rfl (by decide) ?_
                    refine aw_addn rfl ?_
                    refine aw_putfU rfl mg_121 rfl rfl (by decide) mp_49 ?_
                    refine aw rfl rfl ?_
                    refine aw_cv (d1 := 1) (L1 := 21) rfl rfl mg_121 rfl rfl (by decide) (by decide) (Nat.le_of_ble_eq_true rfl) (c_X11_goesOn (k := (va_up k1.1 49 (nI ((l.dropWhile (ppB false)).length + 1)), va_up k1.2.1 48 (upd (k1.2.1 48) (l.dropWhile (ppB false)).length (nI (Y.1 s.1))), k1.2.2)) ((a4.rm hR).kp (KV.kp (sd := sd) (lo := cn) (KV.u48.tr KV.u49 (Nat.le_refl _))) rfl (fun n h1 h2 => vu_ot (by omega))) (fun _ => by omega) (fun k2 hR2 hk2 => ?_))
                    refine aw rfl rfl ?_
                    rw [eb] at q htws hdp hdz hKo
                    have hel : (e ++ opsE (l.takeWhile (ppB false))).length = e.length + (l.takeWhile (ppB false)).length := by rw [List.length_append, opsE_len]
                    have h48e : k2.2.1 48 = upd (k.2.1 48) (l.dropWhile (ppB false)).length (nI (Y.1 s.1)) := by
                      rw [hk2.2]
                      show upd (k1.2.1 48) _ _ = _
                      rw [a3]
                    have hKn : KV sd cn k0 k2 := (((hKo k1 a4).tr KV.u48 (Nat.le_refl _)).tr KV.u49 (Nat.le_refl _)).tr hk2.kv (Nat.le_refl _)
                    have h49n : k2.1 49 = nI (opK (Y.1 s.1) :: l.dropWhile (ppB false)).length := by rw [hk2.1 49 (by omega), List.length_cons]; rfl
                    have h45n : k2.1 45 = nI (cn + (e ++ opsE (l.takeWhile (ppB false))).length) := by rw [hk2.1 45 (by omega), hel]; show k1.1 45 = _; rw [a1]; congr 1; omega
                    have hinn : ex_in (k2.2.1 46) (k2.2.1 47) cn (e ++ opsE (l.takeWhile (ppB false))) := by
                      rw [show k2.2.1 46 = k1.2.1 46 by rw [hk2.2]; rfl, show k2.2.1 47 = k1.2.1 47 by rw [hk2.2]; rfl]
                      exact ex_in_a _ _ _ (ex_in_c _ _ (fun i h1 h2 => a4.2.2.1 i (Or.inl (by omega))) hin) a5
                    have h12n : k2.1 12 = nI d := by rw [hk2.1 12 (by omega)]; show k1.1 12 = _; rw [a4.1 12 (by omega)]; exact h12
                    have hwn : wpm (k2.2.1 48) (opK (Y.1 s.1) :: l.dropWhile (ppB false)) := by
                      rw [h48e]
                      exact ⟨⟨by rw [upd_at, hok.1], hoi.2, hok.2⟩, wpm_upd _ _ (Nat.le_refl _) (wpm_d _ hw)⟩
                    have h13 := hR2.2.2.2.1
                    have hf8 := hR2.2.2.1
                    by_cases hg : (go Y s).2.1.1 = 0
                    · have g4 : (go Y s).1 = s.1 + 1 := by rw [(go_1 hg).2.2]
                      have h13 : k2.1 13 = nI 0 := by rw [h13, hg]
                      refine aw rfl rfl ?_
                      refine aw_eq rfl (fun c => absurd c (by decide)) (fun _ => ?_)
                      refine aw rfl rfl ?_
                      refine aw_getfE rfl mg_121 rfl (congrArg Value.int h13) ?_
                      refine aw_ne rfl (fun c => absurd (by decide) c) (fun _ => ?_)
                      exact (ih d _ _ (go Y s) k2 (nI 1) hR2 hg h12n h49n hwn h45n hinn (by rw [hel, g4, z1, if_neg (by omega)]; omega) hKn).1 ((by have h9 := yi_op hY hoi hg; rw [eb] at h9; exact h9)) q
                    · rw [yd_f hg] at q
                      refine aw rfl rfl ?_
                      refine aw_eq rfl (fun c => absurd c (by decide)) (fun _ => ?_)
                      refine aw rfl rfl ?_
                      refine aw_getfE rfl mg_121 rfl (congrArg Value.int h13) ?_
                      refine aw_nen rfl (fun c20 => ?_) (fun c20 => absurd c20 hg)
                      exact aw_vret rfl rfl (q k2 hR2 hKn (fun w => absurd w hg))
          · have eb : decide (4 ≤ opK (Y.1 s.1)) = false := by rw [h8]; rfl
            refine aw rfl rfl ?_
            refine aw_c (v := nI 7) rfl (by decide) ?_
            refine aw_cv (d1 := 0) (L1 := 0) rfl rfl mg_121 rfl rfl (by decide) (by decide) (Nat.le_of_ble_eq_true rfl) (c_isN hR (by decide) (fun _ => by omega) ?_)
            · refine aw_eq rfl (fun _ => ?_) (fun c => absurd (by decide) c)
              refine aw rfl rfl ?_
              refine aw_c (v := nI 8) rfl (by decide) ?_
              refine aw_cv (d1 := 0) (L1 := 0) rfl rfl mg_121 rfl rfl (by decide) (by decide) (Nat.le_of_ble_eq_true rfl) (c_isN hR (by decide) (fun _ => by omega) ?_)
              · refine aw_ne rfl (fun c => absurd (by decide) c) (fun _ => ?_)
                refine aw rfl rfl ?_
                refine aw_c (v := nI 9) rfl (by decide) ?_
                refine aw_cv (d1 := 0) (L1 := 0) rfl rfl mg_121 rfl rfl (by decide) (by decide) (Nat.le_of_ble_eq_true rfl) (c_isY hR (by decide) hf h8 ?_)
                · refine aw_ne rfl (fun _ => ?_) (fun c => absurd c (by decide))
                  refine aw_c (v := nI 1) rfl (by decide) ?_
                  refine aw rfl rfl ?_
                  refine aw_ist (ls' := [_, _, _]) rfl rfl ?_
                  refine aw rfl rfl ?_
                  refine aw_ne rfl (fun _ => ?_) (fun c => absurd c (by decide))
                  refine aw rfl rfl ?_
                  refine aw rfl rfl ?_
                  refine aw_c (v := nI 10) rfl (by decide) ?_
                  refine aw_cv (d1 := 0) (L1 := 0) rfl rfl mg_121 rfl rfl (by decide) (by decide) (Nat.le_of_ble_eq_true rfl) (c_isN hR (by decide) (fun _ => by omega) ?_)
                  · refine aw_ne rfl (fun c => absurd (by decide) c) (fun _ => ?_)
                    refine aw rfl rfl ?_
                    refine aw_c (v := nI 15) rfl (by decide) ?_
                    refine aw_cv (d1 := 0) (L1 := 0) rfl rfl mg_121 rfl rfl (by decide) (by decide) (Nat.le_of_ble_eq_true rfl) (c_isN hR (by decide) (fun _ => by omega) ?_)
                    · refine aw_eq rfl (fun _ => ?_) (fun c => absurd (by decide) c)
                      refine aw_c (v := nI 0) rfl (by decide) ?_
                      refine aw_cv (d1 := 1) (L1 := 22) rfl rfl mg_121 rfl rfl (by decide) (by decide) (Nat.le_of_ble_eq_true rfl) (c_X11_comesOut (b := false) (l := l) h45 h49 hw (by omega) (by omega) (fun k1 a1 a2 a3 a4 a5 => ?_))
                      have hdlx : (l.dropWhile (ppB false)).length ≤ l.length := (List.dropWhile_suffix _).length_le
                      refine aw rfl rfl ?_
                      refine aw_getf rfl mg_121 rfl ?_
                      refine aw rfl rfl ?_
                      refine aw_getfE rfl mg_121 rfl (congrArg Value.int a2) ?_
                      refine aw rfl rfl ?_
                      refine aw_getf rfl mg_121 rfl ?_
                      refine aw rfl rfl ?_
                      refine aw_getfE rfl mg_121 rfl (congrArg Value.int (show k1.1 11 = nI s.1 by rw [a4.1 11 (by omega)]; exact h11)) ?_
                      refine aw_ialdE rfl mg_124 rfl (by omega) (by decide) (show k1.2.1 5 s.1 = nI (Y.1 s.1) by rw [a4.2.1 5 (by omega)]; exact ht5) ?_
                      refine aw_iastU rfl mg_154 rfl (by omega) (by decide) (by decide) mu_154 ?_
                      refine aw rfl rfl ?_
                      refine aw rfl rfl ?_
                      refine aw_getfE rfl mg_121 rfl (congrArg Value.int a2) ?_
                      refine aw_c (v := nI 1) rfl (by decide) ?_
                      refine aw_addn rfl ?_
                      refine aw_putfU rfl mg_121 rfl rfl (by decide) mp_49 ?_
                      refine aw rfl rfl ?_
                      refine aw_cv (d1 := 1) (L1 := 21) rfl rfl mg_121 rfl rfl (by decide) (by decide) (Nat.le_of_ble_eq_true rfl) (c_X11_goesOn (k := (va_up k1.1 49 (nI ((l.dropWhile (ppB false)).length + 1)), va_up k1.2.1 48 (upd (k1.2.1 48) (l.dropWhile (ppB false)).length (nI (Y.1 s.1))), k1.2.2)) ((a4.rm hR).kp (KV.kp (sd := sd) (lo := cn) (KV.u48.tr KV.u49 (Nat.le_refl _))) rfl (fun n h1 h2 => vu_ot (by omega))) (fun _ => by omega) (fun k2 hR2 hk2 => ?_))
                      refine aw rfl rfl ?_
                      rw [eb] at q htws hdp hdz hKo
                      have hel : (e ++ opsE (l.takeWhile (ppB false))).length = e.length + (l.takeWhile (ppB false)).length := by rw [List.length_append, opsE_len]
                      have h48e : k2.2.1 48 = upd (k.2.1 48) (l.dropWhile (ppB false)).length (nI (Y.1 s.1)) := by
                        rw [hk2.2]
                        show upd (k1.2.1 48) _ _ = _
                        rw [a3]
                      have hKn : KV sd cn k0 k2 := (((hKo k1 a4).tr KV.u48 (Nat.le_refl _)).tr KV.u49 (Nat.le_refl _)).tr hk2.kv (Nat.le_refl _)
                      have h49n : k2.1 49 = nI (opK (Y.1 s.1) :: l.dropWhile (ppB false)).length := by rw [hk2.1 49 (by omega), List.length_cons]; rfl
                      have h45n : k2.1 45 = nI (cn + (e ++ opsE (l.takeWhile (ppB false))).length) := by rw [hk2.1 45 (by omega), hel]; show k1.1 45 = _; rw [a1]; congr 1; omega
                      have hinn : ex_in (k2.2.1 46) (k2.2.1 47) cn (e ++ opsE (l.takeWhile (ppB false))) := by
                        rw [show k2.2.1 46 = k1.2.1 46 by rw [hk2.2]; rfl, show k2.2.1 47 = k1.2.1 47 by rw [hk2.2]; rfl]
                        exact ex_in_a _ _ _ (ex_in_c _ _ (fun i h1 h2 => a4.2.2.1 i (Or.inl (by omega))) hin) a5
                      have h12n : k2.1 12 = nI d := by rw [hk2.1 12 (by omega)]; show k1.1 12 = _; rw [a4.1 12 (by omega)]; exact h12
                      have hwn : wpm (k2.2.1 48) (opK (Y.1 s.1) :: l.dropWhile (ppB false)) := by
                        rw [h48e]
                        exact ⟨⟨by rw [upd_at, hok.1], hoi.2, hok.2⟩, wpm_upd _ _ (Nat.le_refl _) (wpm_d _ hw)⟩
                      have h13 := hR2.2.2.2.1
                      have hf8 := hR2.2.2.1
                      by_cases hg : (go Y s).2.1.1 = 0
                      · have g4 : (go Y s).1 = s.1 + 1 := by rw [(go_1 hg).2.2]
                        have h13 : k2.1 13 = nI 0 := by rw [h13, hg]
                        refine aw rfl rfl ?_
                        refine aw_eq rfl (fun c => absurd c (by decide)) (fun _ => ?_)
                        refine aw rfl rfl ?_
                        refine aw_getfE rfl mg_121 rfl (congrArg Value.int h13) ?_
                        refine aw_ne rfl (fun c => absurd (by decide) c) (fun _ => ?_)
                        exact (ih d _ _ (go Y s) k2 (nI 1) hR2 hg h12n h49n hwn h45n hinn (by rw [hel, g4, z1, if_neg (by omega)]; omega) hKn).1 ((by have h9 := yi_op hY hoi hg; rw [eb] at h9; exact h9)) q
                      · rw [yd_f hg] at q
                        refine aw rfl rfl ?_
                        refine aw_eq rfl (fun c => absurd c (by decide)) (fun _ => ?_)
                        refine aw rfl rfl ?_
                        refine aw_getfE rfl mg_121 rfl (congrArg Value.int h13) ?_
                        refine aw_nen rfl (fun c20 => ?_) (fun c20 => absurd c20 hg)
                        exact aw_vret rfl rfl (q k2 hR2 hKn (fun w => absurd w hg))
          · have eb : decide (4 ≤ opK (Y.1 s.1)) = true := by rw [h8]; rfl
            refine aw rfl rfl ?_
            refine aw_c (v := nI 7) rfl (by decide) ?_
            refine aw_cv (d1 := 0) (L1 := 0) rfl rfl mg_121 rfl rfl (by decide) (by decide) (Nat.le_of_ble_eq_true rfl) (c_isN hR (by decide) (fun _ => by omega) ?_)
            · refine aw_eq rfl (fun _ => ?_) (fun c => absurd (by decide) c)
              refine aw rfl rfl ?_
              refine aw_c (v := nI 8) rfl (by decide) ?_
              refine aw_cv (d1 := 0) (L1 := 0) rfl rfl mg_121 rfl rfl (by decide) (by decide) (Nat.le_of_ble_eq_true rfl) (c_isN hR (by decide) (fun _ => by omega) ?_)
              · refine aw_ne rfl (fun c => absurd (by decide) c) (fun _ => ?_)
                refine aw rfl rfl ?_
                refine aw_c (v := nI 9) rfl (by decide) ?_
                refine aw_cv (d1 := 0) (L1 := 0) rfl rfl mg_121 rfl rfl (by decide) (by decide) (Nat.le_of_ble_eq_true rfl) (c_isN hR (by decide) (fun _ => by omega) ?_)
                · refine aw_ne rfl (fun c => absurd (by decide) c) (fun _ => ?_)
                  refine aw rfl rfl ?_
                  refine aw_c (v := nI 10) rfl (by decide) ?_
                  refine aw_cv (d1 := 0) (L1 := 0) rfl rfl mg_121 rfl rfl (by decide) (by decide) (Nat.le_of_ble_eq_true rfl) (c_isY hR (by decide) hf h8 ?_)
                  · refine aw_ne rfl (fun _ => ?_) (fun c => absurd c (by decide))
                    refine aw_c (v := nI 1) rfl (by decide) ?_
                    refine aw rfl rfl ?_
                    refine aw_ist (ls' := [_, _, _]) rfl rfl ?_
                    refine aw rfl rfl ?_
                    refine aw_ne rfl (fun _ => ?_) (fun c => absurd c (by decide))
                    refine aw rfl rfl ?_
                    refine aw rfl rfl ?_
                    refine aw_c (v := nI 10) rfl (by decide) ?_
                    refine aw_cv (d1 := 0) (L1 := 0) rfl rfl mg_121 rfl rfl (by decide) (by decide) (Nat.le_of_ble_eq_true rfl) (c_isY hR (by decide) hf h8 ?_)
                    · refine aw_ne rfl (fun _ => ?_) (fun c => absurd c (by decide))
                      refine aw_c (v := nI 1) rfl (by decide) ?_
                      refine aw rfl rfl ?_
                      refine aw_cv (d1 := 1) (L1 := 22) rfl rfl mg_121 rfl rfl (by decide) (by decide) (Nat.le_of_ble_eq_true rfl) (c_X11_comesOut (b := true) (l := l) h45 h49 hw (by omega) (by omega) (fun k1 a1 a2 a3 a4 a5 => ?_))
                      have hdlx : (l.dropWhile (ppB true)).length ≤ l.length := (List.dropWhile_suffix _).length_le
                      refine aw rfl rfl ?_
                      refine aw_getf rfl mg_121 rfl ?_
                      refine aw rfl rfl ?_
                      refine aw_getfE rfl mg_121 rfl (congrArg Value.int a2) ?_
                      refine aw rfl rfl ?_
                      refine aw_getf rfl mg_121 rfl ?_
                      refine aw rfl rfl ?_
                      refine aw_getfE rfl mg_121 rfl (congrArg Value.int (show k1.1 11 = nI s.1 by rw [a4.1 11 (by omega)]; exact h11)) ?_
                      refine aw_ialdE rfl mg_124 rfl (by omega) (by decide) (show k1.2.1 5 s.1 = nI (Y.1 s.1) by rw [a4.2.1 5 (by omega)]; exact ht5) ?_
                      refine aw_iastU rfl mg_154 rfl (by omega) (by decide) (by decide) mu_154 ?_
                      refine aw rfl rfl ?_
                      refine aw rfl rfl ?_
                      refine aw_getfE rfl mg_121 rfl (congrArg Value.int a2) ?_
                      refine aw_c (v := nI 1) rfl (by decide) ?_
                      refine aw_addn rfl ?_
                      refine aw_putfU rfl mg_121 rfl rfl (by decide) mp_49 ?_
                      refine aw rfl rfl ?_
                      refine aw_cv (d1 := 1) (L1 := 21) rfl rfl mg_121 rfl rfl (by decide) (by decide) (Nat.le_of_ble_eq_true rfl) (c_X11_goesOn (k := (va_up k1.1 49 (nI ((l.dropWhile (ppB true)).length + 1)), va_up k1.2.1 48 (upd (k1.2.1 48) (l.dropWhile (ppB true)).length (nI (Y.1 s.1))), k1.2.2)) ((a4.rm hR).kp (KV.kp (sd := sd) (lo := cn) (KV.u48.tr KV.u49 (Nat.le_refl _))) rfl (fun n h1 h2 => vu_ot (by omega))) (fun _ => by omega) (fun k2 hR2 hk2 => ?_))
                      refine aw rfl rfl ?_
                      rw [eb] at q htws hdp hdz hKo
                      have hel : (e ++ opsE (l.takeWhile (ppB true))).length = e.length + (l.takeWhile (ppB true)).length := by rw [List.length_append, opsE_len]
                      have h48e : k2.2.1 48 = upd (k.2.1 48) (l.dropWhile (ppB true)).length (nI (Y.1 s.1)) := by
                        rw [hk2.2]
                        show upd (k1.2.1 48) _ _ = _
                        rw [a3]
                      have hKn : KV sd cn k0 k2 := (((hKo k1 a4).tr KV.u48 (Nat.le_refl _)).tr KV.u49 (Nat.le_refl _)).tr hk2.kv (Nat.le_refl _)
                      have h49n : k2.1 49 = nI (opK (Y.1 s.1) :: l.dropWhile (ppB true)).length := by rw [hk2.1 49 (by omega), List.length_cons]; rfl
                      have h45n : k2.1 45 = nI (cn + (e ++ opsE (l.takeWhile (ppB true))).length) := by rw [hk2.1 45 (by omega), hel]; show k1.1 45 = _; rw [a1]; congr 1; omega
                      have hinn : ex_in (k2.2.1 46) (k2.2.1 47) cn (e ++ opsE (l.takeWhile (ppB true))) := by
                        rw [show k2.2.1 46 = k1.2.1 46 by rw [hk2.2]; rfl, show k2.2.1 47 = k1.2.1 47 by rw [hk2.2]; rfl]
                        exact ex_in_a _ _ _ (ex_in_c _ _ (fun i h1 h2 => a4.2.2.1 i (Or.inl (by omega))) hin) a5
                      have h12n : k2.1 12 = nI d := by rw [hk2.1 12 (by omega)]; show k1.1 12 = _; rw [a4.1 12 (by omega)]; exact h12
                      have hwn : wpm (k2.2.1 48) (opK (Y.1 s.1) :: l.dropWhile (ppB true)) := by
                        rw [h48e]
                        exact ⟨⟨by rw [upd_at, hok.1], hoi.2, hok.2⟩, wpm_upd _ _ (Nat.le_refl _) (wpm_d _ hw)⟩
                      have h13 := hR2.2.2.2.1
                      have hf8 := hR2.2.2.1
                      by_cases hg : (go Y s).2.1.1 = 0
                      · have g4 : (go Y s).1 = s.1 + 1 := by rw [(go_1 hg).2.2]
                        have h13 : k2.1 13 = nI 0 := by rw [h13, hg]
                        refine aw rfl rfl ?_
                        refine aw_eq rfl (fun c => absurd c (by decide)) (fun _ => ?_)
                        refine aw rfl rfl ?_
                        refine aw_getfE rfl mg_121 rfl (congrArg Value.int h13) ?_
                        refine aw_ne rfl (fun c => absurd (by decide) c) (fun _ => ?_)
                        exact (ih d _ _ (go Y s) k2 (nI 1) hR2 hg h12n h49n hwn h45n hinn (by rw [hel, g4, z1, if_neg (by omega)]; omega) hKn).1 ((by have h9 := yi_op hY hoi hg; rw [eb] at h9; exact h9)) q
                      · rw [yd_f hg] at q
                        refine aw rfl rfl ?_
                        refine aw_eq rfl (fun c => absurd c (by decide)) (fun _ => ?_)
                        refine aw rfl rfl ?_
                        refine aw_getfE rfl mg_121 rfl (congrArg Value.int h13) ?_
                        refine aw_nen rfl (fun c20 => ?_) (fun c20 => absurd c20 hg)
                        exact aw_vret rfl rfl (q k2 hR2 hKn (fun w => absurd w hg))
          · have eb : decide (4 ≤ opK (Y.1 s.1)) = true := by rw [h8]; rfl
            refine aw rfl rfl ?_
            refine aw_c (v := nI 7) rfl (by decide) ?_
            refine aw_cv (d1 := 0) (L1 := 0) rfl rfl mg_121 rfl rfl (by decide) (by decide) (Nat.le_of_ble_eq_true rfl) (c_isN hR (by decide) (fun _ => by omega) ?_)
            · refine aw_eq rfl (fun _ => ?_) (fun c => absurd (by decide) c)
              refine aw rfl rfl ?_
              refine aw_c (v := nI 8) rfl (by decide) ?_
              refine aw_cv (d1 := 0) (L1 := 0) rfl rfl mg_121 rfl rfl (by decide) (by decide) (Nat.le_of_ble_eq_true rfl) (c_isN hR (by decide) (fun _ => by omega) ?_)
              · refine aw_ne rfl (fun c => absurd (by decide) c) (fun _ => ?_)
                refine aw rfl rfl ?_
                refine aw_c (v := nI 9) rfl (by decide) ?_
                refine aw_cv (d1 := 0) (L1 := 0) rfl rfl mg_121 rfl rfl (by decide) (by decide) (Nat.le_of_ble_eq_true rfl) (c_isN hR (by decide) (fun _ => by omega) ?_)
                · refine aw_ne rfl (fun c => absurd (by decide) c) (fun _ => ?_)
                  refine aw rfl rfl ?_
                  refine aw_c (v := nI 10) rfl (by decide) ?_
                  refine aw_cv (d1 := 0) (L1 := 0) rfl rfl mg_121 rfl rfl (by decide) (by decide) (Nat.le_of_ble_eq_true rfl) (c_isN hR (by decide) (fun _ => by omega) ?_)
                  · refine aw_ne rfl (fun c => absurd (by decide) c) (fun _ => ?_)
                    refine aw rfl rfl ?_
                    refine aw_c (v := nI 15) rfl (by decide) ?_
                    refine aw_cv (d1 := 0) (L1 := 0) rfl rfl mg_121 rfl rfl (by decide) (by decide) (Nat.le_of_ble_eq_true rfl) (c_isY hR (by decide) hf h8 ?_)
                    · refine aw_eq rfl (fun c => absurd c (by decide)) (fun _ => ?_)
                      refine aw_c (v := nI 1) rfl (by decide) ?_
                      refine aw rfl rfl ?_
                      refine aw_ist (ls' := [_, _, _]) rfl rfl ?_
                      refine aw rfl rfl ?_
                      refine aw_ne rfl (fun _ => ?_) (fun c => absurd c (by decide))
                      refine aw rfl rfl ?_
                      refine aw rfl rfl ?_
                      refine aw_c (v := nI 10) rfl (by decide) ?_
                      refine aw_cv (d1 := 0) (L1 := 0) rfl rfl mg_121 rfl rfl (by decide) (by decide) (Nat.le_of_ble_eq_true rfl) (c_isN hR (by decide) (fun _ => by omega) ?_)
                      · refine aw_ne rfl (fun c => absurd (by decide) c) (fun _ => ?_)
                        refine aw rfl rfl ?_
                        refine aw_c (v := nI 15) rfl (by decide) ?_
                        refine aw_cv (d1 := 0) (L1 := 0) rfl rfl mg_121 rfl rfl (by decide) (by decide) (Nat.le_of_ble_eq_true rfl) (c_isY hR (by decide) hf h8 ?_)
                        · refine aw_eq rfl (fun c => absurd c (by decide)) (fun _ => ?_)
                          refine aw_c (v := nI 1) rfl (by decide) ?_
                          refine aw rfl rfl ?_
                          refine aw_cv (d1 := 1) (L1 := 22) rfl rfl mg_121 rfl rfl (by decide) (by decide) (Nat.le_of_ble_eq_true rfl) (c_X11_comesOut (b := true) (l := l) h45 h49 hw (by omega) (by omega) (fun k1 a1 a2 a3 a4 a5 => ?_))
                          have hdlx : (l.dropWhile (ppB true)).length ≤ l.length := (List.dropWhile_suffix _).length_le
                          refine aw rfl rfl ?_
                          refine aw_getf rfl mg_121 rfl ?_
                          refine aw rfl rfl ?_
                          refine aw_getfE rfl mg_121 rfl (congrArg Value.int a2) ?_
                          refine aw rfl rfl ?_
                          refine aw_getf rfl mg_121 rfl ?_
                          refine aw rfl rfl ?_
                          refine aw_getfE rfl mg_121 rfl (congrArg Value.int (show k1.1 11 = nI s.1 by rw [a4.1 11 (by omega)]; exact h11)) ?_
                          refine aw_ialdE rfl mg_124 rfl (by omega) (by decide) (show k1.2.1 5 s.1 = nI (Y.1 s.1) by rw [a4.2.1 5 (by omega)]; exact ht5) ?_
                          refine aw_iastU rfl mg_154 rfl (by omega) (by decide) (by decide) mu_154 ?_
                          refine aw rfl rfl ?_
                          refine aw rfl rfl ?_
                          refine aw_getfE rfl mg_121 rfl (congrArg Value.int a2) ?_
                          refine aw_c (v := nI 1) rfl (by decide) ?_
                          refine aw_addn rfl ?_
                          refine aw_putfU rfl mg_121 rfl rfl (by decide) mp_49 ?_
                          refine aw rfl rfl ?_
                          refine aw_cv (d1 := 1) (L1 := 21) rfl rfl mg_121 rfl rfl (by decide) (by decide) (Nat.le_of_ble_eq_true rfl) (c_X11_goesOn (k := (va_up k1.1 49 (nI ((l.dropWhile (ppB true)).length + 1)), va_up k1.2.1 48 (upd (k1.2.1 48) (l.dropWhile (ppB true)).length (nI (Y.1 s.1))), k1.2.2)) ((a4.rm hR).kp (KV.kp (sd := sd) (lo := cn) (KV.u48.tr KV.u49 (Nat.le_refl _))) rfl (fun n h1 h2 => vu_ot (by omega))) (fun _ => by omega) (fun k2 hR2 hk2 => ?_))
                          refine aw rfl rfl ?_
                          rw [eb] at q htws hdp hdz hKo
                          have hel : (e ++ opsE (l.takeWhile (ppB true))).length = e.length + (l.takeWhile (ppB true)).length := by rw [List.length_append, opsE_len]
                          have h48e : k2.2.1 48 = upd (k.2.1 48) (l.dropWhile (ppB true)).length (nI (Y.1 s.1)) := by
                            rw [hk2.2]
                            show upd (k1.2.1 48) _ _ = _
                            rw [a3]
                          have hKn : KV sd cn k0 k2 := (((hKo k1 a4).tr KV.u48 (Nat.le_refl _)).tr KV.u49 (Nat.le_refl _)).tr hk2.kv (Nat.le_refl _)
                          have h49n : k2.1 49 = nI (opK (Y.1 s.1) :: l.dropWhile (ppB true)).length := by rw [hk2.1 49 (by omega), List.length_cons]; rfl
                          have h45n : k2.1 45 = nI (cn + (e ++ opsE (l.takeWhile (ppB true))).length) := by rw [hk2.1 45 (by omega), hel]; show k1.1 45 = _; rw [a1]; congr 1; omega
                          have hinn : ex_in (k2.2.1 46) (k2.2.1 47) cn (e ++ opsE (l.takeWhile (ppB true))) := by
                            rw [show k2.2.1 46 = k1.2.1 46 by rw [hk2.2]; rfl, show k2.2.1 47 = k1.2.1 47 by rw [hk2.2]; rfl]
                            exact ex_in_a _ _ _ (ex_in_c _ _ (fun i h1 h2 => a4.2.2.1 i (Or.inl (by omega))) hin) a5
                          have h12n : k2.1 12 = nI d := by rw [hk2.1 12 (by omega)]; show k1.1 12 = _; rw [a4.1 12 (by omega)]; exact h12
                          have hwn : wpm (k2.2.1 48) (opK (Y.1 s.1) :: l.dropWhile (ppB true)) := by
                            rw [h48e]
                            exact ⟨⟨by rw [upd_at, hok.1], hoi.2, hok.2⟩, wpm_upd _ _ (Nat.le_refl _) (wpm_d _ hw)⟩
                          have h13 := hR2.2.2.2.1
                          have hf8 := hR2.2.2.1
                          by_cases hg : (go Y s).2.1.1 = 0
                          · have g4 : (go Y s).1 = s.1 + 1 := by rw [(go_1 hg).2.2]
                            have h13 : k2.1 13 = nI 0 := by rw [h13, hg]
                            refine aw rfl rfl ?_
                            refine aw_eq rfl (fun c => absurd c (by decide)) (fun _ => ?_)
                            refine aw rfl rfl ?_
                            refine aw_getfE rfl mg_121 rfl (congrArg Value.int h13) ?_
                            refine aw_ne rfl (fun c => absurd (by decide) c) (fun _ => ?_)
                            exact (ih d _ _ (go Y s) k2 (nI 1) hR2 hg h12n h49n hwn h45n hinn (by rw [hel, g4, z1, if_neg (by omega)]; omega) hKn).1 ((by have h9 := yi_op hY hoi hg; rw [eb] at h9; exact h9)) q
                          · rw [yd_f hg] at q
                            refine aw rfl rfl ?_
                            refine aw_eq rfl (fun c => absurd c (by decide)) (fun _ => ?_)
                            refine aw rfl rfl ?_
                            refine aw_getfE rfl mg_121 rfl (congrArg Value.int h13) ?_
                            refine aw_nen rfl (fun c20 => ?_) (fun c20 => absurd c20 hg)
                            exact aw_vret rfl rfl (q k2 hR2 hKn (fun w => absurd w hg))
        · rw [if_neg h8] at q
          refine aw rfl rfl ?_
          refine aw_c (v := nI 7) rfl (by decide) ?_
          refine aw_cv (d1 := 0) (L1 := 0) rfl rfl mg_121 rfl rfl (by decide) (by decide) (Nat.le_of_ble_eq_true rfl) (c_X11_is hR (by decide) (fun _ e7 => ?_) (fun e7 => ?_))
          · refine aw_eq rfl (fun c => absurd c (by decide)) (fun _ => ?_)
            refine aw rfl rfl ?_
            refine aw_getfE rfl mg_121 rfl (congrArg Value.int h12) ?_
            refine aw rfl rfl ?_
            refine aw_ilen rfl (fun c110 => ?_) (fun c110 => by omega)
            refine aw rfl rfl ?_
            refine aw_c (v := nI 8) rfl (by decide) ?_
            refine aw_cv (d1 := 0) (L1 := 0) rfl rfl mg_121 rfl rfl (by decide) (by decide) (Nat.le_of_ble_eq_true rfl) (c_isN hR (by decide) (fun _ => by omega) ?_)
            · refine aw_ne rfl (fun c => absurd (by decide) c) (fun _ => ?_)
              refine aw rfl rfl ?_
              refine aw_c (v := nI 9) rfl (by decide) ?_
              refine aw_cv (d1 := 0) (L1 := 0) rfl rfl mg_121 rfl rfl (by decide) (by decide) (Nat.le_of_ble_eq_true rfl) (c_isN hR (by decide) (fun _ => by omega) ?_)
              · refine aw_ne rfl (fun c => absurd (by decide) c) (fun _ => ?_)
                refine aw rfl rfl ?_
                refine aw_c (v := nI 10) rfl (by decide) ?_
                refine aw_cv (d1 := 0) (L1 := 0) rfl rfl mg_121 rfl rfl (by decide) (by decide) (Nat.le_of_ble_eq_true rfl) (c_isN hR (by decide) (fun _ => by omega) ?_)
                · refine aw_ne rfl (fun c => absurd (by decide) c) (fun _ => ?_)
                  refine aw rfl rfl ?_
                  refine aw_c (v := nI 15) rfl (by decide) ?_
                  refine aw_cv (d1 := 0) (L1 := 0) rfl rfl mg_121 rfl rfl (by decide) (by decide) (Nat.le_of_ble_eq_true rfl) (c_isN hR (by decide) (fun _ => by omega) ?_)
                  · refine aw_eq rfl (fun _ => ?_) (fun c => absurd (by decide) c)
                    refine aw_c (v := nI 0) rfl (by decide) ?_
                    refine aw_ist (ls' := [_, _, _]) rfl rfl ?_
                    refine aw rfl rfl ?_
                    refine aw_ne rfl (fun c => absurd (by decide) c) (fun _ => ?_)
                    refine aw rfl rfl ?_
                    refine aw_getfE rfl mg_121 rfl (congrArg Value.int h12) ?_
                    refine aw rfl rfl ?_
                    refine aw_ilen rfl (fun c196 => ?_) (fun c196 => by omega)
                    refine aw rfl rfl ?_
                    refine aw_c (v := nI 0) rfl (by decide) ?_
                    refine aw_cv (d1 := 1) (L1 := 22) rfl rfl mg_121 rfl rfl (by decide) (by decide) (Nat.le_of_ble_eq_true rfl) (c_X11_comesOut (b := false) (l := l) h45 h49 hw (by omega) (by omega) (fun k2 a1 a2 a3 a4 a5 => ?_))
                    rw [if_neg (by omega)] at q
                    have hd0 : d = 0 := by omega
                    rw [ppF] at a1 a2 a4 a5
                    refine aw_vret rfl rfl (q k2 (a4.rm hR) (hK.tr (a4.kv (by omega)) (by omega)) (fun _ => ⟨?_, ?_, ?_⟩))
                    · show k2.1 45 = nI (cn + (e ++ opsE (l.takeWhile nzB)).length)
                      rw [a1, List.length_append, opsE_len]; congr 1; omega
                    · rw [a4.1 12 (by omega), h12, hd0]
                    · exact ex_in_a _ _ _ (ex_in_c _ _ (fun i h1 h2 => a4.2.2.1 i (Or.inl (by omega))) hin) a5
          · refine aw_eq rfl (fun _ => ?_) (fun c => absurd (by decide) c)
            refine aw rfl rfl ?_
            refine aw_c (v := nI 8) rfl (by decide) ?_
            refine aw_cv (d1 := 0) (L1 := 0) rfl rfl mg_121 rfl rfl (by decide) (by decide) (Nat.le_of_ble_eq_true rfl) (c_isN hR (by decide) (fun _ => by omega) ?_)
            · refine aw_ne rfl (fun c => absurd (by decide) c) (fun _ => ?_)
              refine aw rfl rfl ?_
              refine aw_c (v := nI 9) rfl (by decide) ?_
              refine aw_cv (d1 := 0) (L1 := 0) rfl rfl mg_121 rfl rfl (by decide) (by decide) (Nat.le_of_ble_eq_true rfl) (c_isN hR (by decide) (fun _ => by omega) ?_)
              · refine aw_ne rfl (fun c => absurd (by decide) c) (fun _ => ?_)
                refine aw rfl rfl ?_
                refine aw_c (v := nI 10) rfl (by decide) ?_
                refine aw_cv (d1 := 0) (L1 := 0) rfl rfl mg_121 rfl rfl (by decide) (by decide) (Nat.le_of_ble_eq_true rfl) (c_isN hR (by decide) (fun _ => by omega) ?_)
                · refine aw_ne rfl (fun c => absurd (by decide) c) (fun _ => ?_)
                  refine aw rfl rfl ?_
                  refine aw_c (v := nI 15) rfl (by decide) ?_
                  refine aw_cv (d1 := 0) (L1 := 0) rfl rfl mg_121 rfl rfl (by decide) (by decide) (Nat.le_of_ble_eq_true rfl) (c_isN hR (by decide) (fun _ => by omega) ?_)
                  · refine aw_eq rfl (fun _ => ?_) (fun c => absurd (by decide) c)
                    refine aw_c (v := nI 0) rfl (by decide) ?_
                    refine aw_ist (ls' := [_, _, _]) rfl rfl ?_
                    refine aw rfl rfl ?_
                    refine aw_ne rfl (fun c => absurd (by decide) c) (fun _ => ?_)
                    refine aw rfl rfl ?_
                    refine aw_getfE rfl mg_121 rfl (congrArg Value.int h12) ?_
                    refine aw rfl rfl ?_
                    refine aw_ilen rfl (fun c196 => ?_) (fun c196 => ?_)
                    · refine aw rfl rfl ?_
                      refine aw_c (v := nI 0) rfl (by decide) ?_
                      refine aw_cv (d1 := 1) (L1 := 22) rfl rfl mg_121 rfl rfl (by decide) (by decide) (Nat.le_of_ble_eq_true rfl) (c_X11_comesOut (b := false) (l := l) h45 h49 hw (by omega) (by omega) (fun k2 a1 a2 a3 a4 a5 => ?_))
                      rw [if_neg (by omega)] at q
                      have hd0 : d = 0 := by omega
                      rw [ppF] at a1 a2 a4 a5
                      refine aw_vret rfl rfl (q k2 (a4.rm hR) (hK.tr (a4.kv (by omega)) (by omega)) (fun _ => ⟨?_, ?_, ?_⟩))
                      · show k2.1 45 = nI (cn + (e ++ opsE (l.takeWhile nzB)).length)
                        rw [a1, List.length_append, opsE_len]; congr 1; omega
                      · rw [a4.1 12 (by omega), h12, hd0]
                      · exact ex_in_a _ _ _ (ex_in_c _ _ (fun i h1 h2 => a4.2.2.1 i (Or.inl (by omega))) hin) a5
                    · refine aw rfl rfl ?_
                      refine aw_c (v := nI 1) rfl (by decide) ?_
                      refine aw_cv (d1 := 0) (L1 := 0) rfl rfl mg_121 rfl rfl (by decide) (by decide) (Nat.le_of_ble_eq_true rfl) (c_X11_fail hR (by decide) (fun k1 hR1 hk1 => ?_))
                      refine aw rfl rfl ?_
                      refine aw_c (v := nI 0) rfl (by decide) ?_
                      refine aw_cv (d1 := 1) (L1 := 22) rfl rfl mg_121 rfl rfl (by decide) (by decide) (Nat.le_of_ble_eq_true rfl) (c_X11_comesOut (b := false) (l := l) (show k1.1 45 = nI (cn + e.length) by rw [hk1.1 45 (by omega)]; exact h45) (show k1.1 49 = nI l.length by rw [hk1.1 49 (by omega)]; exact h49) (show wpm (k1.2.1 48) l by rw [hk1.2]; exact hw) (by omega) (by omega) (fun k2 a1 a2 a3 a4 a5 => ?_))
                      rw [if_pos (by omega)] at q
                      have hff : ¬ (fl Y 1 s).2.1.1 = 0 := fl_0 (by decide)
                      exact aw_vret rfl rfl (q k2 (a4.rm hR1) ((hK.tr hk1.kv (Nat.le_refl _)).tr (a4.kv (by omega)) (by omega)) (fun w => absurd w hff))
end C1
