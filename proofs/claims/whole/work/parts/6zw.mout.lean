/-! ===== the reference's reader: emit, comesOut, unit ===== -/
/-- how much of an array a side has -/
def wd9 (j : Nat) : Nat := if j = 24 then 32 else if j = 27 then 4 else if 28 ≤ j ∧ j ≤ 31 then 24 else if j = 32 ∨ j = 33 ∨ j = 37 ∨ j = 38 then 3 else if 40 ≤ j ∧ j ≤ 44 then 130 else if j = 46 ∨ j = 47 then 420 else 1
/-- the side lv stays as it was -/
def SDf (lv : Nat) (k k' : Mk) : Prop := ∀ j, 22 ≤ j → j ≤ 47 → ∀ i, wd9 j * lv ≤ i → i < wd9 j * lv + wd9 j → k'.2.1 j i = k.2.1 j i
theorem SDf.rf {lv : Nat} {k : Mk} : SDf lv k k := fun _ _ _ _ _ _ => rfl
theorem SDf.tr {lv : Nat} {k k1 k2 : Mk} (h : SDf lv k k1) (h1 : SDf lv k1 k2) : SDf lv k k2 := fun j h2 h4 i h5 h6 => (h1 j h2 h4 i h5 h6).trans (h j h2 h4 i h5 h6)
theorem SDf.eq {lv : Nat} {k k' : Mk} (h : ∀ j, 22 ≤ j → j ≤ 47 → k'.2.1 j = k.2.1 j) : SDf lv k k' := fun j h2 h4 i _ _ => by rw [h j h2 h4]
theorem SDf.up {sd j i : Nat} {x : Int32} {k : Mk} (hs : sd < 2) (hi : wd9 j * sd ≤ i ∧ i < wd9 j * sd + wd9 j) : SDf (1 - sd) k (k.1, va_up k.2.1 j (upd (k.2.1 j) i x), k.2.2) := by
  intro j9 _ _ i9 h1 h2
  show va_up k.2.1 j (upd (k.2.1 j) i x) j9 i9 = _
  by_cases e : j9 = j
  · subst e
    rw [vu_at, upd_ne]
    intro w
    subst w
    have hs2 : sd = 0 ∨ sd = 1 := by omega
    rcases hs2 with rfl | rfl
    · rw [show 1 - 0 = 1 from rfl, Nat.mul_one] at h1; omega
    · rw [show 1 - 1 = 0 from rfl, Nat.mul_zero] at h2; omega
  · rw [vu_ot e]
/-- what reading leaves as it was -/
def KP (k k' : Mk) : Prop := (∀ n, ¬ ((11 ≤ n ∧ n ≤ 16) ∨ n = 20 ∨ n = 39 ∨ n = 45 ∨ n = 49) → k'.1 n = k.1 n) ∧ (∀ n, n < 22 ∨ 48 < n → k'.2.1 n = k.2.1 n) ∧ (∀ n, ¬ n = 21 → k'.2.2 n = k.2.2 n)
theorem KP.rf {k : Mk} : KP k k := ⟨fun _ _ => rfl, fun _ _ => rfl, fun _ _ => rfl⟩
theorem KP.tr {k k1 k2 : Mk} (h : KP k k1) (h1 : KP k1 k2) : KP k k2 := ⟨fun n hn => (h1.1 n hn).trans (h.1 n hn), fun n hn => (h1.2.1 n hn).trans (h.2.1 n hn), fun n hn => (h1.2.2 n hn).trans (h.2.2 n hn)⟩
theorem KM.kp {k k' : Mk} (h : KM k k') : KP k k' := ⟨fun n hn => h.1 n (by omega), fun n _ => by rw [h.2], fun n _ => by rw [h.2]⟩
theorem KM.sd {k k' : Mk} {lv : Nat} (h : KM k k') : SDf lv k k' := SDf.eq (fun j _ _ => by rw [h.2])
/-- the reader's registers stay -/
theorem RM.kp {Y : Tk} {k k' : Mk} {s : Ps} (h : RM Y k s) (hk : KP k k') (h11 : k'.1 11 = k.1 11) (h13 : ∀ n, 13 ≤ n → n ≤ 16 → k'.1 n = k.1 n) : RM Y k' s := by
  unfold RM TKM at *
  rw [hk.2.1 5 (by omega), hk.2.1 6 (by omega), hk.2.1 7 (by omega), hk.2.2 8 (by omega), h11, h13 13 (by omega) (by omega), h13 14 (by omega) (by omega), h13 15 (by omega) (by omega), h13 16 (by omega) (by omega)]
  exact h
theorem ex_in_a {cd ci : Nat → Int32} : ∀ (a b : Ex) (c : Nat), ex_in cd ci c a → ex_in cd ci (c + a.length) b → ex_in cd ci c (a ++ b) := by
  intro a
  induction a with
  | nil => intro b c _ h; exact h
  | cons w t ih =>
    obtain ⟨o, y⟩ := w
    intro b c h h1
    refine ⟨h.1, h.2.1, ih b (c + 1) h.2.2 ?_⟩
    rw [List.length_cons] at h1
    rw [show c + 1 + t.length = c + (t.length + 1) by omega]
    exact h1
theorem ex_in_c {cd ci cd' ci' : Nat → Int32} : ∀ (a : Ex) (c : Nat), (∀ i, c ≤ i → i < c + a.length → cd' i = cd i ∧ ci' i = ci i) → ex_in cd ci c a → ex_in cd' ci' c a := by
  intro a
  induction a with
  | nil => intro c _ _; trivial
  | cons w t ih =>
    obtain ⟨o, y⟩ := w
    intro c h h1
    have hl : ((o, y) :: t).length = t.length + 1 := rfl
    refine ⟨by rw [(h c (Nat.le_refl _) (by omega)).1]; exact h1.1, by rw [(h c (Nat.le_refl _) (by omega)).2]; exact h1.2.1, ih (c + 1) (fun i h2 h3 => h i (by omega) (by omega)) h1.2.2⟩
/-- what adding steps leaves -/
def KE (c c' : Nat) (k k' : Mk) : Prop := (∀ n, ¬ (n = 45 ∨ n = 49) → k'.1 n = k.1 n) ∧ (∀ n, ¬ (n = 46 ∨ n = 47 ∨ n = 48) → k'.2.1 n = k.2.1 n) ∧ (∀ i, i < c ∨ c' ≤ i → k'.2.1 46 i = k.2.1 46 i ∧ k'.2.1 47 i = k.2.1 47 i) ∧ k'.2.2 = k.2.2
theorem KE.kp {c c' : Nat} {k k' : Mk} (h : KE c c' k k') : KP k k' := ⟨fun n hn => h.1 n (by omega), fun n hn => h.2.1 n (by omega), fun n _ => by rw [h.2.2.2]⟩
theorem KE.rm {Y : Tk} {s : Ps} {c c' : Nat} {k k' : Mk} (h : KE c c' k k') (hR : RM Y k s) : RM Y k' s := hR.kp h.kp (h.1 11 (by omega)) (fun n h1 h2 => h.1 n (by omega))
theorem KE.tr {c c1 c' : Nat} {k k1 k2 : Mk} (hc : c ≤ c1) (hc1 : c1 ≤ c') (h : KE c c1 k k1) (h1 : KE c1 c' k1 k2) : KE c c' k k2 := ⟨fun n hn => (h1.1 n hn).trans (h.1 n hn), fun n hn => (h1.2.1 n hn).trans (h.2.1 n hn), fun i hi => ⟨((h1.2.2.1 i (by omega)).1).trans ((h.2.2.1 i (by omega)).1), ((h1.2.2.1 i (by omega)).2).trans ((h.2.2.1 i (by omega)).2)⟩, h1.2.2.2.trans h.2.2.2⟩
theorem KE.sd {sd c c' : Nat} {k k' : Mk} (hs : sd < 2) (h : KE c c' k k') (hc : 420 * sd ≤ c) (hc' : c' ≤ 420 * sd + 420) : SDf (1 - sd) k k' := by
  intro j h2 h4 i h5 h6
  by_cases e : j = 46 ∨ j = 47
  · have hw : wd9 j = 420 := by unfold wd9; rcases e with rfl | rfl <;> rfl
    rw [hw] at h5 h6
    have hs2 : sd = 0 ∨ sd = 1 := by omega
    have hi : i < c ∨ c' ≤ i := by rcases hs2 with rfl | rfl <;> omega
    rcases e with rfl | rfl
    · exact (h.2.2.1 i hi).1
    · exact (h.2.2.1 i hi).2
  · rw [h.2.1 j (by omega)]
def opM (x : Nat) : Nat := if x = 0 then 6 else if x = 2 then 8 else if x = 3 then 9 else if x = 4 then 10 else 15
def wpm (f : Nat → Int32) : List Nat → Prop
  | [] => True
  | x :: r => (f r.length = nI (opM x) ∧ x ≤ 5 ∧ ¬ x = 1) ∧ wpm f r
theorem wpm_upd {f : Nat → Int32} {x : Int32} : ∀ (l : List Nat) (i : Nat), l.length ≤ i → wpm f l → wpm (upd f i x) l := by
  intro l
  induction l with
  | nil => intro _ _ _; trivial
  | cons y r ih =>
    intro i hi hp
    have hl : (y :: r).length = r.length + 1 := rfl
    refine ⟨?_, ih i (by omega) hp.2⟩
    rw [pk_un (by omega)]
    exact hp.1
theorem opM_lt {x : Nat} : opM x < 16 := by
  unfold opM
  repeat' split
  all_goals decide
theorem opM_inv {x : Nat} (h : x ≤ 5) (h1 : ¬ x = 1) : (x = 0 ∧ opM x = 6) ∨ (x = 2 ∧ opM x = 8) ∨ (x = 3 ∧ opM x = 9) ∨ (x = 4 ∧ opM x = 10) ∨ (x = 5 ∧ opM x = 15) := by
  have : x = 0 ∨ x = 2 ∨ x = 3 ∨ x = 4 ∨ x = 5 := by omega
  rcases this with rfl | rfl | rfl | rfl | rfl <;> decide
section C1
variable {g : am_H} {k : Mk} {v pl : Nat → Int32} {br lo : Int32} {c ct pr pt cm bf bt : Nat → Int32}
variable {Y : Tk} {s : Ps}
variable {cn : Nat} {l : List Nat}
theorem c_X11_emit {Q : Option Value → am_H → Prop} (h45 : k.1 45 = nI cn) (hc : cn < 840) {o : Nat} {y : Int32} (q : ∀ k', k'.1 45 = nI (cn + 1) → k'.1 49 = k.1 49 → k'.2.1 48 = k.2.1 48 → KE cn (cn + 1) k k' → k'.2.1 46 cn = nI o → k'.2.1 47 cn = y → Q none (mh g k' v pl br lo c ct pr pt cm bf bt)) : AC am_P 0 0 215 [.ref 121, .int (nI o), .int y] (mh g k v pl br lo c ct pr pt cm bf bt) Q := by
  refine AC.of (ls := [_, _, _]) rfl ?_
  refine aw rfl rfl ?_
  refine aw_getf rfl mg_121 rfl ?_
  refine aw rfl rfl ?_
  refine aw_getfE rfl mg_121 rfl (congrArg Value.int h45) ?_
  refine aw rfl rfl ?_
  refine aw_iastU rfl mg_152 rfl (by omega) (by decide) (by decide) mu_152 ?_
  refine aw rfl rfl ?_
  refine aw_getf rfl mg_121 rfl ?_
  refine aw rfl rfl ?_
  refine aw_getfE rfl mg_121 rfl (congrArg Value.int h45) ?_
  refine aw rfl rfl ?_
  refine aw_iastU rfl mg_153 rfl (by omega) (by decide) (by decide) mu_153 ?_
  refine aw rfl rfl ?_
  refine aw rfl rfl ?_
  refine aw_getfE rfl mg_121 rfl (congrArg Value.int h45) ?_
  refine aw_c (v := nI 1) rfl (by decide) ?_
  refine aw_addn rfl ?_
  refine aw_putfU rfl mg_121 rfl rfl (by decide) mp_45 ?_
  refine aw_vret rfl rfl (q _ rfl rfl rfl ⟨fun n hn => vu_ot (by omega), fun n hn => ?_, fun i hi => ⟨?_, ?_⟩, rfl⟩ upd_at upd_at)
  · (have e1 : ¬ n = 46 := by omega); (have e2 : ¬ n = 47 := by omega); simp only [va_up, if_neg e1, if_neg e2]
  · exact upd_ne (by omega)
  · exact upd_ne (by omega)
theorem l_comesOut {Q : Option Value → am_H → Prop} {b : Bool} : ∀ (l : List Nat) (cn : Nat) (k : Mk) (x2 : Option Value) (_ : k.1 45 = nI cn) (_ : k.1 49 = nI l.length) (_ : wpm (k.2.1 48) l) (_ : l.length ≤ 64) (_ : cn + l.length ≤ 840) (_ : ∀ k', k'.1 45 = nI (cn + (l.takeWhile (ppB b)).length) → k'.1 49 = nI (l.dropWhile (ppB b)).length → k'.2.1 48 = k.2.1 48 → KE cn (cn + (l.takeWhile (ppB b)).length) k k' → ex_in (k'.2.1 46) (k'.2.1 47) cn (opsE (l.takeWhile (ppB b))) → Q none (mh g k' v pl br lo c ct pr pt cm bf bt)), AW am_P 1 22 216 0 [some (.ref 121), some (.int (bI b)), x2] [] (mh g k v pl br lo c ct pr pt cm bf bt) Q := by
  intro l
  induction l with
  | nil =>
    intro cn k x2 h45 h49 hw hl hc q
    have h49 : k.1 49 = nI 0 := h49
    refine aw rfl rfl ?_
    refine aw_getfE rfl mg_121 rfl (congrArg Value.int h49) ?_
    refine aw_le rfl (fun _ => ?_) (fun c => absurd (by decide) c)
    exact aw_vret rfl rfl (q k h45 h49 rfl ⟨fun _ _ => rfl, fun _ _ => rfl, fun _ _ => ⟨rfl, rfl⟩, rfl⟩ trivial)
  | cons x r ih =>
    intro cn k x2 h45 h49 hw hl hc q
    have hlen : (x :: r).length = r.length + 1 := rfl
    rw [hlen] at h49 hl hc
    obtain ⟨⟨hx, hx5, hx1⟩, hw2⟩ := hw
    have hol := @opM_lt x
    refine aw rfl rfl ?_
    refine aw_getfE rfl mg_121 rfl (congrArg Value.int h49) ?_
    refine aw_len rfl (fun c4 => by omega) (fun c4 => ?_)
    refine aw rfl rfl ?_
    refine aw_getf rfl mg_121 rfl ?_
    refine aw rfl rfl ?_
    refine aw_getfE rfl mg_121 rfl (congrArg Value.int h49) ?_
    refine aw_c (v := nI 1) rfl (by decide) ?_
    refine aw_subn rfl (by omega) ?_
    refine aw_ialdE rfl mg_154 rfl (by omega) (by decide) (show k.2.1 48 (r.length + 1 - 1) = nI (opM x) from hx) ?_
    refine aw_ist (ls' := [_, _, _]) rfl rfl ?_
    refine aw rfl rfl ?_
    refine aw_c (v := nI 6) rfl (by decide) ?_
    refine aw_ieqn rfl (fun c22 => ?_) (fun c22 => ?_)
    · have hx9 := opM_inv hx5 hx1
      have ex : x = 0 := by omega
      have e1 : ppB b x = false := by rw [ex]; rfl
      rw [(pp_f e1).1, (pp_f e1).2] at q
      exact aw_vret rfl rfl (q k h45 h49 rfl ⟨fun _ _ => rfl, fun _ _ => rfl, fun _ _ => ⟨rfl, rfl⟩, rfl⟩ trivial)
    · refine aw rfl rfl ?_
      refine aw_eq rfl (fun c26 => ?_) (fun c26 => ?_)
      · refine aw rfl rfl ?_
        refine aw rfl rfl ?_
        refine aw_getfE rfl mg_121 rfl (congrArg Value.int h49) ?_
        refine aw_c (v := nI 1) rfl (by decide) ?_
        refine aw_subn rfl (by omega) ?_
        refine aw_putfU rfl mg_121 rfl rfl (by decide) mp_49 ?_
        refine aw rfl rfl ?_
        refine aw rfl rfl ?_
        refine aw_c (v := nI 8) rfl (by decide) ?_
        refine aw_inen rfl (fun c56 => ?_) (fun c56 => ?_)
        · refine aw rfl rfl ?_
          refine aw_c (v := nI 9) rfl (by decide) ?_
          refine aw_inen rfl (fun c66 => ?_) (fun c66 => ?_)
          · refine aw rfl rfl ?_
            refine aw_c (v := nI 10) rfl (by decide) ?_
            refine aw_inen rfl (fun c76 => ?_) (fun c76 => ?_)
            · refine aw_c (v := nI 5) rfl (by decide) ?_
              refine aw_c (v := nI 0) rfl (by decide) ?_
              refine aw_cv (d1 := 0) (L1 := 0) rfl rfl mg_121 rfl rfl (by decide) (by decide) (Nat.le_of_ble_eq_true rfl) (c_X11_emit (k := (va_up k.1 49 _, k.2.1, k.2.2)) h45 (by omega) (fun k1 a1 a2 a3 a4 a5 a6 => ?_))
              refine aw rfl rfl ?_
              have hx9 := opM_inv hx5 hx1
              have hb : b = false := by cases b with | false => rfl | true => exact absurd c26 (by decide)
              have ex : x = 5 := by omega
              have e1 : ppB b x = true := by rw [ex]; rw [hb]; rfl
              rw [(pp_t e1).1, (pp_t e1).2] at q
              refine ih (cn + 1) k1 _ a1 (by rw [a2]; rfl) (by rw [a3]; exact hw2) (by omega) (by omega) (fun k2 b1 b2 b3 b4 b5 => q k2 ?_ b2 (b3.trans a3) ?_ ?_)
              · rw [b1, List.length_cons]; congr 1; omega
              · have k9 : KE cn (cn + 1) k k1 := ⟨fun n hn => (a4.1 n hn).trans (vu_ot (by omega)), a4.2.1, a4.2.2.1, a4.2.2.2⟩
                have h9 := KE.tr (by omega) (by omega) k9 b4
                rw [List.length_cons, show cn + ((r.takeWhile (ppB b)).length + 1) = cn + 1 + (r.takeWhile (ppB b)).length by omega]
                exact h9
              · have h46 := (b4.2.2.1 cn (Or.inl (by omega)))
                exact ⟨by rw [h46.1, a5, ex], by rw [h46.2, a6], b5⟩
            · refine aw_c (v := nI 4) rfl (by decide) ?_
              refine aw rfl rfl ?_
              refine aw_c (v := nI 0) rfl (by decide) ?_
              refine aw_cv (d1 := 0) (L1 := 0) rfl rfl mg_121 rfl rfl (by decide) (by decide) (Nat.le_of_ble_eq_true rfl) (c_X11_emit (k := (va_up k.1 49 _, k.2.1, k.2.2)) h45 (by omega) (fun k1 a1 a2 a3 a4 a5 a6 => ?_))
              refine aw rfl rfl ?_
              have hx9 := opM_inv hx5 hx1
              have hb : b = false := by cases b with | false => rfl | true => exact absurd c26 (by decide)
              have ex : x = 4 := by omega
              have e1 : ppB b x = true := by rw [ex]; rw [hb]; rfl
              rw [(pp_t e1).1, (pp_t e1).2] at q
              refine ih (cn + 1) k1 _ a1 (by rw [a2]; rfl) (by rw [a3]; exact hw2) (by omega) (by omega) (fun k2 b1 b2 b3 b4 b5 => q k2 ?_ b2 (b3.trans a3) ?_ ?_)
              · rw [b1, List.length_cons]; congr 1; omega
              · have k9 : KE cn (cn + 1) k k1 := ⟨fun n hn => (a4.1 n hn).trans (vu_ot (by omega)), a4.2.1, a4.2.2.1, a4.2.2.2⟩
                have h9 := KE.tr (by omega) (by omega) k9 b4
                rw [List.length_cons, show cn + ((r.takeWhile (ppB b)).length + 1) = cn + 1 + (r.takeWhile (ppB b)).length by omega]
                exact h9
              · have h46 := (b4.2.2.1 cn (Or.inl (by omega)))
                exact ⟨by rw [h46.1, a5, ex], by rw [h46.2, a6], b5⟩
          · refine aw_c (v := nI 3) rfl (by decide) ?_
            refine aw rfl rfl ?_
            refine aw_c (v := nI 0) rfl (by decide) ?_
            refine aw_cv (d1 := 0) (L1 := 0) rfl rfl mg_121 rfl rfl (by decide) (by decide) (Nat.le_of_ble_eq_true rfl) (c_X11_emit (k := (va_up k.1 49 _, k.2.1, k.2.2)) h45 (by omega) (fun k1 a1 a2 a3 a4 a5 a6 => ?_))
            refine aw rfl rfl ?_
            have hx9 := opM_inv hx5 hx1
            have hb : b = false := by cases b with | false => rfl | true => exact absurd c26 (by decide)
            have ex : x = 3 := by omega
            have e1 : ppB b x = true := by rw [ex]; rw [hb]; rfl
            rw [(pp_t e1).1, (pp_t e1).2] at q
            refine ih (cn + 1) k1 _ a1 (by rw [a2]; rfl) (by rw [a3]; exact hw2) (by omega) (by omega) (fun k2 b1 b2 b3 b4 b5 => q k2 ?_ b2 (b3.trans a3) ?_ ?_)
            · rw [b1, List.length_cons]; congr 1; omega
            · have k9 : KE cn (cn + 1) k k1 := ⟨fun n hn => (a4.1 n hn).trans (vu_ot (by omega)), a4.2.1, a4.2.2.1, a4.2.2.2⟩
              have h9 := KE.tr (by omega) (by omega) k9 b4
              rw [List.length_cons, show cn + ((r.takeWhile (ppB b)).length + 1) = cn + 1 + (r.takeWhile (ppB b)).length by omega]
              exact h9
            · have h46 := (b4.2.2.1 cn (Or.inl (by omega)))
              exact ⟨by rw [h46.1, a5, ex], by rw [h46.2, a6], b5⟩
        · refine aw_c (v := nI 2) rfl (by decide) ?_
          refine aw rfl rfl ?_
          refine aw_c (v := nI 0) rfl (by decide) ?_
          refine aw_cv (d1 := 0) (L1 := 0) rfl rfl mg_121 rfl rfl (by decide) (by decide) (Nat.le_of_ble_eq_true rfl) (c_X11_emit (k := (va_up k.1 49 _, k.2.1, k.2.2)) h45 (by omega) (fun k1 a1 a2 a3 a4 a5 a6 => ?_))
          refine aw rfl rfl ?_
          have hx9 := opM_inv hx5 hx1
          have hb : b = false := by cases b with | false => rfl | true => exact absurd c26 (by decide)
          have ex : x = 2 := by omega
          have e1 : ppB b x = true := by rw [ex]; rw [hb]; rfl
          rw [(pp_t e1).1, (pp_t e1).2] at q
          refine ih (cn + 1) k1 _ a1 (by rw [a2]; rfl) (by rw [a3]; exact hw2) (by omega) (by omega) (fun k2 b1 b2 b3 b4 b5 => q k2 ?_ b2 (b3.trans a3) ?_ ?_)
          · rw [b1, List.length_cons]; congr 1; omega
          · have k9 : KE cn (cn + 1) k k1 := ⟨fun n hn => (a4.1 n hn).trans (vu_ot (by omega)), a4.2.1, a4.2.2.1, a4.2.2.2⟩
            have h9 := KE.tr (by omega) (by omega) k9 b4
            rw [List.length_cons, show cn + ((r.takeWhile (ppB b)).length + 1) = cn + 1 + (r.takeWhile (ppB b)).length by omega]
            exact h9
          · have h46 := (b4.2.2.1 cn (Or.inl (by omega)))
            exact ⟨by rw [h46.1, a5, ex], by rw [h46.2, a6], b5⟩
      · refine aw rfl rfl ?_
        refine aw_c (v := nI 8) rfl (by decide) ?_
        refine aw_ieqn rfl (fun c32 => ?_) (fun c32 => ?_)
        · have hb : b = true := by cases b with | true => rfl | false => exact absurd rfl c26
          have hx9 := opM_inv hx5 hx1
          have ex : x = 2 := by omega
          have e1 : ppB b x = false := by rw [ex, hb]; rfl
          rw [(pp_f e1).1, (pp_f e1).2] at q
          exact aw_vret rfl rfl (q k h45 h49 rfl ⟨fun _ _ => rfl, fun _ _ => rfl, fun _ _ => ⟨rfl, rfl⟩, rfl⟩ trivial)
        · refine aw rfl rfl ?_
          refine aw_c (v := nI 9) rfl (by decide) ?_
          refine aw_inen rfl (fun c38 => ?_) (fun c38 => ?_)
          · refine aw rfl rfl ?_
            refine aw rfl rfl ?_
            refine aw_getfE rfl mg_121 rfl (congrArg Value.int h49) ?_
            refine aw_c (v := nI 1) rfl (by decide) ?_
            refine aw_subn rfl (by omega) ?_
            refine aw_putfU rfl mg_121 rfl rfl (by decide) mp_49 ?_
            refine aw rfl rfl ?_
            refine aw rfl rfl ?_
            refine aw_c (v := nI 8) rfl (by decide) ?_
            refine aw_inen rfl (fun c56 => ?_) (fun c56 => ?_)
            · refine aw rfl rfl ?_
              refine aw_c (v := nI 9) rfl (by decide) ?_
              refine aw_inen rfl (fun c66 => ?_) (fun c66 => ?_)
              · refine aw rfl rfl ?_
                refine aw_c (v := nI 10) rfl (by decide) ?_
                refine aw_inen rfl (fun c76 => ?_) (fun c76 => ?_)
                · refine aw_c (v := nI 5) rfl (by decide) ?_
                  refine aw_c (v := nI 0) rfl (by decide) ?_
                  refine aw_cv (d1 := 0) (L1 := 0) rfl rfl mg_121 rfl rfl (by decide) (by decide) (Nat.le_of_ble_eq_true rfl) (c_X11_emit (k := (va_up k.1 49 _, k.2.1, k.2.2)) h45 (by omega) (fun k1 a1 a2 a3 a4 a5 a6 => ?_))
                  refine aw rfl rfl ?_
                  have hx9 := opM_inv hx5 hx1
                  have ex : x = 5 := by omega
                  have e1 : ppB b x = true := by rw [ex]; cases b <;> rfl
                  rw [(pp_t e1).1, (pp_t e1).2] at q
                  refine ih (cn + 1) k1 _ a1 (by rw [a2]; rfl) (by rw [a3]; exact hw2) (by omega) (by omega) (fun k2 b1 b2 b3 b4 b5 => q k2 ?_ b2 (b3.trans a3) ?_ ?_)
                  · rw [b1, List.length_cons]; congr 1; omega
                  · have k9 : KE cn (cn + 1) k k1 := ⟨fun n hn => (a4.1 n hn).trans (vu_ot (by omega)), a4.2.1, a4.2.2.1, a4.2.2.2⟩
                    have h9 := KE.tr (by omega) (by omega) k9 b4
                    rw [List.length_cons, show cn + ((r.takeWhile (ppB b)).length + 1) = cn + 1 + (r.takeWhile (ppB b)).length by omega]
                    exact h9
                  · have h46 := (b4.2.2.1 cn (Or.inl (by omega)))
                    exact ⟨by rw [h46.1, a5, ex], by rw [h46.2, a6], b5⟩
                · refine aw_c (v := nI 4) rfl (by decide) ?_
                  refine aw rfl rfl ?_
                  refine aw_c (v := nI 0) rfl (by decide) ?_
                  refine aw_cv (d1 := 0) (L1 := 0) rfl rfl mg_121 rfl rfl (by decide) (by decide) (Nat.le_of_ble_eq_true rfl) (c_X11_emit (k := (va_up k.1 49 _, k.2.1, k.2.2)) h45 (by omega) (fun k1 a1 a2 a3 a4 a5 a6 => ?_))
                  refine aw rfl rfl ?_
                  have hx9 := opM_inv hx5 hx1
                  have ex : x = 4 := by omega
                  have e1 : ppB b x = true := by rw [ex]; cases b <;> rfl
                  rw [(pp_t e1).1, (pp_t e1).2] at q
                  refine ih (cn + 1) k1 _ a1 (by rw [a2]; rfl) (by rw [a3]; exact hw2) (by omega) (by omega) (fun k2 b1 b2 b3 b4 b5 => q k2 ?_ b2 (b3.trans a3) ?_ ?_)
                  · rw [b1, List.length_cons]; congr 1; omega
                  · have k9 : KE cn (cn + 1) k k1 := ⟨fun n hn => (a4.1 n hn).trans (vu_ot (by omega)), a4.2.1, a4.2.2.1, a4.2.2.2⟩
                    have h9 := KE.tr (by omega) (by omega) k9 b4
                    rw [List.length_cons, show cn + ((r.takeWhile (ppB b)).length + 1) = cn + 1 + (r.takeWhile (ppB b)).length by omega]
                    exact h9
                  · have h46 := (b4.2.2.1 cn (Or.inl (by omega)))
                    exact ⟨by rw [h46.1, a5, ex], by rw [h46.2, a6], b5⟩
              · refine aw_c (v := nI 3) rfl (by decide) ?_
                refine aw rfl rfl ?_
                refine aw_c (v := nI 0) rfl (by decide) ?_
                refine aw_cv (d1 := 0) (L1 := 0) rfl rfl mg_121 rfl rfl (by decide) (by decide) (Nat.le_of_ble_eq_true rfl) (c_X11_emit (k := (va_up k.1 49 _, k.2.1, k.2.2)) h45 (by omega) (fun k1 a1 a2 a3 a4 a5 a6 => ?_))
                refine aw rfl rfl ?_
                exact absurd c66 c38
            · refine aw_c (v := nI 2) rfl (by decide) ?_
              refine aw rfl rfl ?_
              refine aw_c (v := nI 0) rfl (by decide) ?_
              refine aw_cv (d1 := 0) (L1 := 0) rfl rfl mg_121 rfl rfl (by decide) (by decide) (Nat.le_of_ble_eq_true rfl) (c_X11_emit (k := (va_up k.1 49 _, k.2.1, k.2.2)) h45 (by omega) (fun k1 a1 a2 a3 a4 a5 a6 => ?_))
              refine aw rfl rfl ?_
              exact absurd c56 c32
          · have hb : b = true := by cases b with | true => rfl | false => exact absurd rfl c26
            have hx9 := opM_inv hx5 hx1
            have ex : x = 3 := by omega
            have e1 : ppB b x = false := by rw [ex, hb]; rfl
            rw [(pp_f e1).1, (pp_f e1).2] at q
            exact aw_vret rfl rfl (q k h45 h49 rfl ⟨fun _ _ => rfl, fun _ _ => rfl, fun _ _ => ⟨rfl, rfl⟩, rfl⟩ trivial)
theorem c_X11_comesOut {Q : Option Value → am_H → Prop} {b : Bool} (h45 : k.1 45 = nI cn) (h49 : k.1 49 = nI l.length) (hw : wpm (k.2.1 48) l) (hl : l.length ≤ 64) (hc : cn + l.length ≤ 840) (q : ∀ k', k'.1 45 = nI (cn + (l.takeWhile (ppB b)).length) → k'.1 49 = nI (l.dropWhile (ppB b)).length → k'.2.1 48 = k.2.1 48 → KE cn (cn + (l.takeWhile (ppB b)).length) k k' → ex_in (k'.2.1 46) (k'.2.1 47) cn (opsE (l.takeWhile (ppB b))) → Q none (mh g k' v pl br lo c ct pr pt cm bf bt)) : AC am_P 1 22 216 [.ref 121, .int (bI b)] (mh g k v pl br lo c ct pr pt cm bf bt) Q := by
  refine AC.of (ls := [_, _, _]) rfl ?_
  exact l_comesOut l cn k none h45 h49 hw hl hc q
theorem c_X11_unit {Q : Option Value → am_H → Prop} (hR : RM Y k s) (h45 : k.1 45 = nI cn) (hc : cn < 840) (q1 : s.2.1.1 = 0 → Y.1 s.1 = 2 → ∀ k1 k', KE cn (cn + 1) k k1 → KM k1 k' → RM Y k' (go Y s) → k'.1 45 = nI (cn + 1) → k'.1 49 = k.1 49 → k'.2.1 48 = k.2.1 48 → ex_in (k'.2.1 46) (k'.2.1 47) cn [(0, nI (Y.2.2.1 s.1))] → Q none (mh g k' v pl br lo c ct pr pt cm bf bt)) (q2 : s.2.1.1 = 0 → 36 ≤ Y.1 s.1 → ∀ k1 k', KE cn (cn + 1) k k1 → KM k1 k' → RM Y k' (go Y s) → k'.1 45 = nI (cn + 1) → k'.1 49 = k.1 49 → k'.2.1 48 = k.2.1 48 → ex_in (k'.2.1 46) (k'.2.1 47) cn [(1, nI (Y.1 s.1 - 36))] → Q none (mh g k' v pl br lo c ct pr pt cm bf bt)) (q0 : (s.2.1.1 = 0 → ¬ Y.1 s.1 = 2 ∧ ¬ 36 ≤ Y.1 s.1) → ∀ k', KM k k' → RM Y k' (fl Y 1 s) → Q none (mh g k' v pl br lo c ct pr pt cm bf bt)) : AC am_P 2 41 214 [.ref 121] (mh g k v pl br lo c ct pr pt cm bf bt) Q := by
  refine AC.of (ls := [_]) rfl ?_
  have h13 := hR.2.2.2.1
  have hf8 := hR.2.2.1
  have hs4 := hR.2.1
  refine aw rfl rfl ?_
  refine aw_c (v := nI 2) rfl (by decide) ?_
  refine aw_cv (d1 := 0) (L1 := 0) rfl rfl mg_121 rfl rfl (by decide) (by decide) (Nat.le_of_ble_eq_true rfl) (c_X11_is hR (by decide) (fun hf e => ?_) (fun e => ?_))
  · refine aw_eq rfl (fun c => absurd c (by decide)) (fun _ => ?_)
    have h11 := (hR.2.2.2.2.1 hf).1
    have ht := (hR.tk hf).2.2.1 e
    refine aw rfl rfl ?_
    refine aw_c (v := nI 0) rfl (by decide) ?_
    refine aw rfl rfl ?_
    refine aw_getf rfl mg_121 rfl ?_
    refine aw rfl rfl ?_
    refine aw_getfE rfl mg_121 rfl (congrArg Value.int h11) ?_
    refine aw_ialdE rfl mg_126 rfl (by omega) (by decide) ht ?_
    refine aw_cv (d1 := 0) (L1 := 0) rfl rfl mg_121 rfl rfl (by decide) (by decide) (Nat.le_of_ble_eq_true rfl) (c_X11_emit (k := k) h45 hc (fun k1 a1 a2 a3 a4 a5 a6 => ?_))
    refine aw rfl rfl ?_
    refine aw_cv (d1 := 1) (L1 := 21) rfl rfl mg_121 rfl rfl (by decide) (by decide) (Nat.le_of_ble_eq_true rfl) (c_X11_goesOn (a4.rm hR) (fun _ => by omega) (fun k2 hR2 hk2 => ?_))
    refine aw rfl rfl ?_
    exact aw_vret rfl rfl (q1 hf e k1 k2 a4 hk2 hR2 (by rw [hk2.1 45 (by omega)]; exact a1) (by rw [hk2.1 49 (by omega)]; exact a2) (by rw [hk2.2]; exact a3) ⟨by rw [hk2.2]; exact a5, by rw [hk2.2]; exact a6, trivial⟩)
  · refine aw_eq rfl (fun _ => ?_) (fun c => absurd (by decide) c)
    refine aw rfl rfl ?_
    refine aw_getfE rfl mg_121 rfl (congrArg Value.int h13) ?_
    refine aw_nen rfl (fun c33 => ?_) (fun c33 => ?_)
    · refine aw rfl rfl ?_
      refine aw_c (v := nI 1) rfl (by decide) ?_
      refine aw_cv (d1 := 0) (L1 := 0) rfl rfl mg_121 rfl rfl (by decide) (by decide) (Nat.le_of_ble_eq_true rfl) (c_X11_fail hR (by decide) (fun k1 hR1 hk1 => ?_))
      exact aw_vret rfl rfl (q0 (fun hf => absurd hf c33) k1 hk1 hR1)
    · have hf : s.2.1.1 = 0 := c33
      have h11 := (hR.2.2.2.2.1 hf).1
      have htk := hR.tk hf
      have hkl := hR.kl s.1
      refine aw rfl rfl ?_
      refine aw_getf rfl mg_121 rfl ?_
      refine aw rfl rfl ?_
      refine aw_getfE rfl mg_121 rfl (congrArg Value.int h11) ?_
      refine aw_ialdE rfl mg_124 rfl (by omega) (by decide) htk.1 ?_
      refine aw_c (v := nI 36) rfl (by decide) ?_
      refine aw_iltn rfl (fun c47 => ?_) (fun c47 => ?_)
      · refine aw rfl rfl ?_
        refine aw_c (v := nI 1) rfl (by decide) ?_
        refine aw_cv (d1 := 0) (L1 := 0) rfl rfl mg_121 rfl rfl (by decide) (by decide) (Nat.le_of_ble_eq_true rfl) (c_X11_fail hR (by decide) (fun k1 hR1 hk1 => ?_))
        exact aw_vret rfl rfl (q0 (fun hf => ⟨e hf, by omega⟩) k1 hk1 hR1)
      · refine aw rfl rfl ?_
        refine aw_getf rfl mg_121 rfl ?_
        refine aw rfl rfl ?_
        refine aw_getfE rfl mg_121 rfl (congrArg Value.int h11) ?_
        refine aw_ialdE rfl mg_124 rfl (by omega) (by decide) htk.1 ?_
        refine aw_c (v := nI 42) rfl (by decide) ?_
        refine aw_igtn rfl (fun c61 => by omega) (fun c61 => ?_)
        refine aw rfl rfl ?_
        refine aw_c (v := nI 1) rfl (by decide) ?_
        refine aw rfl rfl ?_
        refine aw_getf rfl mg_121 rfl ?_
        refine aw rfl rfl ?_
        refine aw_getfE rfl mg_121 rfl (congrArg Value.int h11) ?_
        refine aw_ialdE rfl mg_124 rfl (by omega) (by decide) htk.1 ?_
        refine aw_c (v := nI 36) rfl (by decide) ?_
        refine aw_subn rfl (by omega) ?_
        refine aw_cv (d1 := 0) (L1 := 0) rfl rfl mg_121 rfl rfl (by decide) (by decide) (Nat.le_of_ble_eq_true rfl) (c_X11_emit (k := k) h45 hc (fun k1 a1 a2 a3 a4 a5 a6 => ?_))
        refine aw rfl rfl ?_
        refine aw_cv (d1 := 1) (L1 := 21) rfl rfl mg_121 rfl rfl (by decide) (by decide) (Nat.le_of_ble_eq_true rfl) (c_X11_goesOn (a4.rm hR) (fun _ => by omega) (fun k2 hR2 hk2 => ?_))
        refine aw rfl rfl ?_
        exact aw_vret rfl rfl (q2 hf (by omega) k1 k2 a4 hk2 hR2 (by rw [hk2.1 45 (by omega)]; exact a1) (by rw [hk2.1 49 (by omega)]; exact a2) (by rw [hk2.2]; exact a3) ⟨by rw [hk2.2]; exact a5, by rw [hk2.2]; exact a6, trivial⟩)
end C1
