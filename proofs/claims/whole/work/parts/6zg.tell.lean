/-! ===== what a text tells; the class's reader: takeTell ===== -/
/-- rows, kicks, numbers (2 faces, 4 lives, 5 takes, 6 seed), the stone, the friend, laws -/
abbrev Dt : Type := List (List Nat) × List (List Nat × List OT) × (Nat → Nat) × (Nat → Nat) × (Nat → Nat) × (Nat → Lw)
def D0 : Dt := ([], [], fun j => if j = 2 then 1 else if j = 5 then 5 else 0, fun _ => 0, fun _ => 0, fun _ => [])
def kkT (Y : Tk) (D : Dt) (s : Ps) : Bool := D.2.1.any (fun x => x.1 == kkN Y s)
def tl1 (Y : Tk) (D : Dt) (s : Ps) : Dt × Ps :=
  if Y.1 s.1 = 20 then (if D.1.length = 4 then (D, fl Y 2 s) else ((D.1 ++ [Y.2.2.2 (go Y s).1], D.2), rwS Y D.1.length (D.1.headD []).length s))
  else if Y.1 s.1 = 22 then (if D.2.1.length = 4 then (D, fl Y 2 s) else ((D.1, D.2.1 ++ [(kkN Y s, kkO Y (kkT Y D s) s)], D.2.2), kkS Y (kkT Y D s) s))
  else if 25 ≤ Y.1 s.1 ∧ Y.1 s.1 ≤ 27 then ((D.1, D.2.1, D.2.2.1, D.2.2.2.1, D.2.2.2.2.1, va_up D.2.2.2.2.2 (Y.1 s.1 - 25) (lwA Y s).1), (lwA Y s).2)
  else if Y.1 s.1 = 28 then ((D.1, D.2.1, D.2.2.1, spV Y s, D.2.2.2.2), spS Y s)
  else if Y.1 s.1 = 29 then ((D.1, D.2.1, D.2.2.1, D.2.2.2.1, spV Y s, D.2.2.2.2.2), spS Y s)
  else if Y.1 s.1 = 21 then ((D.1, D.2.1, va_up D.2.2.1 2 (iV Y 1 (go Y s)), D.2.2.2), iS Y 1 3 (go Y s))
  else if Y.1 s.1 = 30 then ((D.1, D.2.1, va_up D.2.2.1 4 (iV Y 0 (go Y s)), D.2.2.2), iS Y 0 2 (go Y s))
  else if Y.1 s.1 = 31 then ((D.1, D.2.1, va_up D.2.2.1 5 (iV Y 1 (go Y s)), D.2.2.2), iS Y 1 99 (go Y s))
  else if Y.1 s.1 = 32 then ((D.1, D.2.1, va_up D.2.2.1 6 (iV Y 0 (go Y s)), D.2.2.2), iS Y 0 9999 (go Y s))
  else (D, fl Y 1 s)
def tl (Y : Tk) (D : Dt) (s : Ps) : Dt × Ps := ((tl1 Y D s).1, mu Y 4 (tl1 Y D s).2)
/-- the class's street holds: numbers, spots -/
def CA (T : Sd) (D : Dt) : Prop := T.1 2 = D.2.2.1 2 ∧ T.1 4 = D.2.2.1 4 ∧ T.1 5 = D.2.2.1 5 ∧ T.1 6 = D.2.2.1 6 ∧ (∀ i, i < 3 → T.2 6 i = nI (D.2.2.2.1 i)) ∧ (∀ i, i < 3 → T.2 7 i = nI (D.2.2.2.2.1 i))
/-- kicks -/
def CB (T : Sd) (K : Ck) (D : Dt) : Prop := T.1 3 = D.2.1.length ∧ D.2.1.length ≤ 4 ∧ T.2 2 24 = nI 6 ∧ ∀ j, j < D.2.1.length → K.2.2.2.1 j = n32 (D.2.1.getD j ([], [])).1 ∧ ltO (D.2.1.getD j ([], [])).1 ∧ (D.2.1.getD j ([], [])).1.length ≤ 8 ∧ T.2 1 j = nI (D.2.1.getD j ([], [])).2.length ∧ (D.2.1.getD j ([], [])).2.length ≤ 6 ∧ osR T (6 * j) (D.2.1.getD j ([], [])).2
def lwG : Lw → Prop
  | [] => False
  | (none, e) :: t => ex_wf e 0 ∧ t = []
  | (some w, e) :: t => ex_wf w.1 0 ∧ ex_wf w.2 0 ∧ ex_wf e 0 ∧ lwG t
/-- laws -/
def CWl (T : Sd) (_ : Ua) (C : List Int32) (W : Nat → Lw) : Prop := LAc T C ∧ T.1 8 < 8 ∧ ∀ i, i < 3 → (T.2 9 i = -1 ∧ W i = []) ∨ (lwG (W i) ∧ ∃ b : Nat, T.2 9 i = nI b ∧ b + (lcode b (W i)).length ≤ C.length ∧ (∀ j, j < (lcode b (W i)).length → C.getD (b + j) 0 = (lcode b (W i)).getD j 0) ∧ (usL (W i) = true → T.1 8 / 2 ^ i % 2 = 1))
/-- squares; good: nothing was wrong so far -/
def CRw (T : Sd) (D : Dt) (good : Prop) : Prop := T.1 1 = D.1.length ∧ D.1.length ≤ 4 ∧ T.1 0 ≤ 8 ∧ (¬ D.1 = [] → T.1 0 = (D.1.headD []).length) ∧ (good → (∀ e, e < D.1.length → (D.1.getD e []).length = T.1 0 ∧ okR (D.1.getD e []) = true ∧ ∀ a, a < T.1 0 → T.2 0 (e * 8 + a) = soL ((D.1.getD e []).getD a 0)) ∧ ∀ a, a < 32 → ¬ (a % 8 < T.1 0 ∧ a / 8 < D.1.length) → T.2 0 a = -1)
def CDt (T : Sd) (u : Ua) (K : Ck) (C : List Int32) (D : Dt) (good : Prop) : Prop := CA T D ∧ CB T K D ∧ CWl T u C D.2.2.2.2.2 ∧ CRw T D good
def KQ7 (K K' : Ck) : Prop := (∀ n, n < 2 ∨ 11 < n → K'.1 n = K.1 n) ∧ K'.2.1 = K.2.1 ∧ K'.2.2.1 = K.2.2.1 ∧ K'.2.2.2.2 = K.2.2.2.2
theorem KQ7.tr {K K1 K2 : Ck} (h : KQ7 K K1) (h1 : KQ7 K1 K2) : KQ7 K K2 := ⟨fun n hn => (h1.1 n hn).trans (h.1 n hn), h1.2.1.trans h.2.1, h1.2.2.1.trans h.2.2.1, h1.2.2.2.trans h.2.2.2⟩
theorem KQ.k7 {K K' : Ck} (h : KQ K K') : KQ7 K K' := ⟨fun n hn => h.1 n (by omega), by rw [h.2], by rw [h.2], by rw [h.2]⟩
theorem KQ4.k7 {K K' : Ck} (h : KQ4 K K') : KQ7 K K' := ⟨fun n hn => h.1 n (by omega), h.2.1, h.2.2.1, h.2.2.2⟩
theorem KQ6.k7 {K K' : Ck} (h : KQ6 K K') : KQ7 K K' := ⟨h.1, by rw [h.2], by rw [h.2], by rw [h.2]⟩
theorem CA.cg {T T' : Sd} {D : Dt} (h : CA T D) (h1 : ∀ j, j = 2 ∨ j = 4 ∨ j = 5 ∨ j = 6 → T'.1 j = T.1 j) (h2 : ∀ j, j = 6 ∨ j = 7 → T'.2 j = T.2 j) : CA T' D := by
  unfold CA
  rw [h1 2 (by omega), h1 4 (by omega), h1 5 (by omega), h1 6 (by omega), h2 6 (by omega), h2 7 (by omega)]
  exact h
theorem CB.cg {T T' : Sd} {K K' : Ck} {D : Dt} (h : CB T K D) (h1 : T'.1 3 = T.1 3) (h2 : ∀ j, 1 ≤ j → j ≤ 5 → T'.2 j = T.2 j) (h3 : K'.2.2.2.1 = K.2.2.2.1) : CB T' K' D := by
  unfold CB
  rw [h1, h2 1 (by omega) (by omega), h2 2 (by omega) (by omega), h3]
  obtain ⟨a1, a2, a3, a4⟩ := h
  refine ⟨a1, a2, a3, fun j hj => ?_⟩
  obtain ⟨b1, b2, b3, b4, b5, b6⟩ := a4 j hj
  exact ⟨b1, b2, b3, b4, b5, osR_cg _ _ (fun j h5 h6 i _ _ => by rw [h2 j (by omega) h6]) b6⟩
theorem CWl.cg {T T' : Sd} {u u' : Ua} {C : List Int32} {W : Nat → Lw} (h : CWl T u C W) (h1 : T'.1 7 = T.1 7) (h2 : T'.1 8 = T.1 8) (h3 : T'.2 8 = T.2 8) (h4 : T'.2 9 = T.2 9) : CWl T' u' C W := by
  obtain ⟨a1, a2, a3⟩ := h
  refine ⟨?_, by rw [h2]; exact a2, by rw [h2, h4]; exact a3⟩
  unfold LAc at *
  rw [h1, h3]
  exact a1
theorem CRw.cg {T T' : Sd} {D : Dt} {good good' : Prop} (h : CRw T D good) (h1 : ∀ j, j < 2 → T'.1 j = T.1 j) (h2 : T'.2 0 = T.2 0) (hg : good' → good) : CRw T' D good' := by
  unfold CRw at *
  rw [h1 0 (by omega), h1 1 (by omega), h2]
  exact ⟨h.1, h.2.1, h.2.2.1, h.2.2.2.1, fun g => h.2.2.2.2 (hg g)⟩
/-- what was wrong stays -/
theorem wr_l {c p : Nat} {s : Ps} (hf : s.2.1.1 = 0) (hc : 1 ≤ c) : ¬ (wr c p s).2.2.1 = 0 := by
  unfold wr
  split
  · show ¬ c = 0; omega
  · rename_i h; exact fun w => h ⟨hf, Or.inl w⟩
theorem go_l {Y : Tk} {s : Ps} : (go Y s).2.2 = s.2.2 := by unfold go; split <;> (try split) <;> rfl
theorem fl_l {Y : Tk} {c : Nat} {s : Ps} : (fl Y c s).2.2 = s.2.2 := by unfold fl; split <;> rfl
theorem mu_l {Y : Tk} {k : Nat} {s : Ps} : (mu Y k s).2.2 = s.2.2 := by unfold mu; split <;> first | exact fl_l | exact go_l
theorem wr_m {c p : Nat} {s : Ps} (hc : 1 ≤ c) (h : (wr c p s).2.2.1 = 0) : s.2.2.1 = 0 := by
  unfold wr at h
  split at h
  · exact absurd h (by show ¬ c = 0; omega)
  · exact h
theorem iS_m {Y : Tk} {lo hi : Nat} {s : Ps} (h : (iS Y lo hi s).2.2.1 = 0) : s.2.2.1 = 0 := by
  unfold iS at h
  split at h
  · rw [fl_l] at h; exact h
  · rw [go_l] at h
    split at h
    · exact wr_m (by decide) h
    · exact h
theorem yd_l {Y : Tk} : ∀ (n : Nat) (w : Bool) (d : Nat) (l : List Nat) (e : Ex) (s : Ps), (yd Y n w d l e s).2.2.2 = s.2.2 := by
  intro n
  induction n with
  | zero => intro w d l e s; rfl
  | succ n ih =>
    intro w d l e s
    have hx : ∀ (w' : Bool) (d' : Nat) (l' : List Nat) (e' : Ex), (yd Y n w' d' l' e' (go Y s)).2.2.2 = s.2.2 := fun w' d' l' e' => (ih _ _ _ _ _).trans go_l
    rw [yd]
    split
    · rfl
    · cases w with
      | true =>
        show (if Y.1 s.1 = 6 then _ else _ : Ex × Ps).2.2.2 = _
        split
        · split
          · exact fl_l
          · exact hx _ _ _ _
        · split
          · exact hx _ _ _ _
          · split
            · exact hx _ _ _ _
            · exact fl_l
      | false =>
        show (if Y.1 s.1 = 7 ∧ 0 < d then _ else _ : Ex × Ps).2.2.2 = _
        split
        · exact hx _ _ _ _
        · split
          · exact hx _ _ _ _
          · split
            · exact fl_l
            · rfl
theorem xp_l {Y : Tk} {s : Ps} : (xp Y s).2.2.2 = s.2.2 := yd_l _ _ _ _ _ _
theorem lwB_l {Y : Tk} {s : Ps} : (lwB Y s).2.2.2 = s.2.2 := by
  show (mu Y 35 _).2.2 = _
  rw [mu_l, xp_l, mu_l, xp_l, mu_l, xp_l, go_l]
theorem lwL_l {Y : Tk} : ∀ (n : Nat) (s : Ps), (lwL Y n s).2.2.2 = s.2.2 := by
  intro n
  induction n with
  | zero => intro s; rw [lwL]; split <;> first | exact fl_l | exact xp_l
  | succ n ih => intro s; rw [lwL]; split <;> first | exact (ih _).trans lwB_l | exact xp_l
theorem lwA_l {Y : Tk} {s : Ps} : (lwA Y s).2.2.2 = s.2.2 := by unfold lwA; rw [lwL_l, mu_l, go_l]
theorem otc_m {Y : Tk} {s : Ps} (h : (otc Y s).2.2.2.1 = 0) : s.2.2.1 = 0 := by
  have hb : ∀ (b : Bool) (x : Ps), (bif b then go Y x else x).2.2 = x.2.2 := by intro b x; cases b <;> first | rfl | exact go_l
  have hc : ∀ (b : Bool) (x : Ps), (bif b then iS Y 0 2 x else x).2.2.1 = 0 → x.2.2.1 = 0 := by intro b x; cases b <;> first | exact id | exact iS_m
  have h := hc _ _ h
  rw [hb] at h
  have h := iS_m h
  rw [hb] at h
  have h := iS_m h
  rw [mu_l] at h
  exact iS_m h
theorem ots_m {Y : Tk} : ∀ (n : Nat) (s : Ps), (ots Y n s).2.2.2.1 = 0 → s.2.2.1 = 0 := by
  intro n
  induction n with
  | zero => intro s; rw [ots]; split <;> first | (intro h; rw [fl_l] at h; exact h) | exact id
  | succ n ih => intro s; rw [ots]; split <;> first | (intro h; exact otc_m (ih _ h)) | exact id

